theorem hpI_b {T : BT} {K : IT} {o c : Nat} {s : Int32} {h : Nat} : ∀ (n i b : Nat), hpI T K o c s h i n = some b → bit T K o c s h b = true := by
  intro n
  induction n with
  | zero =>
    intro i b hb
    cases hb
  | succ n ih =>
    intro i b hb
    have hb : (if bit T K o c s h i = true then some i else hpI T K o c s h (i + 1) n) = some b := hb
    by_cases hc : bit T K o c s h i = true
    · rw [if_pos hc] at hb
      cases hb
      exact hc
    · rw [if_neg hc] at hb
      exact ih (i + 1) b hb
theorem hpD_b {T : BT} {K : IT} {o c : Nat} {s : Int32} {f : Nat} : ∀ (d : Nat) (x : Nat × Nat), hpD T K o c s f d = some x → bit T K o c s ((f + c - x.1) % c) x.2 = true ∧ x.2 < x.1 ∧ x.1 ≤ d := by
  intro d
  induction d with
  | zero =>
    intro x h
    cases h
  | succ d ih =>
    intro x h
    cases hq : hpI T K o c s ((f + c - (d + 1)) % c) 0 (d + 1) with
    | some i =>
      rw [hpD_s hq] at h
      cases h
      have := hpI_lt _ _ _ hq
      exact ⟨hpI_b _ _ _ hq, by show i < d + 1; omega, Nat.le_refl _⟩
    | none =>
      rw [hpD_n hq] at h
      have := ih x h
      exact ⟨this.1, this.2.1, by omega⟩
theorem md_f {c f d : Nat} (h : pw c) (hd : d ≤ 7) : (f % c + c - d) % c = (f + c - d) % c := by
  rcases h with rfl | rfl | rfl | rfl | rfl <;> omega
theorem hpD_md {T : BT} {K : IT} {o c : Nat} {s : Int32} {f : Nat} (h : pw c) : ∀ d, d ≤ 7 → hpD T K o c s (f % c) d = hpD T K o c s f d := by
  intro d
  induction d with
  | zero =>
    intro _
    rfl
  | succ d ih =>
    intro hd
    show (match hpI T K o c s ((f % c + c - (d + 1)) % c) 0 (d + 1) with | some i => some (d + 1, i) | none => hpD T K o c s (f % c) d) = (match hpI T K o c s ((f + c - (d + 1)) % c) 0 (d + 1) with | some i => some (d + 1, i) | none => hpD T K o c s f d)
    rw [md_f h hd, ih (by omega)]
theorem md_g {c h b d i : Nat} (hc : pw c) (hh : h < c) (hb : b < c) (h8 : 8 ≤ b) (hd : d ≤ 7) (hi : i < d) : ((h + b + c - d) % c + i) % c = (h + (b - (d - i))) % c := by
  rcases hc with rfl | rfl | rfl | rfl | rfl <;> omega
theorem md_h {c h b : Nat} (hc : pw c) (hh : h < c) (hb : b < c) : ((h + b) % c + c - h) % c = b := by
  rcases hc with rfl | rfl | rfl | rfl | rfl <;> omega
theorem bit_T {T : BT} {K : IT} {o c : Nat} {s : Int32} {h i : Nat} (hb : bit T K o c s h i = true) : T (o + (h + i) % c) = true := by
  unfold bit at hb
  rw [Bool.and_eq_true] at hb
  exact hb.1
set_option maxHeartbeats 4000000 in
set_option maxRecDepth 100000 in
/-- distanceAt -/
theorem c_Mod_distanceAt (l : Launch) (D : va_G) (ca a : Nat → Nat) (z : Int32) (F : BT) (K V : IT) (P B : Nat → Nat) (S C : IT) (N : Nat) (HK HV : IT) (OF : BT) (OK OV : IT) (m : Nat) (hm : m < 3) (x : Nat) (hc : pw (P m)) (hx9 : x < 128) : Met l y_Mod_distanceAt w_Mod_distanceAt (rmD 1 0 0) (va_Pc [.ref (a 0), .int (nI m), .int (nI x)] (hb_R D mCl (wM ca a z F K V P B S C N HK HV OF OK OV) (tyM ca))) (hq_R (some (.int (nI ((x + P m - hom (K (128 * m + x)) (S m) (P m)) % P m))))) 0 0 hq_no := by
  refine Met.ofW (cc := b_Mod_distanceAt) (maxL := 4) (ret := some .int) (by decide) rfl ?_
  intro p e s m0 args below meth c0 s₁ B0 hml hv
  obtain ⟨rfl, hP, hK⟩ := hv
  have hx := B0.exec
  have hb := B0.bytes
  have hr := B0.returns
  have hts := atoms_spec (ws := w_Mod_distanceAt) B0.pre
  have hown : s.vm.findClass R_Mod = some m0.cls := findClass_of_methodNamed B0.named
  have hlocks := B0.notSynchronized
  have hwA : ∀ w ∈ wsA, w.before ([.ref (a 0), .int (nI m), .int (nI x)] : List Value).toArray s = true := fun w h => hts w (List.mem_cons_of_mem _ h)
  have X : CallFix p m0 c0 b_Mod_distanceAt 4 s ([.ref (a 0), .int (nI m), .int (nI x)] : List Value).toArray wsA R_Mod := ⟨hx, hb, hml, hown, hwA⟩
  have hl := lv_entry ([.ref (a 0), .int (nI m), .int (nI x)]) (n := 4) (Nat.le_of_ble_eq_true rfl)
  rw [lg_entry_eq]
  generalize (lg_sl ([.ref (a 0), .int (nI m), .int (nI x)]) ++ List.replicate (4 - (lg_sl ([.ref (a 0), .int (nI m), .int (nI x)])).length) Slot.unset).toArray = ls at hl ⊢
  have hl : lv_has ls 4 [(0, .ref (a 0)), (1, .int (nI m)), (2, .int (nI x))] := hl
  refine lv_aload_n hx hb d_Mod_distanceAt_0 rfl (lv_at hl 0 rfl) ?_
  refine lv_iload_n hx hb d_Mod_distanceAt_1 rfl (lv_at hl 1 rfl) ?_
  refine lv_aload_n hx hb d_Mod_distanceAt_2 rfl (lv_at hl 0 rfl) ?_
  refine mg_keys X hK hP d_Mod_distanceAt_3 ?_
  refine lv_sipush (v := 128) hx hb d_Mod_distanceAt_6 (by decide) ?_
  refine lv_iload_n hx hb d_Mod_distanceAt_9 rfl (lv_at hl 1 rfl) ?_
  refine lv_imul hx hb d_Mod_distanceAt_10 ?_
  refine lv_tope (y := nI (128 * m)) (pk_mul (128) (m)) ?_
  refine lv_iload_n hx hb d_Mod_distanceAt_11 rfl (lv_at hl 2 rfl) ?_
  refine lv_iadd hx hb d_Mod_distanceAt_12 ?_
  refine lv_tope (y := nI (128 * m + x)) (nI_add (128 * m) (x)) ?_
  refine ml_K X hK hP (i := 128 * m + x) (by omega) d_Mod_distanceAt_13 ?_
  refine km_homeOf X hK hP hl.1 (m := m) (key := K (128 * m + x)) hm hc (Nat.le_of_ble_eq_true rfl) ⟨Nat.zero_le _, Nat.zero_le _⟩ ⟨Nat.le_of_ble_eq_true rfl, Nat.le_of_ble_eq_true rfl⟩ d_Mod_distanceAt_14 ?_
  refine lv_istore_n (lv' := [(3, .int (nI (hom (K (128 * m + x)) (S m) (P m)))), (0, .ref (a 0)), (1, .int (nI m)), (2, .int (nI x))]) hx hb d_Mod_distanceAt_17 rfl hl (by decide) rfl (fun ls hl => ?_)
  refine lv_iload_n hx hb d_Mod_distanceAt_18 rfl (lv_at hl 3 rfl) ?_
  refine lv_iload_n hx hb d_Mod_distanceAt_19 rfl (lv_at hl 0 rfl) ?_
  refine lv_isub hx hb d_Mod_distanceAt_20 ?_
  refine lv_aload_n hx hb d_Mod_distanceAt_21 rfl (lv_at hl 1 rfl) ?_
  refine mg_capacity X hK hP d_Mod_distanceAt_22 ?_
  refine lv_iload_n hx hb d_Mod_distanceAt_25 rfl (lv_at hl 2 rfl) ?_
  refine ml_P X hK hP (i := m) (by omega) d_Mod_distanceAt_26 ?_
  refine lv_iconst (v := 1) hx hb d_Mod_distanceAt_27 (by decide) ?_
  refine lv_isub hx hb d_Mod_distanceAt_28 ?_
  refine lv_iand hx hb d_Mod_distanceAt_29 ?_
  refine lv_tope (y := nI ((x + P m - hom (K (128 * m + x)) (S m) (P m)) % P m)) (pw_subN hc (by omega) (Nat.le_of_lt (hom_lt hc))) ?_
  exact W.iret (v := nI ((x + P m - hom (K (128 * m + x)) (S m) (P m)) % P m)) hx hb hr (fun t ht hW => ⟨rfl, ht⟩) hq_nl d_Mod_distanceAt_30
set_option maxHeartbeats 4000000 in
set_option maxRecDepth 100000 in
/-- bitsOf -/
theorem c_Mod_bitsOf (l : Launch) (D : va_G) (ca a : Nat → Nat) (z : Int32) (F : BT) (K V : IT) (P B : Nat → Nat) (S C : IT) (N : Nat) (HK HV : IT) (OF : BT) (OK OV : IT) (m : Nat) (hm : m < 3) (h : Nat) (hc : pw (P m)) (hh : h < P m) : Met l y_Mod_bitsOf w_Mod_bitsOf (rmD 1 0 0) (va_Pc [.ref (a 0), .int (nI m), .int (nI h)] (hb_R D mCl (wM ca a z F K V P B S C N HK HV OF OK OV) (tyM ca))) (hq_R (some (.int (rowB (fun i => bit F K (128 * m) (P m) (S m) h i) 8)))) 0 0 hq_no := by
  refine Met.ofW (cc := b_Mod_bitsOf) (maxL := 7) (ret := some .int) (by decide) rfl ?_
  intro p e s m0 args below meth c0 s₁ B0 hml hv
  obtain ⟨rfl, hP, hK⟩ := hv
  have hx := B0.exec
  have hb := B0.bytes
  have hr := B0.returns
  have hts := atoms_spec (ws := w_Mod_bitsOf) B0.pre
  have hown : s.vm.findClass R_Mod = some m0.cls := findClass_of_methodNamed B0.named
  have hlocks := B0.notSynchronized
  have hwA : ∀ w ∈ wsA, w.before ([.ref (a 0), .int (nI m), .int (nI h)] : List Value).toArray s = true := fun w h => hts w (List.mem_cons_of_mem _ h)
  have X : CallFix p m0 c0 b_Mod_bitsOf 7 s ([.ref (a 0), .int (nI m), .int (nI h)] : List Value).toArray wsA R_Mod := ⟨hx, hb, hml, hown, hwA⟩
  have hl := lv_entry ([.ref (a 0), .int (nI m), .int (nI h)]) (n := 7) (Nat.le_of_ble_eq_true rfl)
  rw [lg_entry_eq]
  generalize (lg_sl ([.ref (a 0), .int (nI m), .int (nI h)]) ++ List.replicate (7 - (lg_sl ([.ref (a 0), .int (nI m), .int (nI h)])).length) Slot.unset).toArray = ls at hl ⊢
  have hl : lv_has ls 7 [(0, .ref (a 0)), (1, .int (nI m)), (2, .int (nI h))] := hl
  have hp8 := pw_le hc
  have loop : ∀ (n i : Nat) (ls : Array Slot), i + n = 8 → lv_has ls 7 [(4, .int (nI i)), (3, .int (rowB (fun i => bit F K (128 * m) (P m) (S m) h i) i)), (0, .ref (a 0)), (1, .int (nI m)), (2, .int (nI h))] → W p l e (headSpec w_Mod_bitsOf (rmD 1 0 0)).room s m0 ([.ref (a 0), .int (nI m), .int (nI h)] : List Value).toArray below meth c0 s.heap [] 0 0 (MQ below (hq_R (some (.int (rowB (fun i => bit F K (128 * m) (P m) (S m) h i) 8)))) ([.ref (a 0), .int (nI m), .int (nI h)] : List Value).toArray s 0 0 hq_no) (F0 m0 5 ls []) := by
    intro n
    induction n with
    | zero =>
      intro i ls hi hl
      have hi8 : i = 8 := by omega
      refine lv_iload hx hb d_Mod_bitsOf_5 (lv_at hl 0 rfl) ?_
      refine lv_bipush (v := 8) hx hb d_Mod_bitsOf_7 (by decide) ?_
      refine lvT_icmp_ge (tgt := 89) hx hb d_Mod_bitsOf_9 (by decide) (nI_le (a := 8) (b := i) (by omega) (by omega)) ?_
      refine lv_iload_n hx hb d_Mod_bitsOf_89 rfl (lv_at hl 1 rfl) ?_
      exact W.iret (v := rowB (fun i => bit F K (128 * m) (P m) (S m) h i) i) hx hb hr (fun t ht hW => ⟨by rw [hi8], ht⟩) hq_nl d_Mod_bitsOf_90
    | succ n ih =>
      intro i ls hi hl
      have hsl := md_lt (x := h + i) hc
      have hho := hom_lt (key := K (128 * m + (h + i) % P m)) (s := S m) hc
      refine lv_iload hx hb d_Mod_bitsOf_5 (lv_at hl 0 rfl) ?_
      refine lv_bipush (v := 8) hx hb d_Mod_bitsOf_7 (by decide) ?_
      refine lvF_icmp_ge (tgt := 89) hx hb d_Mod_bitsOf_9 (by decide) (nI_ge (a := i) (b := 8) (by omega) (by omega)) ?_
      refine lv_aload_n hx hb d_Mod_bitsOf_12 rfl (lv_at hl 2 rfl) ?_
      refine lv_iload_n hx hb d_Mod_bitsOf_13 rfl (lv_at hl 3 rfl) ?_
      refine lv_iload_n hx hb d_Mod_bitsOf_14 rfl (lv_at hl 4 rfl) ?_
      refine lv_iload hx hb d_Mod_bitsOf_15 (lv_at hl 0 rfl) ?_
      refine km_behind X hK hP hl.1 (m := m) (x := h) (i := i) hm hc (by omega) (Nat.le_of_ble_eq_true rfl) ⟨Nat.zero_le _, Nat.zero_le _⟩ ⟨Nat.le_of_ble_eq_true rfl, Nat.le_of_ble_eq_true rfl⟩ d_Mod_bitsOf_17 ?_
      refine lv_istore (lv' := [(5, .int (nI ((h + i) % P m))), (4, .int (nI i)), (3, .int (rowB (fun i => bit F K (128 * m) (P m) (S m) h i) i)), (0, .ref (a 0)), (1, .int (nI m)), (2, .int (nI h))]) hx hb d_Mod_bitsOf_20 hl (by decide) rfl (fun ls hl => ?_)
      refine lv_aload_n hx hb d_Mod_bitsOf_22 rfl (lv_at hl 3 rfl) ?_
      refine mg_full X hK hP d_Mod_bitsOf_23 ?_
      refine lv_sipush (v := 128) hx hb d_Mod_bitsOf_26 (by decide) ?_
      refine lv_iload_n hx hb d_Mod_bitsOf_29 rfl (lv_at hl 4 rfl) ?_
      refine lv_imul hx hb d_Mod_bitsOf_30 ?_
      refine lv_tope (y := nI (128 * m)) (pk_mul (128) (m)) ?_
      refine lv_iload hx hb d_Mod_bitsOf_31 (lv_at hl 0 rfl) ?_
      refine lv_iadd hx hb d_Mod_bitsOf_33 ?_
      refine lv_tope (y := nI (128 * m + ((h + i) % P m))) (nI_add (128 * m) ((h + i) % P m)) ?_
      refine ml_F X hK hP (i := 128 * m + ((h + i) % P m)) (by omega) d_Mod_bitsOf_34 ?_
      refine lv_if_eq (tgt := 64) hx hb d_Mod_bitsOf_35 (by decide) (fun h1 => ?_) (fun h1 => ?_)
      · have eb : bit F K (128 * m) (P m) (S m) h i = false := by unfold bit; rw [bI_0.mp h1]; rfl
        have e1 : rowB (fun i => bit F K (128 * m) (P m) (S m) h i) (i + 1) = rowB (fun i => bit F K (128 * m) (P m) (S m) h i) i := if_neg (fun z => absurd (eb.symm.trans z) (by decide))
        refine lv_iconst (v := 0) hx hb d_Mod_bitsOf_64 (by decide) ?_
        refine lv_istore (lv' := [(6, .int 0), (5, .int (nI ((h + i) % P m))), (4, .int (nI i)), (3, .int (rowB (fun i => bit F K (128 * m) (P m) (S m) h i) i)), (0, .ref (a 0)), (1, .int (nI m)), (2, .int (nI h))]) hx hb d_Mod_bitsOf_65 hl (by decide) rfl (fun ls hl => ?_)
        refine lv_iload hx hb d_Mod_bitsOf_67 (lv_at hl 0 rfl) ?_
        refine lvT_if_eq (tgt := 81) hx hb d_Mod_bitsOf_69 (by decide) (rfl) ?_
        refine lv_iload_n hx hb d_Mod_bitsOf_81 rfl (lv_at hl 3 rfl) ?_
        refine lv_istore_n (lv' := [(3, .int (rowB (fun i => bit F K (128 * m) (P m) (S m) h i) i)), (6, .int 0), (5, .int (nI ((h + i) % P m))), (4, .int (nI i)), (0, .ref (a 0)), (1, .int (nI m)), (2, .int (nI h))]) hx hb d_Mod_bitsOf_82 rfl hl (by decide) rfl (fun ls hl => ?_)
        refine lv_iinc (k := 3) (v := nI (i + 1)) (lv' := [(4, .int (nI (i + 1))), (3, .int (rowB (fun i => bit F K (128 * m) (P m) (S m) h i) i)), (6, .int 0), (5, .int (nI ((h + i) % P m))), (0, .ref (a 0)), (1, .int (nI m)), (2, .int (nI h))]) hx hb d_Mod_bitsOf_83 hl rfl (inc1 i) (by decide) rfl (fun ls hl => ?_)
        refine lv_goto (tgt := 5) hx hb d_Mod_bitsOf_86 (by decide) ?_
        exact ih (i + 1) ls (by omega) (by rw [e1]; exact lv_sub hl [0, 1, 4, 5, 6] rfl)
      · refine lv_aload_n hx hb d_Mod_bitsOf_38 rfl (lv_at hl 3 rfl) ?_
        refine lv_iload_n hx hb d_Mod_bitsOf_39 rfl (lv_at hl 4 rfl) ?_
        refine lv_aload_n hx hb d_Mod_bitsOf_40 rfl (lv_at hl 3 rfl) ?_
        refine mg_keys X hK hP d_Mod_bitsOf_41 ?_
        refine lv_sipush (v := 128) hx hb d_Mod_bitsOf_44 (by decide) ?_
        refine lv_iload_n hx hb d_Mod_bitsOf_47 rfl (lv_at hl 4 rfl) ?_
        refine lv_imul hx hb d_Mod_bitsOf_48 ?_
        refine lv_tope (y := nI (128 * m)) (pk_mul (128) (m)) ?_
        refine lv_iload hx hb d_Mod_bitsOf_49 (lv_at hl 0 rfl) ?_
        refine lv_iadd hx hb d_Mod_bitsOf_51 ?_
        refine lv_tope (y := nI (128 * m + ((h + i) % P m))) (nI_add (128 * m) ((h + i) % P m)) ?_
        refine ml_K X hK hP (i := 128 * m + ((h + i) % P m)) (by omega) d_Mod_bitsOf_52 ?_
        refine km_homeOf X hK hP hl.1 (m := m) (key := K (128 * m + ((h + i) % P m))) hm hc (Nat.le_of_ble_eq_true rfl) ⟨Nat.zero_le _, Nat.zero_le _⟩ ⟨Nat.le_of_ble_eq_true rfl, Nat.le_of_ble_eq_true rfl⟩ d_Mod_bitsOf_53 ?_
        refine lv_iload_n hx hb d_Mod_bitsOf_56 rfl (lv_at hl 5 rfl) ?_
        refine lv_icmp_ne (tgt := 64) hx hb d_Mod_bitsOf_57 (by decide) (fun h2 => ?_) (fun h2 => ?_)
        · have eb : bit F K (128 * m) (P m) (S m) h i = false := by unfold bit; rw [bI_n0.mp h1, decide_eq_false (fun z => h2 ((nI_eq (by omega) (by omega)).mpr z))]; rfl
          have e1 : rowB (fun i => bit F K (128 * m) (P m) (S m) h i) (i + 1) = rowB (fun i => bit F K (128 * m) (P m) (S m) h i) i := if_neg (fun z => absurd (eb.symm.trans z) (by decide))
          refine lv_iconst (v := 0) hx hb d_Mod_bitsOf_64 (by decide) ?_
          refine lv_istore (lv' := [(6, .int 0), (5, .int (nI ((h + i) % P m))), (4, .int (nI i)), (3, .int (rowB (fun i => bit F K (128 * m) (P m) (S m) h i) i)), (0, .ref (a 0)), (1, .int (nI m)), (2, .int (nI h))]) hx hb d_Mod_bitsOf_65 hl (by decide) rfl (fun ls hl => ?_)
          refine lv_iload hx hb d_Mod_bitsOf_67 (lv_at hl 0 rfl) ?_
          refine lvT_if_eq (tgt := 81) hx hb d_Mod_bitsOf_69 (by decide) (rfl) ?_
          refine lv_iload_n hx hb d_Mod_bitsOf_81 rfl (lv_at hl 3 rfl) ?_
          refine lv_istore_n (lv' := [(3, .int (rowB (fun i => bit F K (128 * m) (P m) (S m) h i) i)), (6, .int 0), (5, .int (nI ((h + i) % P m))), (4, .int (nI i)), (0, .ref (a 0)), (1, .int (nI m)), (2, .int (nI h))]) hx hb d_Mod_bitsOf_82 rfl hl (by decide) rfl (fun ls hl => ?_)
          refine lv_iinc (k := 3) (v := nI (i + 1)) (lv' := [(4, .int (nI (i + 1))), (3, .int (rowB (fun i => bit F K (128 * m) (P m) (S m) h i) i)), (6, .int 0), (5, .int (nI ((h + i) % P m))), (0, .ref (a 0)), (1, .int (nI m)), (2, .int (nI h))]) hx hb d_Mod_bitsOf_83 hl rfl (inc1 i) (by decide) rfl (fun ls hl => ?_)
          refine lv_goto (tgt := 5) hx hb d_Mod_bitsOf_86 (by decide) ?_
          exact ih (i + 1) ls (by omega) (by rw [e1]; exact lv_sub hl [0, 1, 4, 5, 6] rfl)
        · have eb : bit F K (128 * m) (P m) (S m) h i = true := by unfold bit; rw [bI_n0.mp h1, decide_eq_true ((nI_eq (by omega) (by omega)).mp h2)]; rfl
          have e1 : rowB (fun i => bit F K (128 * m) (P m) (S m) h i) (i + 1) = rowB (fun i => bit F K (128 * m) (P m) (S m) h i) i ||| ((1 : Int32) <<< (nI i &&& 31)) := if_pos eb
          refine lv_iconst (v := 1) hx hb d_Mod_bitsOf_60 (by decide) ?_
          refine lv_goto (tgt := 65) hx hb d_Mod_bitsOf_61 (by decide) ?_
          refine lv_istore (lv' := [(6, .int 1), (5, .int (nI ((h + i) % P m))), (4, .int (nI i)), (3, .int (rowB (fun i => bit F K (128 * m) (P m) (S m) h i) i)), (0, .ref (a 0)), (1, .int (nI m)), (2, .int (nI h))]) hx hb d_Mod_bitsOf_65 hl (by decide) rfl (fun ls hl => ?_)
          refine lv_iload hx hb d_Mod_bitsOf_67 (lv_at hl 0 rfl) ?_
          refine lvF_if_eq (tgt := 81) hx hb d_Mod_bitsOf_69 (by decide) (by decide) ?_
          refine lv_iload_n hx hb d_Mod_bitsOf_72 rfl (lv_at hl 3 rfl) ?_
          refine lv_iconst (v := 1) hx hb d_Mod_bitsOf_73 (by decide) ?_
          refine lv_iload hx hb d_Mod_bitsOf_74 (lv_at hl 2 rfl) ?_
          refine lv_ishl hx hb d_Mod_bitsOf_76 ?_
          refine lv_ior hx hb d_Mod_bitsOf_77 ?_
          refine lv_goto (tgt := 82) hx hb d_Mod_bitsOf_78 (by decide) ?_
          refine lv_istore_n (lv' := [(3, .int ((rowB (fun i => bit F K (128 * m) (P m) (S m) h i) i) ||| ((1) <<< ((nI i) &&& 31)))), (6, .int 1), (5, .int (nI ((h + i) % P m))), (4, .int (nI i)), (0, .ref (a 0)), (1, .int (nI m)), (2, .int (nI h))]) hx hb d_Mod_bitsOf_82 rfl hl (by decide) rfl (fun ls hl => ?_)
          refine lv_iinc (k := 3) (v := nI (i + 1)) (lv' := [(4, .int (nI (i + 1))), (3, .int ((rowB (fun i => bit F K (128 * m) (P m) (S m) h i) i) ||| ((1) <<< ((nI i) &&& 31)))), (6, .int 1), (5, .int (nI ((h + i) % P m))), (0, .ref (a 0)), (1, .int (nI m)), (2, .int (nI h))]) hx hb d_Mod_bitsOf_83 hl rfl (inc1 i) (by decide) rfl (fun ls hl => ?_)
          refine lv_goto (tgt := 5) hx hb d_Mod_bitsOf_86 (by decide) ?_
          exact ih (i + 1) ls (by omega) (by rw [e1]; exact lv_sub hl [0, 1, 4, 5, 6] rfl)
  refine lv_iconst (v := 0) hx hb d_Mod_bitsOf_0 (by decide) ?_
  refine lv_istore_n (lv' := [(3, .int 0), (0, .ref (a 0)), (1, .int (nI m)), (2, .int (nI h))]) hx hb d_Mod_bitsOf_1 rfl hl (by decide) rfl (fun ls hl => ?_)
  refine lv_iconst (v := 0) hx hb d_Mod_bitsOf_2 (by decide) ?_
  refine lv_istore (lv' := [(4, .int 0), (3, .int 0), (0, .ref (a 0)), (1, .int (nI m)), (2, .int (nI h))]) hx hb d_Mod_bitsOf_3 hl (by decide) rfl (fun ls hl => ?_)
  exact loop 8 0 ls rfl (lv_sub hl [0, 1, 2, 3, 4] rfl)
set_option maxHeartbeats 4000000 in
set_option maxRecDepth 100000 in
/-- move -/
theorem c_Mod_move (l : Launch) (D : va_G) (ca a : Nat → Nat) (z : Int32) (F : BT) (K V : IT) (P B : Nat → Nat) (S C : IT) (N : Nat) (HK HV : IT) (OF : BT) (OK OV : IT) (m : Nat) (hm : m < 3) (f t : Nat) (hf9 : f < 128) (ht9 : t < 128) : Met l y_Mod_move w_Mod_move (rmD 0 0 0) (va_Pc [.ref (a 0), .int (nI m), .int (nI f), .int (nI t)] (hb_W D mCl (wM ca a z F K V P B S C N HK HV OF OK OV) (tyM ca))) (hq_W (none) D mCl (wM ca a z (va_up (va_up F (128 * m + t) true) (128 * m + f) false) (upd K (128 * m + t) (K (128 * m + f))) (upd V (128 * m + t) (V (128 * m + f))) P B S (upd C 0 (C 0 + 1)) N HK HV OF OK OV) (hA (wM ca a z F K V P B S C N HK HV OF OK OV))) 0 0 (hA (wM ca a z F K V P B S C N HK HV OF OK OV)) := by
  refine Met.ofW (cc := b_Mod_move) (maxL := 6) (ret := none) (by decide) rfl ?_
  intro p e s m0 args below meth c0 s₁ B0 hml hv
  obtain ⟨rfl, hP, hK, hD0⟩ := hv
  have hx := B0.exec
  have hb := B0.bytes
  have hr := B0.returns
  have hts := atoms_spec (ws := w_Mod_move) B0.pre
  have hown : s.vm.findClass R_Mod = some m0.cls := findClass_of_methodNamed B0.named
  have hlocks := B0.notSynchronized
  have hwA : ∀ w ∈ wsA, w.before ([.ref (a 0), .int (nI m), .int (nI f), .int (nI t)] : List Value).toArray s = true := fun w h => hts w (List.mem_cons_of_mem _ h)
  have X : CallFix p m0 c0 b_Mod_move 6 s ([.ref (a 0), .int (nI m), .int (nI f), .int (nI t)] : List Value).toArray wsA R_Mod := ⟨hx, hb, hml, hown, hwA⟩
  have hD := hA_D hD0
  have hS : va_S (hA (wM ca a z F K V P B S C N HK HV OF OK OV)) s.heap s.heap [] := va_S.rf
  have hl := lv_entry ([.ref (a 0), .int (nI m), .int (nI f), .int (nI t)]) (n := 6) (Nat.le_of_ble_eq_true rfl)
  rw [lg_entry_eq]
  generalize (lg_sl ([.ref (a 0), .int (nI m), .int (nI f), .int (nI t)]) ++ List.replicate (6 - (lg_sl ([.ref (a 0), .int (nI m), .int (nI f), .int (nI t)])).length) Slot.unset).toArray = ls at hl ⊢
  have hl : lv_has ls 6 [(0, .ref (a 0)), (1, .int (nI m)), (2, .int (nI f)), (3, .int (nI t))] := hl
  refine lv_sipush (v := 128) hx hb d_Mod_move_0 (by decide) ?_
  refine lv_iload_n hx hb d_Mod_move_3 rfl (lv_at hl 1 rfl) ?_
  refine lv_imul hx hb d_Mod_move_4 ?_
  refine lv_tope (y := nI (128 * m)) (pk_mul (128) (m)) ?_
  refine lv_iload_n hx hb d_Mod_move_5 rfl (lv_at hl 2 rfl) ?_
  refine lv_iadd hx hb d_Mod_move_6 ?_
  refine lv_tope (y := nI (128 * m + f)) (nI_add (128 * m) (f)) ?_
  refine lv_istore (lv' := [(4, .int (nI (128 * m + f))), (0, .ref (a 0)), (1, .int (nI m)), (2, .int (nI f)), (3, .int (nI t))]) hx hb d_Mod_move_7 hl (by decide) rfl (fun ls hl => ?_)
  refine lv_sipush (v := 128) hx hb d_Mod_move_9 (by decide) ?_
  refine lv_iload_n hx hb d_Mod_move_12 rfl (lv_at hl 2 rfl) ?_
  refine lv_imul hx hb d_Mod_move_13 ?_
  refine lv_tope (y := nI (128 * m)) (pk_mul (128) (m)) ?_
  refine lv_iload_n hx hb d_Mod_move_14 rfl (lv_at hl 4 rfl) ?_
  refine lv_iadd hx hb d_Mod_move_15 ?_
  refine lv_tope (y := nI (128 * m + t)) (nI_add (128 * m) (t)) ?_
  refine lv_istore (lv' := [(5, .int (nI (128 * m + t))), (4, .int (nI (128 * m + f))), (0, .ref (a 0)), (1, .int (nI m)), (2, .int (nI f)), (3, .int (nI t))]) hx hb d_Mod_move_16 hl (by decide) rfl (fun ls hl => ?_)
  refine lv_aload_n hx hb d_Mod_move_18 rfl (lv_at hl 2 rfl) ?_
  refine mg_full X hK hP d_Mod_move_19 ?_
  refine lv_iload hx hb d_Mod_move_22 (lv_at hl 0 rfl) ?_
  refine lv_iconst (v := 1) hx hb d_Mod_move_24 (by decide) ?_
  refine ms_F X hK hP hD hS (i := 128 * m + t) (x := true) (by omega) d_Mod_move_25 (fun H locs hP hD hS => ?_)
  refine lv_aload_n hx hb d_Mod_move_26 rfl (lv_at hl 2 rfl) ?_
  refine mg_keys X hK hP d_Mod_move_27 ?_
  refine lv_iload hx hb d_Mod_move_30 (lv_at hl 0 rfl) ?_
  refine lv_aload_n hx hb d_Mod_move_32 rfl (lv_at hl 2 rfl) ?_
  refine mg_keys X hK hP d_Mod_move_33 ?_
  refine lv_iload hx hb d_Mod_move_36 (lv_at hl 1 rfl) ?_
  refine ml_K X hK hP (i := 128 * m + f) (by omega) d_Mod_move_38 ?_
  refine ms_K X hK hP hD hS (i := 128 * m + t) (x := K (128 * m + f)) (by omega) d_Mod_move_39 (fun H locs hP hD hS => ?_)
  refine lv_aload_n hx hb d_Mod_move_40 rfl (lv_at hl 2 rfl) ?_
  refine mg_values X hK hP d_Mod_move_41 ?_
  refine lv_iload hx hb d_Mod_move_44 (lv_at hl 0 rfl) ?_
  refine lv_aload_n hx hb d_Mod_move_46 rfl (lv_at hl 2 rfl) ?_
  refine mg_values X hK hP d_Mod_move_47 ?_
  refine lv_iload hx hb d_Mod_move_50 (lv_at hl 1 rfl) ?_
  refine ml_V X hK hP (i := 128 * m + f) (by omega) d_Mod_move_52 ?_
  refine ms_V X hK hP hD hS (i := 128 * m + t) (x := V (128 * m + f)) (by omega) d_Mod_move_53 (fun H locs hP hD hS => ?_)
  refine lv_aload_n hx hb d_Mod_move_54 rfl (lv_at hl 2 rfl) ?_
  refine mg_full X hK hP d_Mod_move_55 ?_
  refine lv_iload hx hb d_Mod_move_58 (lv_at hl 1 rfl) ?_
  refine lv_iconst (v := 0) hx hb d_Mod_move_60 (by decide) ?_
  refine ms_F X hK hP hD hS (i := 128 * m + f) (x := false) (by omega) d_Mod_move_61 (fun H locs hP hD hS => ?_)
  refine lv_aload_n hx hb d_Mod_move_62 rfl (lv_at hl 2 rfl) ?_
  refine mg_counts X hK hP d_Mod_move_63 ?_
  refine lv_iconst (v := 0) hx hb d_Mod_move_66 (by decide) ?_
  refine lv_aload_n hx hb d_Mod_move_67 rfl (lv_at hl 2 rfl) ?_
  refine mg_counts X hK hP d_Mod_move_68 ?_
  refine lv_iconst (v := 0) hx hb d_Mod_move_71 (by decide) ?_
  refine ml_C X hK hP (i := 0) (by omega) d_Mod_move_72 ?_
  refine lv_iconst (v := 1) hx hb d_Mod_move_73 (by decide) ?_
  refine lv_iadd hx hb d_Mod_move_74 ?_
  refine ms_C X hK hP hD hS (i := 0) (x := (C 0) + (1)) (by omega) d_Mod_move_75 (fun H locs hP hD hS => ?_)
  exact W.vret hx hb hr (fun t ht hW => ⟨rfl, by rw [ht]; exact hP, hS.F ht⟩) hS.2.2 d_Mod_move_76
set_option maxHeartbeats 4000000 in
set_option maxRecDepth 100000 in
/-- empty -/
theorem c_Mod_empty (l : Launch) (D : va_G) (ca a : Nat → Nat) (z : Int32) (F : BT) (K V : IT) (P B : Nat → Nat) (S C : IT) (N : Nat) (HK HV : IT) (OF : BT) (OK OV : IT) (m : Nat) (hm : m < 3)  : Met l y_Mod_empty w_Mod_empty (rmD 0 0 0) (va_Pc [.ref (a 0), .int (nI m)] (hb_W D mCl (wM ca a z F K V P B S C N HK HV OF OK OV) (tyM ca))) (hq_W (none) D mCl (wM ca a z (clr F (128 * m) 128) K V P B S C N HK HV OF OK OV) (hA (wM ca a z F K V P B S C N HK HV OF OK OV))) 0 0 (hA (wM ca a z F K V P B S C N HK HV OF OK OV)) := by
  refine Met.ofW (cc := b_Mod_empty) (maxL := 3) (ret := none) (by decide) rfl ?_
  intro p e s m0 args below meth c0 s₁ B0 hml hv
  obtain ⟨rfl, hP, hK, hD0⟩ := hv
  have hx := B0.exec
  have hb := B0.bytes
  have hr := B0.returns
  have hts := atoms_spec (ws := w_Mod_empty) B0.pre
  have hown : s.vm.findClass R_Mod = some m0.cls := findClass_of_methodNamed B0.named
  have hlocks := B0.notSynchronized
  have hwA : ∀ w ∈ wsA, w.before ([.ref (a 0), .int (nI m)] : List Value).toArray s = true := fun w h => hts w (List.mem_cons_of_mem _ h)
  have X : CallFix p m0 c0 b_Mod_empty 3 s ([.ref (a 0), .int (nI m)] : List Value).toArray wsA R_Mod := ⟨hx, hb, hml, hown, hwA⟩
  have hD := hA_D hD0
  have hS : va_S (hA (wM ca a z F K V P B S C N HK HV OF OK OV)) s.heap s.heap [] := va_S.rf
  have hl := lv_entry ([.ref (a 0), .int (nI m)]) (n := 3) (Nat.le_of_ble_eq_true rfl)
  rw [lg_entry_eq]
  generalize (lg_sl ([.ref (a 0), .int (nI m)]) ++ List.replicate (3 - (lg_sl ([.ref (a 0), .int (nI m)])).length) Slot.unset).toArray = ls at hl ⊢
  have hl : lv_has ls 3 [(0, .ref (a 0)), (1, .int (nI m))] := hl
  have loop : ∀ (n i : Nat) (ls : Array Slot) (H : Heap) (locs : List Loc), i + n = 128 → va_P D mCl (wM ca a z (clr F (128 * m) i) K V P B S C N HK HV OF OK OV) H → va_D (hA (wM ca a z F K V P B S C N HK HV OF OK OV)) (wM ca a z (clr F (128 * m) i) K V P B S C N HK HV OF OK OV) → va_S (hA (wM ca a z F K V P B S C N HK HV OF OK OV)) s.heap H locs → lv_has ls 3 [(2, .int (nI i)), (0, .ref (a 0)), (1, .int (nI m))] → W p l e (headSpec w_Mod_empty (rmD 0 0 0)).room s m0 ([.ref (a 0), .int (nI m)] : List Value).toArray below meth c0 H locs 0 0 (MQ below (hq_W (none) D mCl (wM ca a z (clr F (128 * m) 128) K V P B S C N HK HV OF OK OV) (hA (wM ca a z F K V P B S C N HK HV OF OK OV))) ([.ref (a 0), .int (nI m)] : List Value).toArray s 0 0 (hA (wM ca a z F K V P B S C N HK HV OF OK OV))) (F0 m0 2 ls []) := by
    intro n
    induction n with
    | zero =>
      intro i ls H locs hi hP hD hS hl
      have hi8 : i = 128 := by omega
      rw [hi8] at hP
      refine lv_iload_n hx hb d_Mod_empty_2 rfl (lv_at hl 0 rfl) ?_
      refine lv_sipush (v := 128) hx hb d_Mod_empty_3 (by decide) ?_
      refine lvT_icmp_ge (tgt := 28) hx hb d_Mod_empty_6 (by decide) (nI_le (a := 128) (b := i) (by omega) (by omega)) ?_
      exact W.vret hx hb hr (fun t ht hW => ⟨rfl, by rw [ht]; exact hP, hS.F ht⟩) hS.2.2 d_Mod_empty_28
    | succ n ih =>
      intro i ls H locs hi hP hD hS hl
      refine lv_iload_n hx hb d_Mod_empty_2 rfl (lv_at hl 0 rfl) ?_
      refine lv_sipush (v := 128) hx hb d_Mod_empty_3 (by decide) ?_
      refine lvF_icmp_ge (tgt := 28) hx hb d_Mod_empty_6 (by decide) (nI_ge (a := i) (b := 128) (by omega) (by omega)) ?_
      refine lv_aload_n hx hb d_Mod_empty_9 rfl (lv_at hl 1 rfl) ?_
      refine mg_full X hK hP d_Mod_empty_10 ?_
      refine lv_sipush (v := 128) hx hb d_Mod_empty_13 (by decide) ?_
      refine lv_iload_n hx hb d_Mod_empty_16 rfl (lv_at hl 2 rfl) ?_
      refine lv_imul hx hb d_Mod_empty_17 ?_
      refine lv_tope (y := nI (128 * m)) (pk_mul (128) (m)) ?_
      refine lv_iload_n hx hb d_Mod_empty_18 rfl (lv_at hl 0 rfl) ?_
      refine lv_iadd hx hb d_Mod_empty_19 ?_
      refine lv_tope (y := nI (128 * m + i)) (nI_add (128 * m) (i)) ?_
      refine lv_iconst (v := 0) hx hb d_Mod_empty_20 (by decide) ?_
      refine ms_F X hK hP hD hS (i := 128 * m + i) (x := false) (by omega) d_Mod_empty_21 (fun H locs hP hD hS => ?_)
      rw [clr_s] at hP hD
      refine lv_iinc (k := 0) (v := nI (i + 1)) (lv' := [(2, .int (nI (i + 1))), (0, .ref (a 0)), (1, .int (nI m))]) hx hb d_Mod_empty_22 hl rfl (inc1 i) (by decide) rfl (fun ls hl => ?_)
      refine lv_goto (tgt := 2) hx hb d_Mod_empty_25 (by decide) ?_
      exact ih (i + 1) ls H locs (by omega) hP hD hS hl
  refine lv_iconst (v := 0) hx hb d_Mod_empty_0 (by decide) ?_
  refine lv_istore_n (lv' := [(2, .int 0), (0, .ref (a 0)), (1, .int (nI m))]) hx hb d_Mod_empty_1 rfl hl (by decide) rfl (fun ls hl => ?_)
  exact loop 128 0 ls s.heap [] rfl (by rw [clr_0]; exact hP) (by rw [clr_0]; exact hD) hS hl
set_option maxHeartbeats 4000000 in
set_option maxRecDepth 100000 in
/-- mover -/
theorem c_Mod_mover (l : Launch) (D : va_G) (ca a : Nat → Nat) (z : Int32) (F : BT) (K V : IT) (P B : Nat → Nat) (S C : IT) (N : Nat) (HK HV : IT) (OF : BT) (OK OV : IT) (m : Nat) (hm : m < 3) (f : Nat) (hc : pw (P m)) (hf9 : f < 32768) : Met l y_Mod_mover w_Mod_mover (rmD 1 0 0) (va_Pc [.ref (a 0), .int (nI m), .int (nI f)] (hb_R D mCl (wM ca a z F K V P B S C N HK HV OF OK OV) (tyM ca))) (hq_R (some (.int (oI (hpP (P m) f (hpD F K (128 * m) (P m) (S m) f 7)))))) 0 0 hq_no := by
  refine Met.ofW (cc := b_Mod_mover) (maxL := 7) (ret := some .int) (by decide) rfl ?_
  intro p e s m0 args below meth c0 s₁ B0 hml hv
  obtain ⟨rfl, hP, hK⟩ := hv
  have hx := B0.exec
  have hb := B0.bytes
  have hr := B0.returns
  have hts := atoms_spec (ws := w_Mod_mover) B0.pre
  have hown : s.vm.findClass R_Mod = some m0.cls := findClass_of_methodNamed B0.named
  have hlocks := B0.notSynchronized
  have hwA : ∀ w ∈ wsA, w.before ([.ref (a 0), .int (nI m), .int (nI f)] : List Value).toArray s = true := fun w h => hts w (List.mem_cons_of_mem _ h)
  have X : CallFix p m0 c0 b_Mod_mover 7 s ([.ref (a 0), .int (nI m), .int (nI f)] : List Value).toArray wsA R_Mod := ⟨hx, hb, hml, hown, hwA⟩
  have hl := lv_entry ([.ref (a 0), .int (nI m), .int (nI f)]) (n := 7) (Nat.le_of_ble_eq_true rfl)
  rw [lg_entry_eq]
  generalize (lg_sl ([.ref (a 0), .int (nI m), .int (nI f)]) ++ List.replicate (7 - (lg_sl ([.ref (a 0), .int (nI m), .int (nI f)])).length) Slot.unset).toArray = ls at hl ⊢
  have hl : lv_has ls 7 [(0, .ref (a 0)), (1, .int (nI m)), (2, .int (nI f))] := hl
  have hP8 := pw_le hc
  have hP9 := pw_ge hc
  have hP0 := pw_pos hc
  have loop : ∀ (d : Nat) (ls : Array Slot), d ≤ 7 → hpD F K (128 * m) (P m) (S m) f d = hpD F K (128 * m) (P m) (S m) f 7 → lv_has ls 7 [(3, .int (nI d)), (0, .ref (a 0)), (1, .int (nI m)), (2, .int (nI f))] → W p l e (headSpec w_Mod_mover (rmD 1 0 0)).room s m0 ([.ref (a 0), .int (nI m), .int (nI f)] : List Value).toArray below meth c0 s.heap [] 0 0 (MQ below (hq_R (some (.int (oI (hpP (P m) f (hpD F K (128 * m) (P m) (S m) f 7)))))) ([.ref (a 0), .int (nI m), .int (nI f)] : List Value).toArray s 0 0 hq_no) (F0 m0 3 ls []) := by
    intro d
    induction d with
    | zero =>
      intro ls hd hr0 hl
      have hr0 : hpD F K (128 * m) (P m) (S m) f 7 = none := hr0.symm
      refine lv_iload_n hx hb d_Mod_mover_3 rfl (lv_at hl 0 rfl) ?_
      refine lvT_if_le (tgt := 91) hx hb d_Mod_mover_4 (by decide) (nI_le (a := 0) (b := 0) (by omega) (by omega)) ?_
      refine lv_iconst (v := -1) hx hb d_Mod_mover_91 (by decide) ?_
      exact W.iret (v := -1) hx hb hr (fun t ht hW => ⟨by rw [hr0]; rfl, ht⟩) hq_nl d_Mod_mover_92
    | succ d ihd =>
      intro ls hd hr0 hl
      have hhlt : (f + P m - (d + 1)) % P m < P m := Nat.mod_lt _ hP0
      have inner : ∀ (n i : Nat) (ls : Array Slot), i + n = d + 1 → hpI F K (128 * m) (P m) (S m) ((f + P m - (d + 1)) % P m) i n = hpI F K (128 * m) (P m) (S m) ((f + P m - (d + 1)) % P m) 0 (d + 1) → lv_has ls 7 [(5, .int (nI i)), (4, .int (nI ((f + P m - (d + 1)) % P m))), (3, .int (nI (d + 1))), (0, .ref (a 0)), (1, .int (nI m)), (2, .int (nI f))] → W p l e (headSpec w_Mod_mover (rmD 1 0 0)).room s m0 ([.ref (a 0), .int (nI m), .int (nI f)] : List Value).toArray below meth c0 s.heap [] 0 0 (MQ below (hq_R (some (.int (oI (hpP (P m) f (hpD F K (128 * m) (P m) (S m) f 7)))))) ([.ref (a 0), .int (nI m), .int (nI f)] : List Value).toArray s 0 0 hq_no) (F0 m0 20 ls []) := by
        intro n
        induction n with
        | zero =>
          intro i ls hi hq hl
          refine lv_iload hx hb d_Mod_mover_20 (lv_at hl 0 rfl) ?_
          refine lv_iload_n hx hb d_Mod_mover_22 rfl (lv_at hl 2 rfl) ?_
          refine lvT_icmp_ge (tgt := 85) hx hb d_Mod_mover_23 (by decide) (nI_le (a := d + 1) (b := i) (by omega) (by omega)) ?_
          refine lv_iinc (k := 2) (v := nI d) (lv' := [(3, .int (nI d)), (5, .int (nI i)), (4, .int (nI ((f + P m - (d + 1)) % P m))), (0, .ref (a 0)), (1, .int (nI m)), (2, .int (nI f))]) hx hb d_Mod_mover_85 hl rfl (dec1 d) (by decide) rfl (fun ls hl => ?_)
          refine lv_goto (tgt := 3) hx hb d_Mod_mover_88 (by decide) ?_
          exact ihd ls (by omega) (by rw [← hr0]; exact (hpD_n hq.symm).symm) (lv_sub hl [0, 3, 4, 5] rfl)
        | succ n ih =>
          intro i ls hi hq hl
          have hsl := md_lt (x := (f + P m - (d + 1)) % P m + i) hc
          have hho := hom_lt (key := K (128 * m + ((f + P m - (d + 1)) % P m + i) % P m)) (s := S m) hc
          refine lv_iload hx hb d_Mod_mover_20 (lv_at hl 0 rfl) ?_
          refine lv_iload_n hx hb d_Mod_mover_22 rfl (lv_at hl 2 rfl) ?_
          refine lvF_icmp_ge (tgt := 85) hx hb d_Mod_mover_23 (by decide) (nI_ge (a := i) (b := d + 1) (by omega) (by omega)) ?_
          refine lv_aload_n hx hb d_Mod_mover_26 rfl (lv_at hl 3 rfl) ?_
          refine lv_iload_n hx hb d_Mod_mover_27 rfl (lv_at hl 4 rfl) ?_
          refine lv_iload hx hb d_Mod_mover_28 (lv_at hl 1 rfl) ?_
          refine lv_iload hx hb d_Mod_mover_30 (lv_at hl 0 rfl) ?_
          refine km_behind X hK hP hl.1 (m := m) (x := (f + P m - (d + 1)) % P m) (i := i) hm hc (by omega) (Nat.le_of_ble_eq_true rfl) ⟨Nat.zero_le _, Nat.zero_le _⟩ ⟨Nat.le_of_ble_eq_true rfl, Nat.le_of_ble_eq_true rfl⟩ d_Mod_mover_32 ?_
          refine lv_istore (lv' := [(6, .int (nI (((f + P m - (d + 1)) % P m + i) % P m))), (5, .int (nI i)), (4, .int (nI ((f + P m - (d + 1)) % P m))), (3, .int (nI (d + 1))), (0, .ref (a 0)), (1, .int (nI m)), (2, .int (nI f))]) hx hb d_Mod_mover_35 hl (by decide) rfl (fun ls hl => ?_)
          refine lv_aload_n hx hb d_Mod_mover_37 rfl (lv_at hl 4 rfl) ?_
          refine mg_full X hK hP d_Mod_mover_38 ?_
          refine lv_sipush (v := 128) hx hb d_Mod_mover_41 (by decide) ?_
          refine lv_iload_n hx hb d_Mod_mover_44 rfl (lv_at hl 5 rfl) ?_
          refine lv_imul hx hb d_Mod_mover_45 ?_
          refine lv_tope (y := nI (128 * m)) (pk_mul (128) (m)) ?_
          refine lv_iload hx hb d_Mod_mover_46 (lv_at hl 0 rfl) ?_
          refine lv_iadd hx hb d_Mod_mover_48 ?_
          refine lv_tope (y := nI (128 * m + (((f + P m - (d + 1)) % P m + i) % P m))) (nI_add (128 * m) (((f + P m - (d + 1)) % P m + i) % P m)) ?_
          refine ml_F X hK hP (i := 128 * m + (((f + P m - (d + 1)) % P m + i) % P m)) (by omega) d_Mod_mover_49 ?_
          refine lv_if_eq (tgt := 79) hx hb d_Mod_mover_50 (by decide) (fun h1 => ?_) (fun h1 => ?_)
          · have eb : bit F K (128 * m) (P m) (S m) ((f + P m - (d + 1)) % P m) i = false := by unfold bit; rw [bI_0.mp h1]; rfl
            refine lv_iinc (k := 1) (v := nI (i + 1)) (lv' := [(5, .int (nI (i + 1))), (6, .int (nI (((f + P m - (d + 1)) % P m + i) % P m))), (4, .int (nI ((f + P m - (d + 1)) % P m))), (3, .int (nI (d + 1))), (0, .ref (a 0)), (1, .int (nI m)), (2, .int (nI f))]) hx hb d_Mod_mover_79 hl rfl (inc1 i) (by decide) rfl (fun ls hl => ?_)
            refine lv_goto (tgt := 20) hx hb d_Mod_mover_82 (by decide) ?_
            exact ih (i + 1) ls (by omega) (by rw [← hq]; exact (if_neg (by rw [eb]; decide)).symm) (lv_sub hl [0, 2, 3, 4, 5, 6] rfl)
          · refine lv_aload_n hx hb d_Mod_mover_53 rfl (lv_at hl 4 rfl) ?_
            refine lv_iload_n hx hb d_Mod_mover_54 rfl (lv_at hl 5 rfl) ?_
            refine lv_aload_n hx hb d_Mod_mover_55 rfl (lv_at hl 4 rfl) ?_
            refine mg_keys X hK hP d_Mod_mover_56 ?_
            refine lv_sipush (v := 128) hx hb d_Mod_mover_59 (by decide) ?_
            refine lv_iload_n hx hb d_Mod_mover_62 rfl (lv_at hl 5 rfl) ?_
            refine lv_imul hx hb d_Mod_mover_63 ?_
            refine lv_tope (y := nI (128 * m)) (pk_mul (128) (m)) ?_
            refine lv_iload hx hb d_Mod_mover_64 (lv_at hl 0 rfl) ?_
            refine lv_iadd hx hb d_Mod_mover_66 ?_
            refine lv_tope (y := nI (128 * m + (((f + P m - (d + 1)) % P m + i) % P m))) (nI_add (128 * m) (((f + P m - (d + 1)) % P m + i) % P m)) ?_
            refine ml_K X hK hP (i := 128 * m + (((f + P m - (d + 1)) % P m + i) % P m)) (by omega) d_Mod_mover_67 ?_
            refine km_homeOf X hK hP hl.1 (m := m) (key := K (128 * m + (((f + P m - (d + 1)) % P m + i) % P m))) hm hc (Nat.le_of_ble_eq_true rfl) ⟨Nat.zero_le _, Nat.zero_le _⟩ ⟨Nat.le_of_ble_eq_true rfl, Nat.le_of_ble_eq_true rfl⟩ d_Mod_mover_68 ?_
            refine lv_iload hx hb d_Mod_mover_71 (lv_at hl 2 rfl) ?_
            refine lv_icmp_ne (tgt := 79) hx hb d_Mod_mover_73 (by decide) (fun h2 => ?_) (fun h2 => ?_)
            · have eb : bit F K (128 * m) (P m) (S m) ((f + P m - (d + 1)) % P m) i = false := by unfold bit; rw [bI_n0.mp h1, decide_eq_false (fun z => h2 ((nI_eq (by omega) (by omega)).mpr z))]; rfl
              refine lv_iinc (k := 1) (v := nI (i + 1)) (lv' := [(5, .int (nI (i + 1))), (6, .int (nI (((f + P m - (d + 1)) % P m + i) % P m))), (4, .int (nI ((f + P m - (d + 1)) % P m))), (3, .int (nI (d + 1))), (0, .ref (a 0)), (1, .int (nI m)), (2, .int (nI f))]) hx hb d_Mod_mover_79 hl rfl (inc1 i) (by decide) rfl (fun ls hl => ?_)
              refine lv_goto (tgt := 20) hx hb d_Mod_mover_82 (by decide) ?_
              exact ih (i + 1) ls (by omega) (by rw [← hq]; exact (if_neg (by rw [eb]; decide)).symm) (lv_sub hl [0, 2, 3, 4, 5, 6] rfl)
            · have eb : bit F K (128 * m) (P m) (S m) ((f + P m - (d + 1)) % P m) i = true := by unfold bit; rw [bI_n0.mp h1, decide_eq_true ((nI_eq (by omega) (by omega)).mp h2)]; rfl
              have hr1 : hpD F K (128 * m) (P m) (S m) f 7 = some (d + 1, i) := by rw [← hr0]; exact hpD_s (by rw [← hq]; exact if_pos eb)
              refine lv_iload hx hb d_Mod_mover_76 (lv_at hl 0 rfl) ?_
              exact W.iret (v := nI (((f + P m - (d + 1)) % P m + i) % P m)) hx hb hr (fun t ht hW => ⟨by rw [hr1]; rfl, ht⟩) hq_nl d_Mod_mover_78
      refine lv_iload_n hx hb d_Mod_mover_3 rfl (lv_at hl 0 rfl) ?_
      refine lvF_if_le (tgt := 91) hx hb d_Mod_mover_4 (by decide) (nI_ge (a := 0) (b := d + 1) (by omega) (by omega)) ?_
      refine lv_aload_n hx hb d_Mod_mover_7 rfl (lv_at hl 1 rfl) ?_
      refine lv_iload_n hx hb d_Mod_mover_8 rfl (lv_at hl 2 rfl) ?_
      refine lv_iload_n hx hb d_Mod_mover_9 rfl (lv_at hl 3 rfl) ?_
      refine lv_iload_n hx hb d_Mod_mover_10 rfl (lv_at hl 0 rfl) ?_
      refine lv_ineg hx hb d_Mod_mover_11 ?_
      refine km_behind_n X hK hP hl.1 (m := m) (f := f) (d0 := (d + 1)) hm hc (by omega) (by omega) (Nat.le_of_ble_eq_true rfl) ⟨Nat.zero_le _, Nat.zero_le _⟩ ⟨Nat.le_of_ble_eq_true rfl, Nat.le_of_ble_eq_true rfl⟩ d_Mod_mover_12 ?_
      refine lv_istore (lv' := [(4, .int (nI ((f + P m - (d + 1)) % P m))), (3, .int (nI (d + 1))), (0, .ref (a 0)), (1, .int (nI m)), (2, .int (nI f))]) hx hb d_Mod_mover_15 hl (by decide) rfl (fun ls hl => ?_)
      refine lv_iconst (v := 0) hx hb d_Mod_mover_17 (by decide) ?_
      refine lv_istore (lv' := [(5, .int 0), (4, .int (nI ((f + P m - (d + 1)) % P m))), (3, .int (nI (d + 1))), (0, .ref (a 0)), (1, .int (nI m)), (2, .int (nI f))]) hx hb d_Mod_mover_18 hl (by decide) rfl (fun ls hl => ?_)
      exact inner (d + 1) 0 ls (by omega) rfl hl
  refine lv_bipush (v := 7) hx hb d_Mod_mover_0 (by decide) ?_
  refine lv_istore_n (lv' := [(3, .int 7), (0, .ref (a 0)), (1, .int (nI m)), (2, .int (nI f))]) hx hb d_Mod_mover_2 rfl hl (by decide) rfl (fun ls hl => ?_)
  exact loop 7 ls (by omega) rfl hl
section MKB
variable {p : Program} {l : Launch} {e : Env} {R : Room} {s : State} {m0 : MethodId} {args : Array Value} {below : List Frame} {meth : Method} {c : Code} {H : Heap} {locs : List Loc} {cells slots : Nat} {Q : State → Prop}
variable {cc : ByteArray} {pc nL : Nat} {ls : Array Slot} {rest st0 : List Value} {D : va_G} {A : Nat → Prop} {H0 : Heap} {tys : List (ClassId × FieldType)} {ca a : Nat → Nat} {z : Int32} {F : BT} {K V : IT} {P B : Nat → Nat} {S C : IT} {N : Nat} {HK HV : IT} {OF : BT} {OK OV : IT}
theorem km_distanceAt (X : CallFix p m0 c cc nL s args wsA R_Mod) (hK : va_K D mCl (tyM ca) s) (hP : va_P D mCl (wM ca a z F K V P B S C N HK HV OF OK OV) H) (hsz : ls.size = nL) {m x : Nat} (hm : m < 3) (hc : pw (P m)) (hx9 : x < 128) (hrm : (rest.map fun v => v.category).sum ≤ 8) (hf : cells ≤ R.cells ∧ slots ≤ R.slots) (hR : 2 ≤ R.frames ∧ 60 ≤ R.locals) (d : decode cc pc = .ok (.invokevirtual 119, 3)) (kk9 : W p l e R s m0 args below meth c H locs cells slots Q (F0 m0 (pc + 3) ls (.int (nI ((x + P m - hom (K (128 * m + x)) (S m) (P m)) % P m)) :: rest))) : W p l e R s m0 args below meth c H locs cells slots Q (F0 m0 pc ls (.int (nI x) :: .int (nI m) :: .ref (a 0) :: rest)) :=
  hr_V (As := [.int (nI m), .int (nI x)]) (v := some (.int (nI ((x + P m - hom (K (128 * m + x)) (S m) (P m)) % P m)))) (C := R_Mod) X (c_Mod_distanceAt l D ca a z F K V P B S C N HK HV OF OK OV m hm x hc hx9) (cwV 2 X.2.2.2.2 g_Mod_distanceAt rfl rfl rfl (by decide +kernel) ⟨by show 1 + 1 ≤ _; omega, by show 8 + (4 + 11) + 30 * 1 ≤ _; omega⟩) hP hK (va_recv (q0 := 0) (ci := 2) (q := (R_Mod, F_Mod, 14)) hK hP rfl rfl) rfl hsz rfl hrm hf d kk9
theorem km_bitsOf (X : CallFix p m0 c cc nL s args wsA R_Mod) (hK : va_K D mCl (tyM ca) s) (hP : va_P D mCl (wM ca a z F K V P B S C N HK HV OF OK OV) H) (hsz : ls.size = nL) {m h : Nat} (hm : m < 3) (hc : pw (P m)) (hh : h < P m) (hrm : (rest.map fun v => v.category).sum ≤ 8) (hf : cells ≤ R.cells ∧ slots ≤ R.slots) (hR : 2 ≤ R.frames ∧ 60 ≤ R.locals) (d : decode cc pc = .ok (.invokevirtual 126, 3)) (kk9 : W p l e R s m0 args below meth c H locs cells slots Q (F0 m0 (pc + 3) ls (.int (rowB (fun i => bit F K (128 * m) (P m) (S m) h i) 8) :: rest))) : W p l e R s m0 args below meth c H locs cells slots Q (F0 m0 pc ls (.int (nI h) :: .int (nI m) :: .ref (a 0) :: rest)) :=
  hr_V (As := [.int (nI m), .int (nI h)]) (v := some (.int (rowB (fun i => bit F K (128 * m) (P m) (S m) h i) 8))) (C := R_Mod) X (c_Mod_bitsOf l D ca a z F K V P B S C N HK HV OF OK OV m hm h hc hh) (cwV 2 X.2.2.2.2 g_Mod_bitsOf rfl rfl rfl (by decide +kernel) ⟨by show 1 + 1 ≤ _; omega, by show 8 + (7 + 11) + 30 * 1 ≤ _; omega⟩) hP hK (va_recv (q0 := 0) (ci := 2) (q := (R_Mod, F_Mod, 14)) hK hP rfl rfl) rfl hsz rfl hrm hf d kk9
theorem km_mover (X : CallFix p m0 c cc nL s args wsA R_Mod) (hK : va_K D mCl (tyM ca) s) (hP : va_P D mCl (wM ca a z F K V P B S C N HK HV OF OK OV) H) (hsz : ls.size = nL) {m f : Nat} (hm : m < 3) (hc : pw (P m)) (hf9 : f < 32768) (hrm : (rest.map fun v => v.category).sum ≤ 8) (hf : cells ≤ R.cells ∧ slots ≤ R.slots) (hR : 2 ≤ R.frames ∧ 60 ≤ R.locals) (d : decode cc pc = .ok (.invokevirtual 64, 3)) (kk9 : W p l e R s m0 args below meth c H locs cells slots Q (F0 m0 (pc + 3) ls (.int (oI (hpP (P m) f (hpD F K (128 * m) (P m) (S m) f 7))) :: rest))) : W p l e R s m0 args below meth c H locs cells slots Q (F0 m0 pc ls (.int (nI f) :: .int (nI m) :: .ref (a 0) :: rest)) :=
  hr_V (As := [.int (nI m), .int (nI f)]) (v := some (.int (oI (hpP (P m) f (hpD F K (128 * m) (P m) (S m) f 7))))) (C := R_Mod) X (c_Mod_mover l D ca a z F K V P B S C N HK HV OF OK OV m hm f hc hf9) (cwV 2 X.2.2.2.2 g_Mod_mover rfl rfl rfl (by decide +kernel) ⟨by show 1 + 1 ≤ _; omega, by show 8 + (7 + 11) + 30 * 1 ≤ _; omega⟩) hP hK (va_recv (q0 := 0) (ci := 2) (q := (R_Mod, F_Mod, 14)) hK hP rfl rfl) rfl hsz rfl hrm hf d kk9
theorem km_move (X : CallFix p m0 c cc nL s args wsA R_Mod) (hK : va_K D mCl (tyM ca) s) (hP : va_P D mCl (wM ca a z F K V P B S C N HK HV OF OK OV) H) (hD : va_D A (wM ca a z F K V P B S C N HK HV OF OK OV)) (hS : va_S A H0 H locs) (hsz : ls.size = nL) {m f t : Nat} (hm : m < 3) (hf9 : f < 128) (ht9 : t < 128) (hrm : (rest.map fun v => v.category).sum ≤ 8) (hf : cells ≤ R.cells ∧ slots ≤ R.slots) (hR : 1 ≤ R.frames ∧ 30 ≤ R.locals) (d : decode cc pc = .ok (.invokevirtual 67, 3)) (kk9 : ∀ (H1 : Heap) (locs1 : List Loc), va_P D mCl (wM ca a z (va_up (va_up F (128 * m + t) true) (128 * m + f) false) (upd K (128 * m + t) (K (128 * m + f))) (upd V (128 * m + t) (V (128 * m + f))) P B S (upd C 0 (C 0 + 1)) N HK HV OF OK OV) H1 → va_D A (wM ca a z (va_up (va_up F (128 * m + t) true) (128 * m + f) false) (upd K (128 * m + t) (K (128 * m + f))) (upd V (128 * m + t) (V (128 * m + f))) P B S (upd C 0 (C 0 + 1)) N HK HV OF OK OV) → va_S A H0 H1 locs1 → W p l e R s m0 args below meth c H1 locs1 cells slots Q (F0 m0 (pc + 3) ls (rest))) : W p l e R s m0 args below meth c H locs cells slots Q (F0 m0 pc ls (.int (nI t) :: .int (nI f) :: .int (nI m) :: .ref (a 0) :: rest)) :=
  hw_V (As := [.int (nI m), .int (nI f), .int (nI t)]) (v := none) (C := R_Mod) X (c_Mod_move l D ca a z F K V P B S C N HK HV OF OK OV m hm f t hf9 ht9) (cwV 3 X.2.2.2.2 g_Mod_move rfl rfl rfl (by decide +kernel) ⟨by show 0 + 1 ≤ _; omega, by show 8 + (6 + 11) + 30 * 0 ≤ _; omega⟩) hP hK hD hS wM_a (va_recv (q0 := 0) (ci := 2) (q := (R_Mod, F_Mod, 14)) hK hP rfl rfl) rfl hsz rfl hrm hf d kk9
theorem km_empty (X : CallFix p m0 c cc nL s args wsA R_Mod) (hK : va_K D mCl (tyM ca) s) (hP : va_P D mCl (wM ca a z F K V P B S C N HK HV OF OK OV) H) (hD : va_D A (wM ca a z F K V P B S C N HK HV OF OK OV)) (hS : va_S A H0 H locs) (hsz : ls.size = nL) {m : Nat} (hm : m < 3) (hrm : (rest.map fun v => v.category).sum ≤ 8) (hf : cells ≤ R.cells ∧ slots ≤ R.slots) (hR : 1 ≤ R.frames ∧ 30 ≤ R.locals) (d : decode cc pc = .ok (.invokevirtual 90, 3)) (kk9 : ∀ (H1 : Heap) (locs1 : List Loc), va_P D mCl (wM ca a z (clr F (128 * m) 128) K V P B S C N HK HV OF OK OV) H1 → va_D A (wM ca a z (clr F (128 * m) 128) K V P B S C N HK HV OF OK OV) → va_S A H0 H1 locs1 → W p l e R s m0 args below meth c H1 locs1 cells slots Q (F0 m0 (pc + 3) ls (rest))) : W p l e R s m0 args below meth c H locs cells slots Q (F0 m0 pc ls (.int (nI m) :: .ref (a 0) :: rest)) :=
  hw_V (As := [.int (nI m)]) (v := none) (C := R_Mod) X (c_Mod_empty l D ca a z F K V P B S C N HK HV OF OK OV m hm) (cwV 1 X.2.2.2.2 g_Mod_empty rfl rfl rfl (by decide +kernel) ⟨by show 0 + 1 ≤ _; omega, by show 8 + (3 + 11) + 30 * 0 ≤ _; omega⟩) hP hK hD hS wM_a (va_recv (q0 := 0) (ci := 2) (q := (R_Mod, F_Mod, 14)) hK hP rfl rfl) rfl hsz rfl hrm hf d kk9
end MKB
