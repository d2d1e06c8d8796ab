set_option maxHeartbeats 4000000 in
set_option maxRecDepth 100000 in
/-- insert -/
theorem c_Mod_insert (l : Launch) (D : va_G) (ca a : Nat → Nat) (z : Int32) (F : BT) (K V : IT) (P B : Nat → Nat) (S C : IT) (N : Nat) (HK HV : IT) (OF : BT) (OK OV : IT) (m : Nat) (hm : m < 3) (key val : Int32) (hc : pw (P m)) : Met l y_Mod_insert w_Mod_insert (rmD 2 0 0) (va_Pc [.ref (a 0), .int (nI m), .int key, .int val] (hb_W D mCl (wM ca a z F K V P B S C N HK HV OF OK OV) (tyM ca))) (hq_W (some (.int (bI (ins (128 * m) (P m) (S m) key val (K, V, F, C)).1))) D mCl (wM ca a z (ins (128 * m) (P m) (S m) key val (K, V, F, C)).2.2.2.1 (ins (128 * m) (P m) (S m) key val (K, V, F, C)).2.1 (ins (128 * m) (P m) (S m) key val (K, V, F, C)).2.2.1 P B S (ins (128 * m) (P m) (S m) key val (K, V, F, C)).2.2.2.2 N HK HV OF OK OV) (hA (wM ca a z F K V P B S C N HK HV OF OK OV))) 0 0 (hA (wM ca a z F K V P B S C N HK HV OF OK OV)) := by
  refine Met.ofW (cc := b_Mod_insert) (maxL := 8) (ret := some .boolean) (by decide) rfl ?_
  intro p e s m0 args below meth c0 s₁ B0 hml hv
  obtain ⟨rfl, hP, hK, hD0⟩ := hv
  have hx := B0.exec
  have hb := B0.bytes
  have hr := B0.returns
  have hts := atoms_spec (ws := w_Mod_insert) B0.pre
  have hown : s.vm.findClass R_Mod = some m0.cls := findClass_of_methodNamed B0.named
  have hlocks := B0.notSynchronized
  have hwA : ∀ w ∈ wsA, w.before ([.ref (a 0), .int (nI m), .int key, .int val] : List Value).toArray s = true := fun w h => hts w (List.mem_cons_of_mem _ h)
  have X : CallFix p m0 c0 b_Mod_insert 8 s ([.ref (a 0), .int (nI m), .int key, .int val] : List Value).toArray wsA R_Mod := ⟨hx, hb, hml, hown, hwA⟩
  have hD := hA_D hD0
  have hS : va_S (hA (wM ca a z F K V P B S C N HK HV OF OK OV)) s.heap s.heap [] := va_S.rf
  have hl := lv_entry ([.ref (a 0), .int (nI m), .int key, .int val]) (n := 8) (Nat.le_of_ble_eq_true rfl)
  rw [lg_entry_eq]
  generalize (lg_sl ([.ref (a 0), .int (nI m), .int key, .int val]) ++ List.replicate (8 - (lg_sl ([.ref (a 0), .int (nI m), .int key, .int val])).length) Slot.unset).toArray = ls at hl ⊢
  have hl : lv_has ls 8 [(0, .ref (a 0)), (1, .int (nI m)), (2, .int key), (3, .int val)] := hl
  have hp8 := pw_le hc
  have hp9 := pw_ge hc
  have hh := hom_lt (key := key) (s := S m) hc
  have loop2 : ∀ (n b : Nat) (ls : Array Slot) (H : Heap) (locs : List Loc) (K' V' : IT) (F' : BT) (C' : IT), b < n → b < P m → inL (128 * m) (P m) (S m) (hom key (S m) (P m)) key val n b (K', V', F', C') = (ins (128 * m) (P m) (S m) key val (K, V, F, C)) → va_P D mCl (wM ca a z F' K' V' P B S C' N HK HV OF OK OV) H → va_D (hA (wM ca a z F K V P B S C N HK HV OF OK OV)) (wM ca a z F' K' V' P B S C' N HK HV OF OK OV) → va_S (hA (wM ca a z F K V P B S C N HK HV OF OK OV)) s.heap H locs → lv_has ls 8 [(6, .int (nI ((hom key (S m) (P m) + b) % P m))), (5, .int (nI b)), (4, .int (nI (hom key (S m) (P m)))), (0, .ref (a 0)), (1, .int (nI m)), (2, .int key), (3, .int val)] → W p l e (headSpec w_Mod_insert (rmD 2 0 0)).room s m0 ([.ref (a 0), .int (nI m), .int key, .int val] : List Value).toArray below meth c0 H locs 0 0 (MQ below (hq_W (some (.int (bI (ins (128 * m) (P m) (S m) key val (K, V, F, C)).1))) D mCl (wM ca a z (ins (128 * m) (P m) (S m) key val (K, V, F, C)).2.2.2.1 (ins (128 * m) (P m) (S m) key val (K, V, F, C)).2.1 (ins (128 * m) (P m) (S m) key val (K, V, F, C)).2.2.1 P B S (ins (128 * m) (P m) (S m) key val (K, V, F, C)).2.2.2.2 N HK HV OF OK OV) (hA (wM ca a z F K V P B S C N HK HV OF OK OV))) ([.ref (a 0), .int (nI m), .int key, .int val] : List Value).toArray s 0 0 (hA (wM ca a z F K V P B S C N HK HV OF OK OV))) (F0 m0 75 ls []) := by
    intro n
    induction n with
    | zero =>
      intro b ls H locs K' V' F' C' hbn hbl hR hP hD hS hl
      exact absurd hbn (Nat.not_lt_zero _)
    | succ n ih =>
      intro b ls H locs K' V' F' C' hbn hbl hR hP hD hS hl
      have hsl := md_lt (x := hom key (S m) (P m) + b) hc
      refine lv_iload hx hb d_Mod_insert_75 (lv_at hl 1 rfl) ?_
      refine lv_bipush (v := 7) hx hb d_Mod_insert_77 (by decide) ?_
      refine lv_icmp_le (tgt := 131) hx hb d_Mod_insert_79 (by decide) (fun h1 => ?_) (fun h1 => ?_)
      · have hb8 : b < 8 := by have := (nI_leI (a := b) (b := 7) (by omega) (by omega)).mp h1; omega
        refine lv_aload_n hx hb d_Mod_insert_131 rfl (lv_at hl 3 rfl) ?_
        refine mg_full X hK hP d_Mod_insert_132 ?_
        refine lv_sipush (v := 128) hx hb d_Mod_insert_135 (by decide) ?_
        refine lv_iload_n hx hb d_Mod_insert_138 rfl (lv_at hl 4 rfl) ?_
        refine lv_imul hx hb d_Mod_insert_139 ?_
        refine lv_tope (y := nI (128 * m)) (pk_mul (128) (m)) ?_
        refine lv_iload hx hb d_Mod_insert_140 (lv_at hl 0 rfl) ?_
        refine lv_iadd hx hb d_Mod_insert_142 ?_
        refine lv_tope (y := nI (128 * m + ((hom key (S m) (P m) + b) % P m))) (nI_add (128 * m) ((hom key (S m) (P m) + b) % P m)) ?_
        refine lv_iconst (v := 1) hx hb d_Mod_insert_143 (by decide) ?_
        refine ms_F X hK hP hD hS (i := 128 * m + ((hom key (S m) (P m) + b) % P m)) (x := true) (by omega) d_Mod_insert_144 (fun H locs hP hD hS => ?_)
        refine lv_aload_n hx hb d_Mod_insert_145 rfl (lv_at hl 3 rfl) ?_
        refine mg_keys X hK hP d_Mod_insert_146 ?_
        refine lv_sipush (v := 128) hx hb d_Mod_insert_149 (by decide) ?_
        refine lv_iload_n hx hb d_Mod_insert_152 rfl (lv_at hl 4 rfl) ?_
        refine lv_imul hx hb d_Mod_insert_153 ?_
        refine lv_tope (y := nI (128 * m)) (pk_mul (128) (m)) ?_
        refine lv_iload hx hb d_Mod_insert_154 (lv_at hl 0 rfl) ?_
        refine lv_iadd hx hb d_Mod_insert_156 ?_
        refine lv_tope (y := nI (128 * m + ((hom key (S m) (P m) + b) % P m))) (nI_add (128 * m) ((hom key (S m) (P m) + b) % P m)) ?_
        refine lv_iload_n hx hb d_Mod_insert_157 rfl (lv_at hl 5 rfl) ?_
        refine ms_K X hK hP hD hS (i := 128 * m + ((hom key (S m) (P m) + b) % P m)) (x := key) (by omega) d_Mod_insert_158 (fun H locs hP hD hS => ?_)
        refine lv_aload_n hx hb d_Mod_insert_159 rfl (lv_at hl 3 rfl) ?_
        refine mg_values X hK hP d_Mod_insert_160 ?_
        refine lv_sipush (v := 128) hx hb d_Mod_insert_163 (by decide) ?_
        refine lv_iload_n hx hb d_Mod_insert_166 rfl (lv_at hl 4 rfl) ?_
        refine lv_imul hx hb d_Mod_insert_167 ?_
        refine lv_tope (y := nI (128 * m)) (pk_mul (128) (m)) ?_
        refine lv_iload hx hb d_Mod_insert_168 (lv_at hl 0 rfl) ?_
        refine lv_iadd hx hb d_Mod_insert_170 ?_
        refine lv_tope (y := nI (128 * m + ((hom key (S m) (P m) + b) % P m))) (nI_add (128 * m) ((hom key (S m) (P m) + b) % P m)) ?_
        refine lv_iload_n hx hb d_Mod_insert_171 rfl (lv_at hl 6 rfl) ?_
        refine ms_V X hK hP hD hS (i := 128 * m + ((hom key (S m) (P m) + b) % P m)) (x := val) (by omega) d_Mod_insert_172 (fun H locs hP hD hS => ?_)
        refine lv_iconst (v := 1) hx hb d_Mod_insert_173 (by decide) ?_
        have hR1 : (ins (128 * m) (P m) (S m) key val (K, V, F, C)) = (true, upd K' (128 * m + (hom key (S m) (P m) + b) % P m) key, upd V' (128 * m + (hom key (S m) (P m) + b) % P m) val, va_up F' (128 * m + (hom key (S m) (P m) + b) % P m) true, C') := hR.symm.trans (inL_p hb8)
        exact W.zret (v := 1) hx hb hr rfl (fun t ht hW => ⟨by rw [hR1]; rfl, by rw [ht, hR1]; exact hP, hS.F ht⟩) hS.2.2 d_Mod_insert_174
      · have hb8 : ¬ b < 8 := fun z => h1 ((nI_leI (a := b) (b := 7) (by omega) (by omega)).mpr (by omega))
        refine lv_aload_n hx hb d_Mod_insert_82 rfl (lv_at hl 3 rfl) ?_
        refine lv_iload_n hx hb d_Mod_insert_83 rfl (lv_at hl 4 rfl) ?_
        refine lv_iload hx hb d_Mod_insert_84 (lv_at hl 0 rfl) ?_
        refine km_mover X hK hP hl.1 (m := m) (f := (hom key (S m) (P m) + b) % P m) hm hc (by omega) (Nat.le_of_ble_eq_true rfl) ⟨Nat.zero_le _, Nat.zero_le _⟩ ⟨Nat.le_of_ble_eq_true rfl, Nat.le_of_ble_eq_true rfl⟩ d_Mod_insert_86 ?_
        have hmd : hpD F' K' (128 * m) (P m) (S m) ((hom key (S m) (P m) + b) % P m) 7 = hpD F' K' (128 * m) (P m) (S m) (hom key (S m) (P m) + b) 7 := hpD_md hc 7 (Nat.le_refl _)
        cases hq : hpD F' K' (128 * m) (P m) (S m) (hom key (S m) (P m) + b) 7 with
        | none =>
          refine lv_tope (y := -1) (by rw [hmd, hq]; rfl) ?_
          refine lv_istore (lv' := [(7, .int (-1)), (6, .int (nI ((hom key (S m) (P m) + b) % P m))), (5, .int (nI b)), (4, .int (nI (hom key (S m) (P m)))), (0, .ref (a 0)), (1, .int (nI m)), (2, .int key), (3, .int val)]) hx hb d_Mod_insert_89 hl (by decide) rfl (fun ls hl => ?_)
          refine lv_iload hx hb d_Mod_insert_91 (lv_at hl 0 rfl) ?_
          refine lv_iconst (v := -1) hx hb d_Mod_insert_93 (by decide) ?_
          refine lvF_icmp_ne (tgt := 99) hx hb d_Mod_insert_94 (by decide) (rfl) ?_
          refine lv_iconst (v := 0) hx hb d_Mod_insert_97 (by decide) ?_
          have hR1 : (ins (128 * m) (P m) (S m) key val (K, V, F, C)) = (false, K', V', F', C') := hR.symm.trans (inL_n (X := (K', V', F', C')) hb8 hq)
          exact W.zret (v := 0) hx hb hr rfl (fun t ht hW => ⟨by rw [hR1]; rfl, by rw [ht, hR1]; exact hP, hS.F ht⟩) hS.2.2 d_Mod_insert_98
        | some x =>
          obtain ⟨d, i1⟩ := x
          have hdi := hpD_b _ _ hq
          have hdi2 : i1 < d := hdi.2.1
          have hdi3 : d ≤ 7 := hdi.2.2
          have hg := md_g (h := hom key (S m) (P m)) (b := b) (d := d) (i := i1) hc hh hbl (by omega) hdi3 hdi2
          have hTg : F' (128 * m + (hom key (S m) (P m) + (b - (d - i1))) % P m) = true := by rw [← hg]; exact bit_T hdi.1
          have hgl := md_lt (x := hom key (S m) (P m) + (b - (d - i1))) hc
          refine lv_tope (y := nI ((hom key (S m) (P m) + (b - (d - i1))) % P m)) (by rw [hmd, hq]; show nI ((((hom key (S m) (P m) + b) % P m + P m - d) % P m + i1) % P m) = _; rw [md_f hc hdi3, hg]) ?_
          refine lv_istore (lv' := [(7, .int (nI ((hom key (S m) (P m) + (b - (d - i1))) % P m))), (6, .int (nI ((hom key (S m) (P m) + b) % P m))), (5, .int (nI b)), (4, .int (nI (hom key (S m) (P m)))), (0, .ref (a 0)), (1, .int (nI m)), (2, .int key), (3, .int val)]) hx hb d_Mod_insert_89 hl (by decide) rfl (fun ls hl => ?_)
          refine lv_iload hx hb d_Mod_insert_91 (lv_at hl 0 rfl) ?_
          refine lv_iconst (v := -1) hx hb d_Mod_insert_93 (by decide) ?_
          refine lvT_icmp_ne (tgt := 99) hx hb d_Mod_insert_94 (by decide) (nI_m1 (by omega)) ?_
          refine lv_aload_n hx hb d_Mod_insert_99 rfl (lv_at hl 4 rfl) ?_
          refine lv_iload_n hx hb d_Mod_insert_100 rfl (lv_at hl 5 rfl) ?_
          refine lv_iload hx hb d_Mod_insert_101 (lv_at hl 0 rfl) ?_
          refine lv_iload hx hb d_Mod_insert_103 (lv_at hl 1 rfl) ?_
          refine km_move X hK hP hD hS hl.1 (m := m) (f := (hom key (S m) (P m) + (b - (d - i1))) % P m) (t := (hom key (S m) (P m) + b) % P m) hm (by omega) (by omega) (Nat.le_of_ble_eq_true rfl) ⟨Nat.zero_le _, Nat.zero_le _⟩ ⟨Nat.le_of_ble_eq_true rfl, Nat.le_of_ble_eq_true rfl⟩ d_Mod_insert_105 (fun H locs hP hD hS => ?_)
          refine lv_iload hx hb d_Mod_insert_108 (lv_at hl 0 rfl) ?_
          refine lv_istore (lv' := [(6, .int (nI ((hom key (S m) (P m) + (b - (d - i1))) % P m))), (7, .int (nI ((hom key (S m) (P m) + (b - (d - i1))) % P m))), (5, .int (nI b)), (4, .int (nI (hom key (S m) (P m)))), (0, .ref (a 0)), (1, .int (nI m)), (2, .int key), (3, .int val)]) hx hb d_Mod_insert_110 hl (by decide) rfl (fun ls hl => ?_)
          refine lv_iload hx hb d_Mod_insert_112 (lv_at hl 0 rfl) ?_
          refine lv_iload hx hb d_Mod_insert_114 (lv_at hl 3 rfl) ?_
          refine lv_isub hx hb d_Mod_insert_116 ?_
          refine lv_aload_n hx hb d_Mod_insert_117 rfl (lv_at hl 4 rfl) ?_
          refine mg_capacity X hK hP d_Mod_insert_118 ?_
          refine lv_iload_n hx hb d_Mod_insert_121 rfl (lv_at hl 5 rfl) ?_
          refine ml_P X hK hP (i := m) (by omega) d_Mod_insert_122 ?_
          refine lv_iconst (v := 1) hx hb d_Mod_insert_123 (by decide) ?_
          refine lv_isub hx hb d_Mod_insert_124 ?_
          refine lv_iand hx hb d_Mod_insert_125 ?_
          refine lv_tope (y := nI (b - (d - i1))) (by rw [pw_subN hc (by omega) (by omega), md_h hc hh (by omega)]) ?_
          refine lv_istore (lv' := [(5, .int (nI (b - (d - i1)))), (6, .int (nI ((hom key (S m) (P m) + (b - (d - i1))) % P m))), (7, .int (nI ((hom key (S m) (P m) + (b - (d - i1))) % P m))), (4, .int (nI (hom key (S m) (P m)))), (0, .ref (a 0)), (1, .int (nI m)), (2, .int key), (3, .int val)]) hx hb d_Mod_insert_126 hl (by decide) rfl (fun ls hl => ?_)
          refine lv_goto (tgt := 75) hx hb d_Mod_insert_128 (by decide) ?_
          refine ih (b - (d - i1)) ls H locs (hopX (128 * m) (P m) (hom key (S m) (P m) + b) (some (d, i1)) (K', V', F', C')).1 (hopX (128 * m) (P m) (hom key (S m) (P m) + b) (some (d, i1)) (K', V', F', C')).2.1 (hopX (128 * m) (P m) (hom key (S m) (P m) + b) (some (d, i1)) (K', V', F', C')).2.2.1 (hopX (128 * m) (P m) (hom key (S m) (P m) + b) (some (d, i1)) (K', V', F', C')).2.2.2 (by omega) (by omega) ((inL_s (X := (K', V', F', C')) hb8 hq).symm.trans hR) ?_ ?_ hS (lv_sub hl [1, 0, 3, 4, 5, 6, 7] rfl)
          · have e9 : (hopX (128 * m) (P m) (hom key (S m) (P m) + b) (some (d, i1)) (K', V', F', C')) = ((upd K' (128 * m + ((hom key (S m) (P m) + b) % P m)) (K' (128 * m + ((hom key (S m) (P m) + (b - (d - i1))) % P m)))), (upd V' (128 * m + ((hom key (S m) (P m) + b) % P m)) (V' (128 * m + ((hom key (S m) (P m) + (b - (d - i1))) % P m)))), (va_up (va_up F' (128 * m + ((hom key (S m) (P m) + b) % P m)) true) (128 * m + ((hom key (S m) (P m) + (b - (d - i1))) % P m)) false), (upd C' 0 (C' 0 + 1))) := by
              show (upd K' (128 * m + (hom key (S m) (P m) + b) % P m) (K' (128 * m + (((hom key (S m) (P m) + b) + P m - d) % P m + i1) % P m)), upd V' (128 * m + (hom key (S m) (P m) + b) % P m) (V' (128 * m + (((hom key (S m) (P m) + b) + P m - d) % P m + i1) % P m)), mvT F' (128 * m + (((hom key (S m) (P m) + b) + P m - d) % P m + i1) % P m) (128 * m + (hom key (S m) (P m) + b) % P m), upd C' 0 (C' 0 + 1)) = _
              rw [hg]; unfold mvT; rw [hTg]
            rw [e9]; exact hP
          · exact va_Das hD wM_a
  have loop : ∀ (n i : Nat) (ls : Array Slot), i + n = P m → stp F (128 * m) (P m) (hom key (S m) (P m)) i n = stp F (128 * m) (P m) (hom key (S m) (P m)) 0 (P m) → lv_has ls 8 [(5, .int (nI i)), (4, .int (nI (hom key (S m) (P m)))), (0, .ref (a 0)), (1, .int (nI m)), (2, .int key), (3, .int val)] → W p l e (headSpec w_Mod_insert (rmD 2 0 0)).room s m0 ([.ref (a 0), .int (nI m), .int key, .int val] : List Value).toArray below meth c0 s.heap [] 0 0 (MQ below (hq_W (some (.int (bI (ins (128 * m) (P m) (S m) key val (K, V, F, C)).1))) D mCl (wM ca a z (ins (128 * m) (P m) (S m) key val (K, V, F, C)).2.2.2.1 (ins (128 * m) (P m) (S m) key val (K, V, F, C)).2.1 (ins (128 * m) (P m) (S m) key val (K, V, F, C)).2.2.1 P B S (ins (128 * m) (P m) (S m) key val (K, V, F, C)).2.2.2.2 N HK HV OF OK OV) (hA (wM ca a z F K V P B S C N HK HV OF OK OV))) ([.ref (a 0), .int (nI m), .int key, .int val] : List Value).toArray s 0 0 (hA (wM ca a z F K V P B S C N HK HV OF OK OV))) (F0 m0 11 ls []) := by
    intro n
    induction n with
    | zero =>
      intro i ls hi hf hl
      refine lv_iload hx hb d_Mod_insert_11 (lv_at hl 0 rfl) ?_
      refine lv_aload_n hx hb d_Mod_insert_13 rfl (lv_at hl 2 rfl) ?_
      refine mg_capacity X hK hP d_Mod_insert_14 ?_
      refine lv_iload_n hx hb d_Mod_insert_17 rfl (lv_at hl 3 rfl) ?_
      refine ml_P X hK hP (i := m) (by omega) d_Mod_insert_18 ?_
      refine lvT_icmp_ge (tgt := 51) hx hb d_Mod_insert_19 (by decide) (nI_le (a := P m) (b := i) (by omega) (by omega)) ?_
      refine lv_iload hx hb d_Mod_insert_51 (lv_at hl 0 rfl) ?_
      refine lv_aload_n hx hb d_Mod_insert_53 rfl (lv_at hl 2 rfl) ?_
      refine mg_capacity X hK hP d_Mod_insert_54 ?_
      refine lv_iload_n hx hb d_Mod_insert_57 rfl (lv_at hl 3 rfl) ?_
      refine ml_P X hK hP (i := m) (by omega) d_Mod_insert_58 ?_
      refine lvF_icmp_ne (tgt := 64) hx hb d_Mod_insert_59 (by decide) (by rw [show i = P m by omega]) ?_
      refine lv_iconst (v := 0) hx hb d_Mod_insert_62 (by decide) ?_
      have hR1 : (ins (128 * m) (P m) (S m) key val (K, V, F, C)) = (false, K, V, F, C) := ins_n (X := (K, V, F, C)) hf.symm
      exact W.zret (v := 0) hx hb hr rfl (fun t ht hW => ⟨by rw [hR1]; rfl, by rw [ht, hR1]; exact hP, hS.F ht⟩) hS.2.2 d_Mod_insert_63
    | succ n ih =>
      intro i ls hi hf hl
      have hsl := md_lt (x := hom key (S m) (P m) + i) hc
      refine lv_iload hx hb d_Mod_insert_11 (lv_at hl 0 rfl) ?_
      refine lv_aload_n hx hb d_Mod_insert_13 rfl (lv_at hl 2 rfl) ?_
      refine mg_capacity X hK hP d_Mod_insert_14 ?_
      refine lv_iload_n hx hb d_Mod_insert_17 rfl (lv_at hl 3 rfl) ?_
      refine ml_P X hK hP (i := m) (by omega) d_Mod_insert_18 ?_
      refine lvF_icmp_ge (tgt := 51) hx hb d_Mod_insert_19 (by decide) (nI_ge (a := i) (b := P m) (by omega) (by omega)) ?_
      refine lv_aload_n hx hb d_Mod_insert_22 rfl (lv_at hl 2 rfl) ?_
      refine mg_full X hK hP d_Mod_insert_23 ?_
      refine lv_sipush (v := 128) hx hb d_Mod_insert_26 (by decide) ?_
      refine lv_iload_n hx hb d_Mod_insert_29 rfl (lv_at hl 3 rfl) ?_
      refine lv_imul hx hb d_Mod_insert_30 ?_
      refine lv_tope (y := nI (128 * m)) (pk_mul (128) (m)) ?_
      refine lv_aload_n hx hb d_Mod_insert_31 rfl (lv_at hl 2 rfl) ?_
      refine lv_iload_n hx hb d_Mod_insert_32 rfl (lv_at hl 3 rfl) ?_
      refine lv_iload hx hb d_Mod_insert_33 (lv_at hl 1 rfl) ?_
      refine lv_iload hx hb d_Mod_insert_35 (lv_at hl 0 rfl) ?_
      refine km_behind X hK hP hl.1 (m := m) (x := hom key (S m) (P m)) (i := i) hm hc (by omega) (Nat.le_of_ble_eq_true rfl) ⟨Nat.zero_le _, Nat.zero_le _⟩ ⟨Nat.le_of_ble_eq_true rfl, Nat.le_of_ble_eq_true rfl⟩ d_Mod_insert_37 ?_
      refine lv_iadd hx hb d_Mod_insert_40 ?_
      refine lv_tope (y := nI (128 * m + ((hom key (S m) (P m) + i) % P m))) (nI_add (128 * m) ((hom key (S m) (P m) + i) % P m)) ?_
      refine ml_F X hK hP (i := 128 * m + ((hom key (S m) (P m) + i) % P m)) (by omega) d_Mod_insert_41 ?_
      refine lv_if_eq (tgt := 51) hx hb d_Mod_insert_42 (by decide) (fun h1 => ?_) (fun h1 => ?_)
      · refine lv_iload hx hb d_Mod_insert_51 (lv_at hl 0 rfl) ?_
        refine lv_aload_n hx hb d_Mod_insert_53 rfl (lv_at hl 2 rfl) ?_
        refine mg_capacity X hK hP d_Mod_insert_54 ?_
        refine lv_iload_n hx hb d_Mod_insert_57 rfl (lv_at hl 3 rfl) ?_
        refine ml_P X hK hP (i := m) (by omega) d_Mod_insert_58 ?_
        refine lvT_icmp_ne (tgt := 64) hx hb d_Mod_insert_59 (by decide) (fun z => absurd ((nI_eq (by omega) (by omega)).mp z) (by omega)) ?_
        refine lv_aload_n hx hb d_Mod_insert_64 rfl (lv_at hl 2 rfl) ?_
        refine lv_iload_n hx hb d_Mod_insert_65 rfl (lv_at hl 3 rfl) ?_
        refine lv_iload hx hb d_Mod_insert_66 (lv_at hl 1 rfl) ?_
        refine lv_iload hx hb d_Mod_insert_68 (lv_at hl 0 rfl) ?_
        refine km_behind X hK hP hl.1 (m := m) (x := hom key (S m) (P m)) (i := i) hm hc (by omega) (Nat.le_of_ble_eq_true rfl) ⟨Nat.zero_le _, Nat.zero_le _⟩ ⟨Nat.le_of_ble_eq_true rfl, Nat.le_of_ble_eq_true rfl⟩ d_Mod_insert_70 ?_
        refine lv_istore (lv' := [(6, .int (nI ((hom key (S m) (P m) + i) % P m))), (5, .int (nI i)), (4, .int (nI (hom key (S m) (P m)))), (0, .ref (a 0)), (1, .int (nI m)), (2, .int key), (3, .int val)]) hx hb d_Mod_insert_73 hl (by decide) rfl (fun ls hl => ?_)
        have hst : stp F (128 * m) (P m) (hom key (S m) (P m)) 0 (P m) = some i := by rw [← hf]; exact if_pos (bI_0.mp h1)
        exact loop2 (P m) i ls s.heap [] K V F C (by omega) (by omega) (ins_s (X := (K, V, F, C)) hst).symm hP hD hS (lv_sub hl [0, 1, 2, 3, 4, 5, 6] rfl)
      · refine lv_iinc (k := 0) (v := nI (i + 1)) (lv' := [(5, .int (nI (i + 1))), (4, .int (nI (hom key (S m) (P m)))), (0, .ref (a 0)), (1, .int (nI m)), (2, .int key), (3, .int val)]) hx hb d_Mod_insert_45 hl rfl (inc1 i) (by decide) rfl (fun ls hl => ?_)
        refine lv_goto (tgt := 11) hx hb d_Mod_insert_48 (by decide) ?_
        exact ih (i + 1) ls (by omega) (by rw [← hf]; exact (if_neg (by rw [bI_n0.mp h1]; decide)).symm) (lv_sub hl [0, 1, 2, 3, 4, 5] rfl)
  refine lv_aload_n hx hb d_Mod_insert_0 rfl (lv_at hl 0 rfl) ?_
  refine lv_iload_n hx hb d_Mod_insert_1 rfl (lv_at hl 1 rfl) ?_
  refine lv_iload_n hx hb d_Mod_insert_2 rfl (lv_at hl 2 rfl) ?_
  refine km_homeOf X hK hP hl.1 (m := m) (key := key) hm hc (Nat.le_of_ble_eq_true rfl) ⟨Nat.zero_le _, Nat.zero_le _⟩ ⟨Nat.le_of_ble_eq_true rfl, Nat.le_of_ble_eq_true rfl⟩ d_Mod_insert_3 ?_
  refine lv_istore (lv' := [(4, .int (nI (hom (key) (S m) (P m)))), (0, .ref (a 0)), (1, .int (nI m)), (2, .int key), (3, .int val)]) hx hb d_Mod_insert_6 hl (by decide) rfl (fun ls hl => ?_)
  refine lv_iconst (v := 0) hx hb d_Mod_insert_8 (by decide) ?_
  refine lv_istore (lv' := [(5, .int 0), (4, .int (nI (hom (key) (S m) (P m)))), (0, .ref (a 0)), (1, .int (nI m)), (2, .int key), (3, .int val)]) hx hb d_Mod_insert_9 hl (by decide) rfl (fun ls hl => ?_)
  exact loop (P m) 0 ls (by omega) rfl (lv_sub hl [0, 1, 2, 3, 4, 5] rfl)
section MKB
variable {p : Program} {l : Launch} {e : Env} {R : Room} {s : State} {m0 : MethodId} {args : Array Value} {below : List Frame} {meth : Method} {c : Code} {H : Heap} {locs : List Loc} {cells slots : Nat} {Q : State → Prop}
variable {cc : ByteArray} {pc nL : Nat} {ls : Array Slot} {rest st0 : List Value} {D : va_G} {A : Nat → Prop} {H0 : Heap} {tys : List (ClassId × FieldType)} {ca a : Nat → Nat} {z : Int32} {F : BT} {K V : IT} {P B : Nat → Nat} {S C : IT} {N : Nat} {HK HV : IT} {OF : BT} {OK OV : IT}
theorem km_insert (X : CallFix p m0 c cc nL s args wsA R_Mod) (hK : va_K D mCl (tyM ca) s) (hP : va_P D mCl (wM ca a z F K V P B S C N HK HV OF OK OV) H) (hD : va_D A (wM ca a z F K V P B S C N HK HV OF OK OV)) (hS : va_S A H0 H locs) (hsz : ls.size = nL) {m : Nat} {key val : Int32} (hm : m < 3) (hc : pw (P m)) (hrm : (rest.map fun v => v.category).sum ≤ 8) (hf : cells ≤ R.cells ∧ slots ≤ R.slots) (hR : 3 ≤ R.frames ∧ 90 ≤ R.locals) (d : decode cc pc = .ok (.invokevirtual 94, 3)) (kk9 : ∀ (H1 : Heap) (locs1 : List Loc), va_P D mCl (wM ca a z (ins (128 * m) (P m) (S m) key val (K, V, F, C)).2.2.2.1 (ins (128 * m) (P m) (S m) key val (K, V, F, C)).2.1 (ins (128 * m) (P m) (S m) key val (K, V, F, C)).2.2.1 P B S (ins (128 * m) (P m) (S m) key val (K, V, F, C)).2.2.2.2 N HK HV OF OK OV) H1 → va_D A (wM ca a z (ins (128 * m) (P m) (S m) key val (K, V, F, C)).2.2.2.1 (ins (128 * m) (P m) (S m) key val (K, V, F, C)).2.1 (ins (128 * m) (P m) (S m) key val (K, V, F, C)).2.2.1 P B S (ins (128 * m) (P m) (S m) key val (K, V, F, C)).2.2.2.2 N HK HV OF OK OV) → va_S A H0 H1 locs1 → W p l e R s m0 args below meth c H1 locs1 cells slots Q (F0 m0 (pc + 3) ls (.int (bI (ins (128 * m) (P m) (S m) key val (K, V, F, C)).1) :: rest))) : W p l e R s m0 args below meth c H locs cells slots Q (F0 m0 pc ls (.int val :: .int key :: .int (nI m) :: .ref (a 0) :: rest)) :=
  hw_V (As := [.int (nI m), .int key, .int val]) (v := some (.int (bI (ins (128 * m) (P m) (S m) key val (K, V, F, C)).1))) (C := R_Mod) X (c_Mod_insert l D ca a z F K V P B S C N HK HV OF OK OV m hm key val hc) (cwV 3 X.2.2.2.2 g_Mod_insert rfl rfl rfl (by decide +kernel) ⟨by show 2 + 1 ≤ _; omega, by show 8 + (8 + 11) + 30 * 2 ≤ _; omega⟩) hP hK hD hS wM_a (va_recv (q0 := 0) (ci := 2) (q := (R_Mod, F_Mod, 14)) hK hP rfl rfl) rfl hsz rfl hrm hf d kk9
end MKB
