set_option maxHeartbeats 4000000 in
set_option maxRecDepth 100000 in
/-- grow -/
theorem c_Mod_grow (l : Launch) (D : va_G) (ca a : Nat → Nat) (z : Int32) (F : BT) (K V : IT) (P B : Nat → Nat) (S C : IT) (N : Nat) (HK HV : IT) (OF : BT) (OK OV : IT) (m : Nat) (hm : m < 3) (hc : pw (P m)) (hG : GI (P 0 + P 1 + P 2) (P m) m B P) (hN : N ≤ 129) : Met l y_Mod_grow w_Mod_grow (rmD 3 0 0) (va_Pc [.ref (a 0), .int (nI m)] (hb_W D mCl (wM ca a z F K V P B S C N HK HV OF OK OV) (tyM ca))) (hq_W (some (.int (bI (grM m (P m) (P 0 + P 1 + P 2) N HK HV P 4 1 (K, V, F, C, B, P, S)).1))) D mCl (gM ca a z N HK HV OF OK OV m (P m) (S m) (grM m (P m) (P 0 + P 1 + P 2) N HK HV P 4 1 (K, V, F, C, B, P, S))) (hA (wM ca a z F K V P B S C N HK HV OF OK OV))) 0 0 (hA (wM ca a z F K V P B S C N HK HV OF OK OV)) := by
  refine Met.ofW (cc := b_Mod_grow) (maxL := 9) (ret := some .boolean) (by decide) rfl ?_
  intro p e s m0 args below meth c0 s₁ B0 hml hv
  obtain ⟨rfl, hP, hK, hD0⟩ := hv
  have hx := B0.exec
  have hb := B0.bytes
  have hr := B0.returns
  have hts := atoms_spec (ws := w_Mod_grow) B0.pre
  have hown : s.vm.findClass R_Mod = some m0.cls := findClass_of_methodNamed B0.named
  have hlocks := B0.notSynchronized
  have hwA : ∀ w ∈ wsA, w.before ([.ref (a 0), .int (nI m)] : List Value).toArray s = true := fun w h => hts w (List.mem_cons_of_mem _ h)
  have X : CallFix p m0 c0 b_Mod_grow 9 s ([.ref (a 0), .int (nI m)] : List Value).toArray wsA R_Mod := ⟨hx, hb, hml, hown, hwA⟩
  have hD := hA_D hD0
  have hS : va_S (hA (wM ca a z F K V P B S C N HK HV OF OK OV)) s.heap s.heap [] := va_S.rf
  have hl := lv_entry ([.ref (a 0), .int (nI m)]) (n := 9) (Nat.le_of_ble_eq_true rfl)
  rw [lg_entry_eq]
  generalize (lg_sl ([.ref (a 0), .int (nI m)]) ++ List.replicate (9 - (lg_sl ([.ref (a 0), .int (nI m)])).length) Slot.unset).toArray = ls at hl ⊢
  have hl : lv_has ls 9 [(0, .ref (a 0)), (1, .int (nI m))] := hl
  have hp8 := pw_le hc
  have hp9 := pw_ge hc
  have hpp := hG.2.2.1
  have g0 := hG.1 0 (by decide)
  have g1 := hG.1 1 (by decide)
  have g2 := hG.1 2 (by decide)
  have hms : P m ≤ P 0 + P 1 + P 2 := by rcases (show m = 0 ∨ m = 1 ∨ m = 2 by omega) with rfl | rfl | rfl <;> omega
  have loop : ∀ (n d : Nat) (ls : Array Slot) (H : Heap) (locs : List Loc) (K' V' : IT) (F' : BT) (C' : IT) (B' P' : Nat → Nat) (S' : IT), d + n = 5 → 1 ≤ d → 2 * P' m = P m * 2 ^ d → va_up P' m (P m) = P → GI (P 0 + P 1 + P 2) (P m) m B' P → grM m (P m) (P 0 + P 1 + P 2) N HK HV P n d (K', V', F', C', B', P', S') = (grM m (P m) (P 0 + P 1 + P 2) N HK HV P 4 1 (K, V, F, C, B, P, S)) → va_P D mCl (wM ca a z F' K' V' P' B' S' C' N HK HV OF OK OV) H → va_D (hA (wM ca a z F K V P B S C N HK HV OF OK OV)) (wM ca a z F' K' V' P' B' S' C' N HK HV OF OK OV) → va_S (hA (wM ca a z F K V P B S C N HK HV OF OK OV)) s.heap H locs → lv_has ls 9 [(4, .int (nI (P 0 + P 1 + P 2 - P m))), (2, .int (nI (P m))), (3, .int (S m)), (0, .ref (a 0)), (1, .int (nI m))] → W p l e (headSpec w_Mod_grow (rmD 3 0 0)).room s m0 ([.ref (a 0), .int (nI m)] : List Value).toArray below meth c0 H locs 0 0 (MQ below (hq_W (some (.int (bI (grM m (P m) (P 0 + P 1 + P 2) N HK HV P 4 1 (K, V, F, C, B, P, S)).1))) D mCl (gM ca a z N HK HV OF OK OV m (P m) (S m) (grM m (P m) (P 0 + P 1 + P 2) N HK HV P 4 1 (K, V, F, C, B, P, S))) (hA (wM ca a z F K V P B S C N HK HV OF OK OV))) ([.ref (a 0), .int (nI m)] : List Value).toArray s 0 0 (hA (wM ca a z F K V P B S C N HK HV OF OK OV))) (F0 m0 38 ls []) := by
    intro n
    induction n with
    | zero =>
      intro d ls H locs K' V' F' C' B' P' S' hdn hd1 hPm hQ hG' hR hP hD hS hl
      have hd5 : d = 5 := by omega
      have h5 : 128 < P m * 2 ^ d := by rw [hd5]; omega
      have hcp5 : P m * 2 ^ d < 2 ^ 20 := by rw [hd5]; omega
      refine lv_iconst (v := 2) hx hb d_Mod_grow_38 (by decide) ?_
      refine lv_aload_n hx hb d_Mod_grow_39 rfl (lv_at hl 3 rfl) ?_
      refine mg_capacity X hK hP d_Mod_grow_40 ?_
      refine lv_iload_n hx hb d_Mod_grow_43 rfl (lv_at hl 4 rfl) ?_
      refine ml_P X hK hP (i := m) (by omega) d_Mod_grow_44 ?_
      refine lv_imul hx hb d_Mod_grow_45 ?_
      refine lv_tope (y := nI (P m * 2 ^ d)) (by show nI 2 * nI (P' m) = _; rw [pk_mul, hPm]) ?_
      refine lv_sipush (v := 128) hx hb d_Mod_grow_46 (by decide) ?_
      refine lvT_icmp_gt (tgt := 224) hx hb d_Mod_grow_49 (by decide) (nI_lt (a := 128) (b := P m * 2 ^ d) (by omega) (by omega)) ?_
      have hR1 : (grM m (P m) (P 0 + P 1 + P 2) N HK HV P 4 1 (K, V, F, C, B, P, S)) = (false, (K', V', F', C', B', P', S')) := hR.symm.trans (grM_n (Or.inl h5))
      refine lv_aload_n hx hb d_Mod_grow_224 rfl (lv_at hl 3 rfl) ?_
      refine lv_iload_n hx hb d_Mod_grow_225 rfl (lv_at hl 4 rfl) ?_
      refine lv_iload_n hx hb d_Mod_grow_226 rfl (lv_at hl 1 rfl) ?_
      refine lv_iload_n hx hb d_Mod_grow_227 rfl (lv_at hl 2 rfl) ?_
      refine km_putBack X hK hP hD hS hl.1 (m := m) (cz := P m) (sd := S m) hm (Nat.le_of_ble_eq_true rfl) ⟨Nat.zero_le _, Nat.zero_le _⟩ ⟨Nat.le_of_ble_eq_true rfl, Nat.le_of_ble_eq_true rfl⟩ d_Mod_grow_228 (fun H locs hP hD hS => ?_)
      refine lv_iconst (v := 0) hx hb d_Mod_grow_231 (by decide) ?_
      have hW9 : va_P D mCl (gM ca a z N HK HV OF OK OV m (P m) (S m) (grM m (P m) (P 0 + P 1 + P 2) N HK HV P 4 1 (K, V, F, C, B, P, S))) H := by rw [hR1]; exact hP
      exact W.zret (v := 0) hx hb hr rfl (fun t ht hW => ⟨by rw [hR1]; rfl, by rw [ht]; exact hW9, hS.F ht⟩) hS.2.2 d_Mod_grow_232
    | succ n ih =>
      intro d ls H locs K' V' F' C' B' P' S' hdn hd1 hPm hQ hG' hR hP hD hS hl
      have hcp : P m * 2 ^ d ≤ 2048 := sh_bd hp8 (by omega)
      refine lv_iconst (v := 2) hx hb d_Mod_grow_38 (by decide) ?_
      refine lv_aload_n hx hb d_Mod_grow_39 rfl (lv_at hl 3 rfl) ?_
      refine mg_capacity X hK hP d_Mod_grow_40 ?_
      refine lv_iload_n hx hb d_Mod_grow_43 rfl (lv_at hl 4 rfl) ?_
      refine ml_P X hK hP (i := m) (by omega) d_Mod_grow_44 ?_
      refine lv_imul hx hb d_Mod_grow_45 ?_
      refine lv_tope (y := nI (P m * 2 ^ d)) (by show nI 2 * nI (P' m) = _; rw [pk_mul, hPm]) ?_
      refine lv_sipush (v := 128) hx hb d_Mod_grow_46 (by decide) ?_
      refine lv_icmp_gt (tgt := 224) hx hb d_Mod_grow_49 (by decide) (fun h1 => ?_) (fun h1 => ?_)
      · have hR1 : (grM m (P m) (P 0 + P 1 + P 2) N HK HV P 4 1 (K, V, F, C, B, P, S)) = (false, (K', V', F', C', B', P', S')) := hR.symm.trans (grM_n (Or.inl ((nI_ltI (a := 128) (by omega) (by omega)).mp h1)))
        refine lv_aload_n hx hb d_Mod_grow_224 rfl (lv_at hl 3 rfl) ?_
        refine lv_iload_n hx hb d_Mod_grow_225 rfl (lv_at hl 4 rfl) ?_
        refine lv_iload_n hx hb d_Mod_grow_226 rfl (lv_at hl 1 rfl) ?_
        refine lv_iload_n hx hb d_Mod_grow_227 rfl (lv_at hl 2 rfl) ?_
        refine km_putBack X hK hP hD hS hl.1 (m := m) (cz := P m) (sd := S m) hm (Nat.le_of_ble_eq_true rfl) ⟨Nat.zero_le _, Nat.zero_le _⟩ ⟨Nat.le_of_ble_eq_true rfl, Nat.le_of_ble_eq_true rfl⟩ d_Mod_grow_228 (fun H locs hP hD hS => ?_)
        refine lv_iconst (v := 0) hx hb d_Mod_grow_231 (by decide) ?_
        have hW9 : va_P D mCl (gM ca a z N HK HV OF OK OV m (P m) (S m) (grM m (P m) (P 0 + P 1 + P 2) N HK HV P 4 1 (K, V, F, C, B, P, S))) H := by rw [hR1]; exact hP
        exact W.zret (v := 0) hx hb hr rfl (fun t ht hW => ⟨by rw [hR1]; rfl, by rw [ht]; exact hW9, hS.F ht⟩) hS.2.2 d_Mod_grow_232
      · refine lv_iload hx hb d_Mod_grow_52 (lv_at hl 0 rfl) ?_
        refine lv_iload_n hx hb d_Mod_grow_54 rfl (lv_at hl 1 rfl) ?_
        refine lv_iadd hx hb d_Mod_grow_55 ?_
        refine lv_tope (y := nI (P 0 + P 1 + P 2 - P m + (P m))) (nI_add (P 0 + P 1 + P 2 - P m) (P m)) ?_
        refine lv_iconst (v := 2) hx hb d_Mod_grow_56 (by decide) ?_
        refine lv_aload_n hx hb d_Mod_grow_57 rfl (lv_at hl 3 rfl) ?_
        refine mg_capacity X hK hP d_Mod_grow_58 ?_
        refine lv_iload_n hx hb d_Mod_grow_61 rfl (lv_at hl 4 rfl) ?_
        refine ml_P X hK hP (i := m) (by omega) d_Mod_grow_62 ?_
        refine lv_imul hx hb d_Mod_grow_63 ?_
        refine lv_tope (y := nI (P m * 2 ^ d)) (by show nI 2 * nI (P' m) = _; rw [pk_mul, hPm]) ?_
        refine lv_iadd hx hb d_Mod_grow_64 ?_
        refine lv_tope (y := nI (P 0 + P 1 + P 2 + P m * 2 ^ d)) (by show nI (P 0 + P 1 + P 2 - P m + P m) + nI (P m * 2 ^ d) = _; rw [nI_add, Nat.sub_add_cancel hms]) ?_
        refine lv_sipush (v := 256) hx hb d_Mod_grow_65 (by decide) ?_
        refine lv_icmp_gt (tgt := 224) hx hb d_Mod_grow_68 (by decide) (fun h2 => ?_) (fun h2 => ?_)
        · have hR1 : (grM m (P m) (P 0 + P 1 + P 2) N HK HV P 4 1 (K, V, F, C, B, P, S)) = (false, (K', V', F', C', B', P', S')) := hR.symm.trans (grM_n (Or.inr ((nI_ltI (a := 256) (by omega) (by omega)).mp h2)))
          refine lv_aload_n hx hb d_Mod_grow_224 rfl (lv_at hl 3 rfl) ?_
          refine lv_iload_n hx hb d_Mod_grow_225 rfl (lv_at hl 4 rfl) ?_
          refine lv_iload_n hx hb d_Mod_grow_226 rfl (lv_at hl 1 rfl) ?_
          refine lv_iload_n hx hb d_Mod_grow_227 rfl (lv_at hl 2 rfl) ?_
          refine km_putBack X hK hP hD hS hl.1 (m := m) (cz := P m) (sd := S m) hm (Nat.le_of_ble_eq_true rfl) ⟨Nat.zero_le _, Nat.zero_le _⟩ ⟨Nat.le_of_ble_eq_true rfl, Nat.le_of_ble_eq_true rfl⟩ d_Mod_grow_228 (fun H locs hP hD hS => ?_)
          refine lv_iconst (v := 0) hx hb d_Mod_grow_231 (by decide) ?_
          have hW9 : va_P D mCl (gM ca a z N HK HV OF OK OV m (P m) (S m) (grM m (P m) (P 0 + P 1 + P 2) N HK HV P 4 1 (K, V, F, C, B, P, S))) H := by rw [hR1]; exact hP
          exact W.zret (v := 0) hx hb hr rfl (fun t ht hW => ⟨by rw [hR1]; rfl, by rw [ht]; exact hW9, hS.F ht⟩) hS.2.2 d_Mod_grow_232
        · have hc1 : P m * 2 ^ d ≤ 128 := Nat.not_lt.mp (fun z => h1 ((nI_ltI (a := 128) (by omega) (by omega)).mpr z))
          have hc2 : P 0 + P 1 + P 2 + P m * 2 ^ d ≤ 256 := Nat.not_lt.mp (fun z => h2 ((nI_ltI (a := 256) (by omega) (by omega)).mpr z))
          have hR := (grM_s (by omega)).symm.trans hR
          have hpc : pw (P m * 2 ^ d) := pw_sh hc (by omega) hc1
          have cont : ∀ (ls : Array Slot) (H : Heap) (locs : List Loc) (B1 : Nat → Nat) (C1 : IT), lyB (P m * 2 ^ d) P B' C' = (B1, C1) → GI (P 0 + P 1 + P 2) (P m) m B1 P → va_P D mCl (wM ca a z F' K' V' P' B1 S' C1 N HK HV OF OK OV) H → va_D (hA (wM ca a z F K V P B S C N HK HV OF OK OV)) (wM ca a z F' K' V' P' B1 S' C1 N HK HV OF OK OV) → va_S (hA (wM ca a z F K V P B S C N HK HV OF OK OV)) s.heap H locs → lv_has ls 9 [(6, .int (nI (lastE B1 P))), (5, .int (nI (P m * 2 ^ d))), (4, .int (nI (P 0 + P 1 + P 2 - P m))), (2, .int (nI (P m))), (3, .int (S m)), (0, .ref (a 0)), (1, .int (nI m))] → W p l e (headSpec w_Mod_grow (rmD 3 0 0)).room s m0 ([.ref (a 0), .int (nI m)] : List Value).toArray below meth c0 H locs 0 0 (MQ below (hq_W (some (.int (bI (grM m (P m) (P 0 + P 1 + P 2) N HK HV P 4 1 (K, V, F, C, B, P, S)).1))) D mCl (gM ca a z N HK HV OF OK OV m (P m) (S m) (grM m (P m) (P 0 + P 1 + P 2) N HK HV P 4 1 (K, V, F, C, B, P, S))) (hA (wM ca a z F K V P B S C N HK HV OF OK OV))) ([.ref (a 0), .int (nI m)] : List Value).toArray s 0 0 (hA (wM ca a z F K V P B S C N HK HV OF OK OV))) (F0 m0 114 ls []) := by
            intro ls H locs B1 C1 hly hG1 hP hD hS hl
            have hR := (show grM2 _ m N HK HV P (K', V', clr F' (128 * m) 128, upd (lyB (P m * 2 ^ d) P B' C').2 1 ((lyB (P m * 2 ^ d) P B' C').2 1 + 1), (lyB (P m * 2 ^ d) P B' C').1, va_up P' m (P m * 2 ^ d), upd S' m (S' m * 1664525 + 1013904223)) = (grM m (P m) (P 0 + P 1 + P 2) N HK HV P 4 1 (K, V, F, C, B, P, S)) from hR)
            rw [hly] at hR
            refine lv_aload_n hx hb d_Mod_grow_114 rfl (lv_at hl 5 rfl) ?_
            refine mg_capacity X hK hP d_Mod_grow_115 ?_
            refine lv_iload_n hx hb d_Mod_grow_118 rfl (lv_at hl 6 rfl) ?_
            refine lv_iload hx hb d_Mod_grow_119 (lv_at hl 1 rfl) ?_
            refine ms_P X hK hP hD hS (i := m) (x := P m * 2 ^ d) (by omega) d_Mod_grow_121 (fun H locs hP hD hS => ?_)
            refine lv_aload_n hx hb d_Mod_grow_122 rfl (lv_at hl 5 rfl) ?_
            refine mg_seed X hK hP d_Mod_grow_123 ?_
            refine lv_iload_n hx hb d_Mod_grow_126 rfl (lv_at hl 6 rfl) ?_
            refine lv_aload_n hx hb d_Mod_grow_127 rfl (lv_at hl 5 rfl) ?_
            refine mg_seed X hK hP d_Mod_grow_128 ?_
            refine lv_iload_n hx hb d_Mod_grow_131 rfl (lv_at hl 6 rfl) ?_
            refine ml_S X hK hP (i := m) (by omega) d_Mod_grow_132 ?_
            refine lv_ldc (v := 1664525) hx hb hown (hwA (.constant R_Mod 88 (1664525)) m_529) d_Mod_grow_133 ?_
            refine lv_imul hx hb d_Mod_grow_135 ?_
            refine lv_ldc (v := 1013904223) hx hb hown (hwA (.constant R_Mod 89 (1013904223)) m_530) d_Mod_grow_136 ?_
            refine lv_iadd hx hb d_Mod_grow_138 ?_
            refine ms_S X hK hP hD hS (i := m) (x := ((S' m) * (1664525)) + (1013904223)) (by omega) d_Mod_grow_139 (fun H locs hP hD hS => ?_)
            refine lv_aload_n hx hb d_Mod_grow_140 rfl (lv_at hl 5 rfl) ?_
            refine mg_counts X hK hP d_Mod_grow_141 ?_
            refine lv_iconst (v := 1) hx hb d_Mod_grow_144 (by decide) ?_
            refine lv_aload_n hx hb d_Mod_grow_145 rfl (lv_at hl 5 rfl) ?_
            refine mg_counts X hK hP d_Mod_grow_146 ?_
            refine lv_iconst (v := 1) hx hb d_Mod_grow_149 (by decide) ?_
            refine ml_C X hK hP (i := 1) (by omega) d_Mod_grow_150 ?_
            refine lv_iconst (v := 1) hx hb d_Mod_grow_151 (by decide) ?_
            refine lv_iadd hx hb d_Mod_grow_152 ?_
            refine ms_C X hK hP hD hS (i := 1) (x := (C1 1) + (1)) (by omega) d_Mod_grow_153 (fun H locs hP hD hS => ?_)
            refine lv_aload_n hx hb d_Mod_grow_154 rfl (lv_at hl 5 rfl) ?_
            refine lv_iload_n hx hb d_Mod_grow_155 rfl (lv_at hl 6 rfl) ?_
            refine km_empty X hK hP hD hS hl.1 (m := m) hm (Nat.le_of_ble_eq_true rfl) ⟨Nat.zero_le _, Nat.zero_le _⟩ ⟨Nat.le_of_ble_eq_true rfl, Nat.le_of_ble_eq_true rfl⟩ d_Mod_grow_156 (fun H locs hP hD hS => ?_)
            have hcP2 : pw (va_up P' m (P m * 2 ^ d) m) := by rw [va_up_self]; exact hpc
            have hQ2 : va_up (va_up P' m (P m * 2 ^ d)) m (P m) = P := by rw [up_up]; exact hQ
            have hPm2 : 2 * va_up P' m (P m * 2 ^ d) m = P m * 2 ^ (d + 1) := by rw [va_up_self, Nat.pow_succ, Nat.mul_comm, Nat.mul_assoc]
            generalize va_up P' m (P m * 2 ^ d) = P2 at hP hD hR hcP2 hQ2 hPm2
            generalize upd S' m (S' m * 1664525 + 1013904223) = S2 at hP hD hR
            generalize clr F' (128 * m) 128 = F2 at hP hD hR
            generalize upd C1 1 (C1 1 + 1) = C2 at hP hD hR
            refine lv_iconst (v := 1) hx hb d_Mod_grow_159 (by decide) ?_
            refine lv_istore (lv' := [(7, .int 1), (6, .int (nI (lastE B1 P))), (5, .int (nI (P m * 2 ^ d))), (4, .int (nI (P 0 + P 1 + P 2 - P m))), (2, .int (nI (P m))), (3, .int (S m)), (0, .ref (a 0)), (1, .int (nI m))]) hx hb d_Mod_grow_160 hl (by decide) rfl (fun ls hl => ?_)
            refine lv_iconst (v := 0) hx hb d_Mod_grow_162 (by decide) ?_
            refine lv_istore (lv' := [(8, .int 0), (7, .int 1), (6, .int (nI (lastE B1 P))), (5, .int (nI (P m * 2 ^ d))), (4, .int (nI (P 0 + P 1 + P 2 - P m))), (2, .int (nI (P m))), (3, .int (S m)), (0, .ref (a 0)), (1, .int (nI m))]) hx hb d_Mod_grow_163 hl (by decide) rfl (fun ls hl => ?_)
            have hR := (show grM3 _ m P (K', V', F2, C2, B1, P2, S2) (insA (128 * m) (P2 m) (S2 m) HK HV N 0 (K', V', F2, C2)) = (grM m (P m) (P 0 + P 1 + P 2) N HK HV P 4 1 (K, V, F, C, B, P, S)) from hR)
            have inner : ∀ (n1 k : Nat) (ls : Array Slot) (H : Heap) (locs : List Loc) (K3 V3 : IT) (F3 : BT) (C3 : IT), k + n1 = N → insA (128 * m) (P2 m) (S2 m) HK HV n1 k (K3, V3, F3, C3) = (insA (128 * m) (P2 m) (S2 m) HK HV N 0 (K', V', F2, C2)) → va_P D mCl (wM ca a z F3 K3 V3 P2 B1 S2 C3 N HK HV OF OK OV) H → va_D (hA (wM ca a z F K V P B S C N HK HV OF OK OV)) (wM ca a z F3 K3 V3 P2 B1 S2 C3 N HK HV OF OK OV) → va_S (hA (wM ca a z F K V P B S C N HK HV OF OK OV)) s.heap H locs → lv_has ls 9 [(8, .int (nI k)), (7, .int 1), (6, .int (nI (lastE B1 P))), (4, .int (nI (P 0 + P 1 + P 2 - P m))), (2, .int (nI (P m))), (3, .int (S m)), (0, .ref (a 0)), (1, .int (nI m))] → W p l e (headSpec w_Mod_grow (rmD 3 0 0)).room s m0 ([.ref (a 0), .int (nI m)] : List Value).toArray below meth c0 H locs 0 0 (MQ below (hq_W (some (.int (bI (grM m (P m) (P 0 + P 1 + P 2) N HK HV P 4 1 (K, V, F, C, B, P, S)).1))) D mCl (gM ca a z N HK HV OF OK OV m (P m) (S m) (grM m (P m) (P 0 + P 1 + P 2) N HK HV P 4 1 (K, V, F, C, B, P, S))) (hA (wM ca a z F K V P B S C N HK HV OF OK OV))) ([.ref (a 0), .int (nI m)] : List Value).toArray s 0 0 (hA (wM ca a z F K V P B S C N HK HV OF OK OV))) (F0 m0 165 ls []) := by
              intro n1
              induction n1 with
              | zero =>
                intro k ls H locs K3 V3 F3 C3 hk hI hP hD hS hl
                refine lv_iload hx hb d_Mod_grow_165 (lv_at hl 0 rfl) ?_
                refine lv_aload_n hx hb d_Mod_grow_167 rfl (lv_at hl 6 rfl) ?_
                refine mg_held X hK hP d_Mod_grow_168 ?_
                refine lvT_icmp_ge (tgt := 206) hx hb d_Mod_grow_171 (by decide) (nI_le (a := N) (b := k) (by omega) (by omega)) ?_
                refine lv_iload hx hb d_Mod_grow_206 (lv_at hl 1 rfl) ?_
                refine lvF_if_eq (tgt := 221) hx hb d_Mod_grow_208 (by decide) (by decide) ?_
                refine lv_aload_n hx hb d_Mod_grow_211 rfl (lv_at hl 6 rfl) ?_
                refine mg_base X hK hP d_Mod_grow_212 ?_
                refine lv_iload_n hx hb d_Mod_grow_215 rfl (lv_at hl 7 rfl) ?_
                refine lv_iload hx hb d_Mod_grow_216 (lv_at hl 2 rfl) ?_
                refine ms_B X hK hP hD hS (i := m) (x := lastE B1 P) (by omega) d_Mod_grow_218 (fun H locs hP hD hS => ?_)
                refine lv_iconst (v := 1) hx hb d_Mod_grow_219 (by decide) ?_
                have hI : (insA (128 * m) (P2 m) (S2 m) HK HV N 0 (K', V', F2, C2)) = (true, (K3, V3, F3, C3)) := hI.symm
                have hR1 : (grM m (P m) (P 0 + P 1 + P 2) N HK HV P 4 1 (K, V, F, C, B, P, S)) = (true, (K3, V3, F3, C3, va_up B1 m (lastE B1 P), P2, S2)) := by rw [← hR, hI]; rfl
                have hW9 : va_P D mCl (gM ca a z N HK HV OF OK OV m (P m) (S m) (grM m (P m) (P 0 + P 1 + P 2) N HK HV P 4 1 (K, V, F, C, B, P, S))) H := by rw [hR1]; exact hP
                exact W.zret (v := 1) hx hb hr rfl (fun t ht hW => ⟨by rw [hR1]; rfl, by rw [ht]; exact hW9, hS.F ht⟩) hS.2.2 d_Mod_grow_220
              | succ n1 ih1 =>
                intro k ls H locs K3 V3 F3 C3 hk hI hP hD hS hl
                refine lv_iload hx hb d_Mod_grow_165 (lv_at hl 0 rfl) ?_
                refine lv_aload_n hx hb d_Mod_grow_167 rfl (lv_at hl 6 rfl) ?_
                refine mg_held X hK hP d_Mod_grow_168 ?_
                refine lvF_icmp_ge (tgt := 206) hx hb d_Mod_grow_171 (by decide) (nI_ge (a := k) (b := N) (by omega) (by omega)) ?_
                refine lv_iload hx hb d_Mod_grow_174 (lv_at hl 1 rfl) ?_
                refine lvF_if_eq (tgt := 206) hx hb d_Mod_grow_176 (by decide) (by decide) ?_
                refine lv_aload_n hx hb d_Mod_grow_179 rfl (lv_at hl 6 rfl) ?_
                refine lv_iload_n hx hb d_Mod_grow_180 rfl (lv_at hl 7 rfl) ?_
                refine lv_aload_n hx hb d_Mod_grow_181 rfl (lv_at hl 6 rfl) ?_
                refine mg_heldKeys X hK hP d_Mod_grow_182 ?_
                refine lv_iload hx hb d_Mod_grow_185 (lv_at hl 0 rfl) ?_
                refine ml_HK X hK hP (i := k) (by omega) d_Mod_grow_187 ?_
                refine lv_aload_n hx hb d_Mod_grow_188 rfl (lv_at hl 6 rfl) ?_
                refine mg_heldValues X hK hP d_Mod_grow_189 ?_
                refine lv_iload hx hb d_Mod_grow_192 (lv_at hl 0 rfl) ?_
                refine ml_HV X hK hP (i := k) (by omega) d_Mod_grow_194 ?_
                refine km_insert X hK hP hD hS hl.1 (m := m) (key := HK k) (val := HV k) hm hcP2 (Nat.le_of_ble_eq_true rfl) ⟨Nat.zero_le _, Nat.zero_le _⟩ ⟨Nat.le_of_ble_eq_true rfl, Nat.le_of_ble_eq_true rfl⟩ d_Mod_grow_195 (fun H locs hP hD hS => ?_)
                cases h3 : (ins (128 * m) (P2 m) (S2 m) (HK k) (HV k) (K3, V3, F3, C3)).1 with
                | false =>
                  refine lv_tope (y := 0) rfl ?_
                  refine lv_istore (lv' := [(7, .int 0), (8, .int (nI k)), (6, .int (nI (lastE B1 P))), (4, .int (nI (P 0 + P 1 + P 2 - P m))), (2, .int (nI (P m))), (3, .int (S m)), (0, .ref (a 0)), (1, .int (nI m))]) hx hb d_Mod_grow_198 hl (by decide) rfl (fun ls hl => ?_)
                  refine lv_iinc (k := 1) (v := nI (k + 1)) (lv' := [(8, .int (nI (k + 1))), (7, .int 0), (6, .int (nI (lastE B1 P))), (4, .int (nI (P 0 + P 1 + P 2 - P m))), (2, .int (nI (P m))), (3, .int (S m)), (0, .ref (a 0)), (1, .int (nI m))]) hx hb d_Mod_grow_200 hl rfl (inc1 k) (by decide) rfl (fun ls hl => ?_)
                  refine lv_goto (tgt := 165) hx hb d_Mod_grow_203 (by decide) ?_
                  have hI := (insA_f (n := n1) (X := (K3, V3, F3, C3)) h3).symm.trans hI
                  have hR := (show grM3 (fun Z => grM m (P m) (P 0 + P 1 + P 2) N HK HV P n (d + 1) Z) m P (K', V', F2, C2, B1, P2, S2) (insA (128 * m) (P2 m) (S2 m) HK HV N 0 (K', V', F2, C2)) = (grM m (P m) (P 0 + P 1 + P 2) N HK HV P 4 1 (K, V, F, C, B, P, S)) from hR)
                  rw [← hI] at hR
                  refine lv_iload hx hb d_Mod_grow_165 (lv_at hl 0 rfl) ?_
                  refine lv_aload_n hx hb d_Mod_grow_167 rfl (lv_at hl 6 rfl) ?_
                  refine mg_held X hK hP d_Mod_grow_168 ?_
                  refine lv_icmp_ge (tgt := 206) hx hb d_Mod_grow_171 (by decide) (fun h4 => ?_) (fun h4 => ?_)
                  · refine lv_iload hx hb d_Mod_grow_206 (lv_at hl 1 rfl) ?_
                    refine lvT_if_eq (tgt := 221) hx hb d_Mod_grow_208 (by decide) (rfl) ?_
                    refine lv_goto (tgt := 38) hx hb d_Mod_grow_221 (by decide) ?_
                    exact ih (d + 1) ls H locs _ _ _ _ _ _ _ (by omega) (by omega) hPm2 hQ2 hG1 hR hP hD hS (lv_sub hl [3, 4, 5, 6, 7] rfl)
                  · refine lv_iload hx hb d_Mod_grow_174 (lv_at hl 1 rfl) ?_
                    refine lvT_if_eq (tgt := 206) hx hb d_Mod_grow_176 (by decide) (rfl) ?_
                    refine lv_iload hx hb d_Mod_grow_206 (lv_at hl 1 rfl) ?_
                    refine lvT_if_eq (tgt := 221) hx hb d_Mod_grow_208 (by decide) (rfl) ?_
                    refine lv_goto (tgt := 38) hx hb d_Mod_grow_221 (by decide) ?_
                    exact ih (d + 1) ls H locs _ _ _ _ _ _ _ (by omega) (by omega) hPm2 hQ2 hG1 hR hP hD hS (lv_sub hl [3, 4, 5, 6, 7] rfl)
                | true =>
                  refine lv_tope (y := 1) rfl ?_
                  refine lv_istore (lv' := [(7, .int 1), (8, .int (nI k)), (6, .int (nI (lastE B1 P))), (4, .int (nI (P 0 + P 1 + P 2 - P m))), (2, .int (nI (P m))), (3, .int (S m)), (0, .ref (a 0)), (1, .int (nI m))]) hx hb d_Mod_grow_198 hl (by decide) rfl (fun ls hl => ?_)
                  refine lv_iinc (k := 1) (v := nI (k + 1)) (lv' := [(8, .int (nI (k + 1))), (7, .int 1), (6, .int (nI (lastE B1 P))), (4, .int (nI (P 0 + P 1 + P 2 - P m))), (2, .int (nI (P m))), (3, .int (S m)), (0, .ref (a 0)), (1, .int (nI m))]) hx hb d_Mod_grow_200 hl rfl (inc1 k) (by decide) rfl (fun ls hl => ?_)
                  refine lv_goto (tgt := 165) hx hb d_Mod_grow_203 (by decide) ?_
                  exact ih1 (k + 1) ls H locs _ _ _ _ (by omega) ((insA_t (n := n1) (X := (K3, V3, F3, C3)) h3).symm.trans hI) hP hD hS (lv_sub hl [0, 1, 2, 3, 4, 5, 6, 7] rfl)
            exact inner N 0 ls H locs K' V' F2 C2 (by omega) rfl hP hD hS (lv_sub hl [0, 1, 2, 4, 5, 6, 7, 8] rfl)
          have hQ9 : ∀ i, i < 3 → B' i + va_up P' m (P m) i ≤ 256 := by rw [hQ]; exact hG'.1
          have hle := mxE_bd hG'.1 3 (Nat.le_refl _)
          rw [mxE_3] at hle
          refine lv_iconst (v := 2) hx hb d_Mod_grow_71 (by decide) ?_
          refine lv_aload_n hx hb d_Mod_grow_72 rfl (lv_at hl 3 rfl) ?_
          refine mg_capacity X hK hP d_Mod_grow_73 ?_
          refine lv_iload_n hx hb d_Mod_grow_76 rfl (lv_at hl 4 rfl) ?_
          refine ml_P X hK hP (i := m) (by omega) d_Mod_grow_77 ?_
          refine lv_imul hx hb d_Mod_grow_78 ?_
          refine lv_tope (y := nI (P m * 2 ^ d)) (by show nI 2 * nI (P' m) = _; rw [pk_mul, hPm]) ?_
          refine lv_istore (lv' := [(5, .int (nI (P m * 2 ^ d))), (4, .int (nI (P 0 + P 1 + P 2 - P m))), (2, .int (nI (P m))), (3, .int (S m)), (0, .ref (a 0)), (1, .int (nI m))]) hx hb d_Mod_grow_79 hl (by decide) rfl (fun ls hl => ?_)
          refine lv_aload_n hx hb d_Mod_grow_81 rfl (lv_at hl 4 rfl) ?_
          refine lv_iload_n hx hb d_Mod_grow_82 rfl (lv_at hl 5 rfl) ?_
          refine lv_iload_n hx hb d_Mod_grow_83 rfl (lv_at hl 2 rfl) ?_
          refine km_endOfAll X hK hP hl.1 (g := m) (cz := P m) (by omega) (hQ9) (Nat.le_of_ble_eq_true rfl) ⟨Nat.zero_le _, Nat.zero_le _⟩ ⟨Nat.le_of_ble_eq_true rfl, Nat.le_of_ble_eq_true rfl⟩ d_Mod_grow_84 ?_
          refine lv_tope (y := nI (lastE B' P)) (by rw [hQ]) ?_
          refine lv_istore (lv' := [(6, .int (nI (lastE B' P))), (5, .int (nI (P m * 2 ^ d))), (4, .int (nI (P 0 + P 1 + P 2 - P m))), (2, .int (nI (P m))), (3, .int (S m)), (0, .ref (a 0)), (1, .int (nI m))]) hx hb d_Mod_grow_87 hl (by decide) rfl (fun ls hl => ?_)
          refine lv_iload hx hb d_Mod_grow_89 (lv_at hl 0 rfl) ?_
          refine lv_iload hx hb d_Mod_grow_91 (lv_at hl 1 rfl) ?_
          refine lv_iadd hx hb d_Mod_grow_93 ?_
          refine lv_tope (y := nI (lastE B' P + (P m * 2 ^ d))) (nI_add (lastE B' P) (P m * 2 ^ d)) ?_
          refine lv_sipush (v := 256) hx hb d_Mod_grow_94 (by decide) ?_
          refine lv_icmp_le (tgt := 114) hx hb d_Mod_grow_97 (by decide) (fun h3 => ?_) (fun h3 => ?_)
          · have hly : lyB (P m * 2 ^ d) P B' C' = (B', C') := if_neg (Nat.not_lt.mpr ((nI_leI (b := 256) (by omega) (by omega)).mp h3))
            exact cont ls H locs B' C' hly hG' hP hD hS (lv_sub hl [0, 1, 2, 3, 4, 5, 6] rfl)
          · have hly : lyB (P m * 2 ^ d) P B' C' = (pshB P B', upd C' 2 (C' 2 + 1)) := if_pos (Nat.not_le.mp (fun z => h3 ((nI_leI (b := 256) (by omega) (by omega)).mpr z)))
            have hG2 : GI (P 0 + P 1 + P 2) (P m) m (pshB P B') P := by have z := lyB_inv (cp := P m * 2 ^ d) (C := C') hG'; rw [hly] at z; exact z
            obtain ⟨x, y, z0, hord⟩ := DJ_Ord hpp hG'.2.1
            have hpb : pB B' (va_up P' m (P m)) x y z0 = pshB P B' := by rw [hQ]; exact (Ord_psh hpp hord).symm
            refine lv_aload_n hx hb d_Mod_grow_100 rfl (lv_at hl 5 rfl) ?_
            refine lv_iload_n hx hb d_Mod_grow_101 rfl (lv_at hl 6 rfl) ?_
            refine lv_iload_n hx hb d_Mod_grow_102 rfl (lv_at hl 3 rfl) ?_
            refine km_pushTogether X hK hP hD hS hl.1 (g := m) (cz := P m) (x := x) (y := y) (z0 := z0) (by omega) hQ9 (by rw [hQ]; exact hord) (Nat.le_of_ble_eq_true rfl) ⟨Nat.zero_le _, Nat.zero_le _⟩ ⟨Nat.le_of_ble_eq_true rfl, Nat.le_of_ble_eq_true rfl⟩ d_Mod_grow_103 (fun H locs hP hD hS => ?_)
            rw [hpb] at hP hD
            have hQ8 : ∀ i, i < 3 → pshB P B' i + va_up P' m (P m) i ≤ 256 := by rw [hQ]; exact hG2.1
            refine lv_aload_n hx hb d_Mod_grow_106 rfl (lv_at hl 5 rfl) ?_
            refine lv_iload_n hx hb d_Mod_grow_107 rfl (lv_at hl 6 rfl) ?_
            refine lv_iload_n hx hb d_Mod_grow_108 rfl (lv_at hl 3 rfl) ?_
            refine km_endOfAll X hK hP hl.1 (g := m) (cz := P m) (by omega) (hQ8) (Nat.le_of_ble_eq_true rfl) ⟨Nat.zero_le _, Nat.zero_le _⟩ ⟨Nat.le_of_ble_eq_true rfl, Nat.le_of_ble_eq_true rfl⟩ d_Mod_grow_109 ?_
            refine lv_tope (y := nI (lastE (pshB P B') P)) (by rw [hQ]) ?_
            refine lv_istore (lv' := [(6, .int (nI (lastE (pshB P B') P))), (5, .int (nI (P m * 2 ^ d))), (4, .int (nI (P 0 + P 1 + P 2 - P m))), (2, .int (nI (P m))), (3, .int (S m)), (0, .ref (a 0)), (1, .int (nI m))]) hx hb d_Mod_grow_112 hl (by decide) rfl (fun ls hl => ?_)
            exact cont ls H locs _ _ hly hG2 hP hD hS (lv_sub hl [0, 1, 2, 3, 4, 5, 6] rfl)
  refine lv_aload_n hx hb d_Mod_grow_0 rfl (lv_at hl 0 rfl) ?_
  refine mg_capacity X hK hP d_Mod_grow_1 ?_
  refine lv_iload_n hx hb d_Mod_grow_4 rfl (lv_at hl 1 rfl) ?_
  refine ml_P X hK hP (i := m) (by omega) d_Mod_grow_5 ?_
  refine lv_istore_n (lv' := [(2, .int (nI (P m))), (0, .ref (a 0)), (1, .int (nI m))]) hx hb d_Mod_grow_6 rfl hl (by decide) rfl (fun ls hl => ?_)
  refine lv_aload_n hx hb d_Mod_grow_7 rfl (lv_at hl 1 rfl) ?_
  refine mg_seed X hK hP d_Mod_grow_8 ?_
  refine lv_iload_n hx hb d_Mod_grow_11 rfl (lv_at hl 2 rfl) ?_
  refine ml_S X hK hP (i := m) (by omega) d_Mod_grow_12 ?_
  refine lv_istore_n (lv' := [(3, .int (S m)), (2, .int (nI (P m))), (0, .ref (a 0)), (1, .int (nI m))]) hx hb d_Mod_grow_13 rfl hl (by decide) rfl (fun ls hl => ?_)
  refine lv_aload_n hx hb d_Mod_grow_14 rfl (lv_at hl 2 rfl) ?_
  refine mg_capacity X hK hP d_Mod_grow_15 ?_
  refine lv_iconst (v := 0) hx hb d_Mod_grow_18 (by decide) ?_
  refine ml_P X hK hP (i := 0) (by omega) d_Mod_grow_19 ?_
  refine lv_aload_n hx hb d_Mod_grow_20 rfl (lv_at hl 2 rfl) ?_
  refine mg_capacity X hK hP d_Mod_grow_21 ?_
  refine lv_iconst (v := 1) hx hb d_Mod_grow_24 (by decide) ?_
  refine ml_P X hK hP (i := 1) (by omega) d_Mod_grow_25 ?_
  refine lv_iadd hx hb d_Mod_grow_26 ?_
  refine lv_tope (y := nI (P 0 + (P 1))) (nI_add (P 0) (P 1)) ?_
  refine lv_aload_n hx hb d_Mod_grow_27 rfl (lv_at hl 2 rfl) ?_
  refine mg_capacity X hK hP d_Mod_grow_28 ?_
  refine lv_iconst (v := 2) hx hb d_Mod_grow_31 (by decide) ?_
  refine ml_P X hK hP (i := 2) (by omega) d_Mod_grow_32 ?_
  refine lv_iadd hx hb d_Mod_grow_33 ?_
  refine lv_tope (y := nI (P 0 + (P 1) + (P 2))) (nI_add (P 0 + (P 1)) (P 2)) ?_
  refine lv_iload_n hx hb d_Mod_grow_34 rfl (lv_at hl 1 rfl) ?_
  refine lv_isub hx hb d_Mod_grow_35 ?_
  refine lv_tope (y := nI (P 0 + P 1 + P 2 - P m)) (pk_sub hms) ?_
  refine lv_istore (lv' := [(4, .int (nI (P 0 + P 1 + P 2 - P m))), (3, .int (S m)), (2, .int (nI (P m))), (0, .ref (a 0)), (1, .int (nI m))]) hx hb d_Mod_grow_36 hl (by decide) rfl (fun ls hl => ?_)
  exact loop 4 1 ls s.heap [] K V F C B P S rfl (Nat.le_refl _) (by omega) up_id hG rfl hP hD hS (lv_sub hl [0, 2, 1, 3, 4] rfl)
section MKB
variable {p : Program} {l : Launch} {e : Env} {R : Room} {s : State} {m0 : MethodId} {args : Array Value} {below : List Frame} {meth : Method} {c : Code} {H : Heap} {locs : List Loc} {cells slots : Nat} {Q : State → Prop}
variable {cc : ByteArray} {pc nL : Nat} {ls : Array Slot} {rest st0 : List Value} {D : va_G} {A : Nat → Prop} {H0 : Heap} {tys : List (ClassId × FieldType)} {ca a : Nat → Nat} {z : Int32} {F : BT} {K V : IT} {P B : Nat → Nat} {S C : IT} {N : Nat} {HK HV : IT} {OF : BT} {OK OV : IT}
theorem km_grow (X : CallFix p m0 c cc nL s args wsA R_Mod) (hK : va_K D mCl (tyM ca) s) (hP : va_P D mCl (wM ca a z F K V P B S C N HK HV OF OK OV) H) (hD : va_D A (wM ca a z F K V P B S C N HK HV OF OK OV)) (hS : va_S A H0 H locs) (hsz : ls.size = nL) {m : Nat} (hm : m < 3) (hc : pw (P m)) (hG : GI (P 0 + P 1 + P 2) (P m) m B P) (hN : N ≤ 129) (hrm : (rest.map fun v => v.category).sum ≤ 8) (hf : cells ≤ R.cells ∧ slots ≤ R.slots) (hR : 4 ≤ R.frames ∧ 120 ≤ R.locals) (d : decode cc pc = .ok (.invokevirtual 110, 3)) (kk9 : ∀ (H1 : Heap) (locs1 : List Loc), va_P D mCl (gM ca a z N HK HV OF OK OV m (P m) (S m) (grM m (P m) (P 0 + P 1 + P 2) N HK HV P 4 1 (K, V, F, C, B, P, S))) H1 → va_D A (gM ca a z N HK HV OF OK OV m (P m) (S m) (grM m (P m) (P 0 + P 1 + P 2) N HK HV P 4 1 (K, V, F, C, B, P, S))) → va_S A H0 H1 locs1 → W p l e R s m0 args below meth c H1 locs1 cells slots Q (F0 m0 (pc + 3) ls (.int (bI (grM m (P m) (P 0 + P 1 + P 2) N HK HV P 4 1 (K, V, F, C, B, P, S)).1) :: rest))) : W p l e R s m0 args below meth c H locs cells slots Q (F0 m0 pc ls (.int (nI m) :: .ref (a 0) :: rest)) :=
  hw_V (As := [.int (nI m)]) (v := some (.int (bI (grM m (P m) (P 0 + P 1 + P 2) N HK HV P 4 1 (K, V, F, C, B, P, S)).1))) (C := R_Mod) X (c_Mod_grow l D ca a z F K V P B S C N HK HV OF OK OV m hm hc hG hN) (cwV 1 X.2.2.2.2 g_Mod_grow rfl rfl rfl (by decide +kernel) ⟨by show 3 + 1 ≤ _; omega, by show 8 + (9 + 11) + 30 * 3 ≤ _; omega⟩) hP hK hD hS gM_a (va_recv (q0 := 0) (ci := 2) (q := (R_Mod, F_Mod, 14)) hK hP rfl rfl) rfl hsz rfl hrm hf d kk9
end MKB
