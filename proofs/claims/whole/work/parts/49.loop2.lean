section HLC
variable {p : Program} {l : Launch} {e : Env} {s : State} {m : MethodId} {below : List Frame} {meth : Method} {c : Code} {b L : Nat} {xs : Nat → Int32} {Q : State → Prop} {D : va_G} {ca a cm am sa : Nat → Nat} {o co : Nat} {A : Nat → Prop}
set_option maxHeartbeats 4000000 in
set_option maxRecDepth 100000 in
theorem lw_put {i : Nat} {ls : Array Slot} {H : Heap} {locs : List Loc} {cells slots : Nat} {q : Nat → Nat} {Z : HS} {f : Nat → Int64} {z : Int32} {Z' : HS} {O : OS} (X : CallFix p m c code 7 s #[Value.ref b] wsA R_Law) (hC : LK l D ca cm sa co A s b L xs) (hi : i + 4 ≤ L) (hL : L ≤ 2048) (hI : LI D ca a cm am o co A s H locs q Z f z Z' O) (hf : cells + 2 ≤ room_1.cells ∧ slots + 12 ≤ room_1.slots) (hl : lv_has ls 7 [(4, .int (nI i)), (0, .ref b), (1, .ref (a 0)), (2, .ref (am 0)), (3, .ref o)])
    (kk : ∀ (ls : Array Slot) (H : Heap) (locs : List Loc) (q : Nat → Nat) (Z : HS) (f : Nat → Int64) (z : Int32) (Z' : HS) (O : OS), LI D ca a cm am o co A s H locs q Z f z Z' O → lv_has ls 7 [(4, .int (nI i)), (0, .ref b), (1, .ref (a 0)), (2, .ref (am 0)), (3, .ref o)] → W p l e room_1 s m #[Value.ref b] below meth c H locs (cells + 2) (slots + 12) Q (F0 m 978 ls [])) : W p l e room_1 s m #[Value.ref b] below meth c H locs cells slots Q (F0 m 104 ls []) := by
  obtain ⟨hlt, hK, hKm, hF, hZ, hN, hX, hbl, hbA⟩ := hC
  obtain ⟨hP, hPm, hD, hDm, hdis, hS, hsim⟩ := hI
  have hx := X.1
  have hb := X.2.1
  have hwA := X.2.2.2.2
  obtain ⟨k, q1, Z1, f1, bv, Z1', O1, m1, hd1, hsub, m2, hsim1, hcmp⟩ := st_put l hlt D ca a q cm am sa o co Z f z Z' O (xs (i + 1)) (xs (i + 2)) (xs (i + 3)) hsim
  have hcs := hA_cs (f := f) (f1 := f1) (o := o) (co := co) hsub
  refine lv_aload_n hx hb d_law_104 rfl (lv_at hl 2 rfl) ?_
  refine lv_aload_n hx hb d_law_105 rfl (lv_at hl 1 rfl) ?_
  refine lv_iload hx hb d_law_106 (lv_at hl 0 rfl) ?_
  refine lv_iconst (v := 1) hx hb d_law_108 (by decide) ?_
  refine lv_iadd hx hb d_law_109 ?_
  refine lv_tope (y := nI (i + 1)) (nI_add (i) (1)) ?_
  refine va_sld hx hb hX hbl hbA hS (i := nI (i + 1)) (vp_in_nI (by omega) (by omega)) d_law_110 ?_
  rw [nI_clamp (show i + 1 < 2 ^ 31 by omega)]
  refine lv_aload_n hx hb d_law_111 rfl (lv_at hl 1 rfl) ?_
  refine lv_iload hx hb d_law_112 (lv_at hl 0 rfl) ?_
  refine lv_iconst (v := 2) hx hb d_law_114 (by decide) ?_
  refine lv_iadd hx hb d_law_115 ?_
  refine lv_tope (y := nI (i + 2)) (nI_add (i) (2)) ?_
  refine va_sld hx hb hX hbl hbA hS (i := nI (i + 2)) (vp_in_nI (by omega) (by omega)) d_law_116 ?_
  rw [nI_clamp (show i + 2 < 2 ^ 31 by omega)]
  refine lv_aload_n hx hb d_law_117 rfl (lv_at hl 1 rfl) ?_
  refine lv_iload hx hb d_law_118 (lv_at hl 0 rfl) ?_
  refine lv_iconst (v := 3) hx hb d_law_120 (by decide) ?_
  refine lv_iadd hx hb d_law_121 ?_
  refine lv_tope (y := nI (i + 3)) (nI_add (i) (3)) ?_
  refine va_sld hx hb hX hbl hbA hS (i := nI (i + 3)) (vp_in_nI (by omega) (by omega)) d_law_122 ?_
  rw [nI_clamp (show i + 3 < 2 ^ 31 by omega)]
  refine lv_aload_n hx hb d_law_123 rfl (lv_at hl 4 rfl) ?_
  refine hw_callN (vx_runSW (As := [.ref (a 0), .int (xs (i + 1)), .int (xs (i + 2)), .int (xs (i + 3)), .ref o]) (rest := []) X m1 (vx_cwSW 5 hwA g_Law_put rfl rfl rfl (by decide +kernel) ⟨Nat.le_of_ble_eq_true rfl, Nat.le_of_ble_eq_true rfl⟩) (lb_pre hP hK hD hS hF hZ hN) rfl rfl hl.1 rfl (lv_room (Nat.le_of_ble_eq_true rfl)) d_law_124 hf) hS (hA_sub hD) (fun H locs hP1 hfr hS => ?_)
  have hPm := P_far hPm hfr (fun x h1 h2 => hdis x h2 h1)
  have hD1 : va_D A (oc o co f1 :: wHZ ca a q1 Z1) := D_cons (show A o from hD.2 0 (oc o co f) rfl) (hd1 A (D_tl hD)) (fun z9 => D_hd hD (hsub _ z9))
  refine lv_istore (lv' := [(5, .int k), (4, .int (nI i)), (0, .ref b), (1, .ref (a 0)), (2, .ref (am 0)), (3, .ref o)]) hx hb d_law_127 hl (by decide) rfl (fun ls hl => ?_)
  refine lv_aload_n hx hb d_law_129 rfl (lv_at hl 4 rfl) ?_
  refine lv_aload_n hx hb d_law_130 rfl (lv_at hl 2 rfl) ?_
  refine lv_iload hx hb d_law_131 (lv_at hl 1 rfl) ?_
  refine lv_iconst (v := 1) hx hb d_law_133 (by decide) ?_
  refine lv_iadd hx hb d_law_134 ?_
  refine lv_tope (y := nI (i + 1)) (nI_add (i) (1)) ?_
  refine va_sld hx hb hX hbl hbA hS (i := nI (i + 1)) (vp_in_nI (by omega) (by omega)) d_law_135 ?_
  rw [nI_clamp (show i + 1 < 2 ^ 31 by omega)]
  refine lv_aload_n hx hb d_law_136 rfl (lv_at hl 2 rfl) ?_
  refine lv_iload hx hb d_law_137 (lv_at hl 1 rfl) ?_
  refine lv_iconst (v := 2) hx hb d_law_139 (by decide) ?_
  refine lv_iadd hx hb d_law_140 ?_
  refine lv_tope (y := nI (i + 2)) (nI_add (i) (2)) ?_
  refine va_sld hx hb hX hbl hbA hS (i := nI (i + 2)) (vp_in_nI (by omega) (by omega)) d_law_141 ?_
  rw [nI_clamp (show i + 2 < 2 ^ 31 by omega)]
  refine lv_aload_n hx hb d_law_142 rfl (lv_at hl 2 rfl) ?_
  refine lv_iload hx hb d_law_143 (lv_at hl 1 rfl) ?_
  refine lv_iconst (v := 3) hx hb d_law_145 (by decide) ?_
  refine lv_iadd hx hb d_law_146 ?_
  refine lv_tope (y := nI (i + 3)) (nI_add (i) (3)) ?_
  refine va_sld hx hb hX hbl hbA hS (i := nI (i + 3)) (vp_in_nI (by omega) (by omega)) d_law_147 ?_
  rw [nI_clamp (show i + 3 < 2 ^ 31 by omega)]
  refine hw_callN (va_runV (As := [.int (xs (i + 1)), .int (xs (i + 2)), .int (xs (i + 3))]) (rest := []) X m2 (cwV 3 hwA g_Law_Mod_put rfl rfl rfl (by decide +kernel) ⟨Nat.le_of_ble_eq_true rfl, Nat.le_of_ble_eq_true rfl⟩) (hb_preW hPm hKm hDm (va_recv (q0 := 0) (ci := 2) (q := (R_Mod, F_Mod, 14)) hKm hPm rfl rfl)) rfl rfl hl.1 rfl (lv_room (Nat.le_of_ble_eq_true rfl)) d_law_148 hf) hS (hA_sub hDm) (fun H locs hPm1 hfr hS => ?_)
  have hP1 := P_far hP1 hfr (fun x h1 h2 => hdis x (hcs x h1) h2)
  have hDm1 : va_D A (wMZ cm am k Z1' O1) := va_Das hDm wM_a
  refine lv_istore (lv' := [(6, .int bv), (5, .int k), (4, .int (nI i)), (0, .ref b), (1, .ref (a 0)), (2, .ref (am 0)), (3, .ref o)]) hx hb d_law_151 hl (by decide) rfl (fun ls hl => ?_)
  refine lv_aload_n hx hb d_law_153 rfl (lv_at hl 5 rfl) ?_
  refine hr_V (As := []) (v := some (.int k)) (C := R_Mod) X (c_Mod_thrown l D cm am k Z1'.2.2.1 Z1'.1 Z1'.2.1 Z1'.2.2.2.2.2.1 Z1'.2.2.2.2.1 Z1'.2.2.2.2.2.2 Z1'.2.2.2.1 O1.1 O1.2.1 O1.2.2.1 O1.2.2.2.1 O1.2.2.2.2.1 O1.2.2.2.2.2) (cwV 0 hwA g_Law_Mod_thrown rfl rfl rfl (by decide +kernel) ⟨Nat.le_of_ble_eq_true rfl, Nat.le_of_ble_eq_true rfl⟩) hPm1 hKm (va_recv (q0 := 0) (ci := 2) (q := (R_Mod, F_Mod, 14)) hKm hPm1 rfl rfl) rfl hl.1 rfl (Nat.le_of_ble_eq_true rfl) hf d_law_154 ?_
  refine lv_iload hx hb d_law_157 (lv_at hl 1 rfl) ?_
  refine lvT_icmp_eq (tgt := 164) hx hb d_law_159 (by decide) (rfl) ?_
  refine lv_iload hx hb d_law_164 (lv_at hl 1 rfl) ?_
  refine lv_if_ne (tgt := 188) hx hb d_law_166 (by decide) (fun h1 => ?_) (fun h1 => ?_)
  · refine lv_goto (tgt := 978) hx hb d_law_188 (by decide) ?_
    exact kk ls H locs q1 Z1 f1 k Z1' O1 ⟨hP1, hPm1, hD1, hDm1, fun x h1 h2 => hdis x (hcs x h1) (hA_as wM_a x h2), hS, hsim1⟩ (lv_sub hl [2, 3, 4, 5, 6] rfl)
  · by_cases hb0 : bv = 0
    · refine lv_aload_n hx hb d_law_169 rfl (lv_at hl 6 rfl) ?_
      refine lv_iconst (v := 0) hx hb d_law_170 (by decide) ?_
      refine va_lald hx hb hK hP1 0 0 rfl rfl (vp_in_nI (n := 0) (by decide) (by decide)) d_law_171 ?_
      refine lv_topv (v' := .long (0)) (congrArg Value.long ((hcmp h1).trans (if_pos hb0))) ?_
      refine lv_iload hx hb d_law_172 (lv_at hl 0 rfl) ?_
      refine lvT_if_eq (tgt := 181) hx hb d_law_174 (by decide) (hb0) ?_
      refine lv_lconst (v := 0) hx hb d_law_181 rfl ?_
      refine lv_lcmpE hx hb d_law_182 ?_
      refine lvT_if_eq (tgt := 188) hx hb d_law_183 (by decide) (rfl) ?_
      refine lv_goto (tgt := 978) hx hb d_law_188 (by decide) ?_
      exact kk ls H locs q1 Z1 f1 k Z1' O1 ⟨hP1, hPm1, hD1, hDm1, fun x h1 h2 => hdis x (hcs x h1) (hA_as wM_a x h2), hS, hsim1⟩ (lv_sub hl [2, 3, 4, 5, 6] rfl)
    · refine lv_aload_n hx hb d_law_169 rfl (lv_at hl 6 rfl) ?_
      refine lv_iconst (v := 0) hx hb d_law_170 (by decide) ?_
      refine va_lald hx hb hK hP1 0 0 rfl rfl (vp_in_nI (n := 0) (by decide) (by decide)) d_law_171 ?_
      refine lv_topv (v' := .long (1)) (congrArg Value.long ((hcmp h1).trans (if_neg hb0))) ?_
      refine lv_iload hx hb d_law_172 (lv_at hl 0 rfl) ?_
      refine lvF_if_eq (tgt := 181) hx hb d_law_174 (by decide) (hb0) ?_
      refine lv_lconst (v := 1) hx hb d_law_177 rfl ?_
      refine lv_goto (tgt := 182) hx hb d_law_178 (by decide) ?_
      refine lv_lcmpE hx hb d_law_182 ?_
      refine lvT_if_eq (tgt := 188) hx hb d_law_183 (by decide) (rfl) ?_
      refine lv_goto (tgt := 978) hx hb d_law_188 (by decide) ?_
      exact kk ls H locs q1 Z1 f1 k Z1' O1 ⟨hP1, hPm1, hD1, hDm1, fun x h1 h2 => hdis x (hcs x h1) (hA_as wM_a x h2), hS, hsim1⟩ (lv_sub hl [2, 3, 4, 5, 6] rfl)
end HLC
