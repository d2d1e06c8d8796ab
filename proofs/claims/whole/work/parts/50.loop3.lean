section HLC
variable {p : Program} {l : Launch} {e : Env} {s : State} {m : MethodId} {below : List Frame} {meth : Method} {c : Code} {b L : Nat} {xs : Nat → Int32} {Q : State → Prop} {D : va_G} {ca a cm am sa : Nat → Nat} {o co : Nat} {A : Nat → Prop}
set_option maxHeartbeats 4000000 in
set_option maxRecDepth 100000 in
theorem lw_get {i : Nat} {ls : Array Slot} {H : Heap} {locs : List Loc} {cells slots : Nat} {q : Nat → Nat} {Z : HS} {f : Nat → Int64} {z : Int32} {Z' : HS} {O : OS} (X : CallFix p m c code 7 s #[Value.ref b] wsA R_Law) (hC : LK l D ca cm sa co A s b L xs) (hi : i + 4 ≤ L) (hL : L ≤ 2048) (hI : LI D ca a cm am o co A s H locs q Z f z Z' O) (hf : cells + 2 ≤ room_1.cells ∧ slots + 12 ≤ room_1.slots) (hl : lv_has ls 7 [(4, .int (nI i)), (0, .ref b), (1, .ref (a 0)), (2, .ref (am 0)), (3, .ref o)])
    (kk : ∀ (ls : Array Slot) (H : Heap) (locs : List Loc) (q : Nat → Nat) (Z : HS) (f : Nat → Int64) (z : Int32) (Z' : HS) (O : OS), LI D ca a cm am o co A s H locs q Z f z Z' O → lv_has ls 7 [(4, .int (nI i)), (0, .ref b), (1, .ref (a 0)), (2, .ref (am 0)), (3, .ref o)] → W p l e room_1 s m #[Value.ref b] below meth c H locs (cells + 2) (slots + 12) Q (F0 m 978 ls [])) : W p l e room_1 s m #[Value.ref b] below meth c H locs cells slots Q (F0 m 191 ls []) := by
  obtain ⟨hlt, hK, hKm, hF, hZ, hN, hX, hbl, hbA⟩ := hC
  obtain ⟨hP, hPm, hD, hDm, hdis, hS, hsim⟩ := hI
  have hx := X.1
  have hb := X.2.1
  have hwA := X.2.2.2.2
  obtain ⟨k, q1, Z1, f1, bv, Z1', O1, m1, hd1, hsub, m2, hsim1, hcmp⟩ := st_get l hlt D ca a q cm am sa o co Z f z Z' O (xs (i + 1)) (xs (i + 2)) hsim
  have hcs := hA_cs (f := f) (f1 := f1) (o := o) (co := co) hsub
  refine lv_aload_n hx hb d_law_191 rfl (lv_at hl 2 rfl) ?_
  refine lv_aload_n hx hb d_law_192 rfl (lv_at hl 1 rfl) ?_
  refine lv_iload hx hb d_law_193 (lv_at hl 0 rfl) ?_
  refine lv_iconst (v := 1) hx hb d_law_195 (by decide) ?_
  refine lv_iadd hx hb d_law_196 ?_
  refine lv_tope (y := nI (i + 1)) (nI_add (i) (1)) ?_
  refine va_sld hx hb hX hbl hbA hS (i := nI (i + 1)) (vp_in_nI (by omega) (by omega)) d_law_197 ?_
  rw [nI_clamp (show i + 1 < 2 ^ 31 by omega)]
  refine lv_aload_n hx hb d_law_198 rfl (lv_at hl 1 rfl) ?_
  refine lv_iload hx hb d_law_199 (lv_at hl 0 rfl) ?_
  refine lv_iconst (v := 2) hx hb d_law_201 (by decide) ?_
  refine lv_iadd hx hb d_law_202 ?_
  refine lv_tope (y := nI (i + 2)) (nI_add (i) (2)) ?_
  refine va_sld hx hb hX hbl hbA hS (i := nI (i + 2)) (vp_in_nI (by omega) (by omega)) d_law_203 ?_
  rw [nI_clamp (show i + 2 < 2 ^ 31 by omega)]
  refine lv_aload_n hx hb d_law_204 rfl (lv_at hl 4 rfl) ?_
  refine hw_callN (vx_runSW (As := [.ref (a 0), .int (xs (i + 1)), .int (xs (i + 2)), .ref o]) (rest := []) X m1 (vx_cwSW 4 hwA g_Law_get rfl rfl rfl (by decide +kernel) ⟨Nat.le_of_ble_eq_true rfl, Nat.le_of_ble_eq_true rfl⟩) (lb_pre hP hK hD hS hF hZ hN) rfl rfl hl.1 rfl (lv_room (Nat.le_of_ble_eq_true rfl)) d_law_205 hf) hS (hA_sub hD) (fun H locs hP1 hfr hS => ?_)
  have hPm := P_far hPm hfr (fun x h1 h2 => hdis x h2 h1)
  have hD1 : va_D A (oc o co f1 :: wHZ ca a q1 Z1) := D_cons (show A o from hD.2 0 (oc o co f) rfl) (hd1 A (D_tl hD)) (fun z9 => D_hd hD (hsub _ z9))
  refine lv_istore (lv' := [(5, .int k), (4, .int (nI i)), (0, .ref b), (1, .ref (a 0)), (2, .ref (am 0)), (3, .ref o)]) hx hb d_law_208 hl (by decide) rfl (fun ls hl => ?_)
  refine lv_aload_n hx hb d_law_210 rfl (lv_at hl 4 rfl) ?_
  refine lv_aload_n hx hb d_law_211 rfl (lv_at hl 2 rfl) ?_
  refine lv_iload hx hb d_law_212 (lv_at hl 1 rfl) ?_
  refine lv_iconst (v := 1) hx hb d_law_214 (by decide) ?_
  refine lv_iadd hx hb d_law_215 ?_
  refine lv_tope (y := nI (i + 1)) (nI_add (i) (1)) ?_
  refine va_sld hx hb hX hbl hbA hS (i := nI (i + 1)) (vp_in_nI (by omega) (by omega)) d_law_216 ?_
  rw [nI_clamp (show i + 1 < 2 ^ 31 by omega)]
  refine lv_aload_n hx hb d_law_217 rfl (lv_at hl 2 rfl) ?_
  refine lv_iload hx hb d_law_218 (lv_at hl 1 rfl) ?_
  refine lv_iconst (v := 2) hx hb d_law_220 (by decide) ?_
  refine lv_iadd hx hb d_law_221 ?_
  refine lv_tope (y := nI (i + 2)) (nI_add (i) (2)) ?_
  refine va_sld hx hb hX hbl hbA hS (i := nI (i + 2)) (vp_in_nI (by omega) (by omega)) d_law_222 ?_
  rw [nI_clamp (show i + 2 < 2 ^ 31 by omega)]
  refine hw_callN (va_runV (As := [.int (xs (i + 1)), .int (xs (i + 2))]) (rest := []) X m2 (cwV 2 hwA g_Law_Mod_get rfl rfl rfl (by decide +kernel) ⟨Nat.le_of_ble_eq_true rfl, Nat.le_of_ble_eq_true rfl⟩) (hb_preW hPm hKm hDm (va_recv (q0 := 0) (ci := 2) (q := (R_Mod, F_Mod, 14)) hKm hPm rfl rfl)) rfl rfl hl.1 rfl (lv_room (Nat.le_of_ble_eq_true rfl)) d_law_223 hf) hS (hA_sub hDm) (fun H locs hPm1 hfr hS => ?_)
  have hP1 := P_far hP1 hfr (fun x h1 h2 => hdis x (hcs x h1) h2)
  have hDm1 : va_D A (wMZ cm am k Z1' O1) := va_Das hDm wM_a
  refine lv_istore (lv' := [(6, .int bv), (5, .int k), (4, .int (nI i)), (0, .ref b), (1, .ref (a 0)), (2, .ref (am 0)), (3, .ref o)]) hx hb d_law_226 hl (by decide) rfl (fun ls hl => ?_)
  refine lv_aload_n hx hb d_law_228 rfl (lv_at hl 5 rfl) ?_
  refine hr_V (As := []) (v := some (.int k)) (C := R_Mod) X (c_Mod_thrown l D cm am k Z1'.2.2.1 Z1'.1 Z1'.2.1 Z1'.2.2.2.2.2.1 Z1'.2.2.2.2.1 Z1'.2.2.2.2.2.2 Z1'.2.2.2.1 O1.1 O1.2.1 O1.2.2.1 O1.2.2.2.1 O1.2.2.2.2.1 O1.2.2.2.2.2) (cwV 0 hwA g_Law_Mod_thrown rfl rfl rfl (by decide +kernel) ⟨Nat.le_of_ble_eq_true rfl, Nat.le_of_ble_eq_true rfl⟩) hPm1 hKm (va_recv (q0 := 0) (ci := 2) (q := (R_Mod, F_Mod, 14)) hKm hPm1 rfl rfl) rfl hl.1 rfl (Nat.le_of_ble_eq_true rfl) hf d_law_229 ?_
  refine lv_iload hx hb d_law_232 (lv_at hl 1 rfl) ?_
  refine lvT_icmp_eq (tgt := 239) hx hb d_law_234 (by decide) (rfl) ?_
  refine lv_iload hx hb d_law_239 (lv_at hl 1 rfl) ?_
  refine lv_if_ne (tgt := 256) hx hb d_law_241 (by decide) (fun h1 => ?_) (fun h1 => ?_)
  · refine lv_goto (tgt := 978) hx hb d_law_256 (by decide) ?_
    exact kk ls H locs q1 Z1 f1 k Z1' O1 ⟨hP1, hPm1, hD1, hDm1, fun x h1 h2 => hdis x (hcs x h1) (hA_as wM_a x h2), hS, hsim1⟩ (lv_sub hl [2, 3, 4, 5, 6] rfl)
  · refine lv_aload_n hx hb d_law_244 rfl (lv_at hl 6 rfl) ?_
    refine lv_iconst (v := 0) hx hb d_law_245 (by decide) ?_
    refine va_lald hx hb hK hP1 0 0 rfl rfl (vp_in_nI (n := 0) (by decide) (by decide)) d_law_246 ?_
    refine lv_topv (v' := .long (Int32.toInt64 bv)) (congrArg Value.long (hcmp h1)) ?_
    refine lv_iload hx hb d_law_247 (lv_at hl 0 rfl) ?_
    refine lv_i2l hx hb d_law_249 rfl ?_
    refine lv_lcmpE hx hb d_law_250 ?_
    refine lvT_if_eq (tgt := 256) hx hb d_law_251 (by decide) (rfl) ?_
    refine lv_goto (tgt := 978) hx hb d_law_256 (by decide) ?_
    exact kk ls H locs q1 Z1 f1 k Z1' O1 ⟨hP1, hPm1, hD1, hDm1, fun x h1 h2 => hdis x (hcs x h1) (hA_as wM_a x h2), hS, hsim1⟩ (lv_sub hl [2, 3, 4, 5, 6] rfl)
set_option maxHeartbeats 4000000 in
set_option maxRecDepth 100000 in
theorem lw_remove {i : Nat} {ls : Array Slot} {H : Heap} {locs : List Loc} {cells slots : Nat} {q : Nat → Nat} {Z : HS} {f : Nat → Int64} {z : Int32} {Z' : HS} {O : OS} (X : CallFix p m c code 7 s #[Value.ref b] wsA R_Law) (hC : LK l D ca cm sa co A s b L xs) (hi : i + 4 ≤ L) (hL : L ≤ 2048) (hI : LI D ca a cm am o co A s H locs q Z f z Z' O) (hf : cells + 2 ≤ room_1.cells ∧ slots + 12 ≤ room_1.slots) (hl : lv_has ls 7 [(4, .int (nI i)), (0, .ref b), (1, .ref (a 0)), (2, .ref (am 0)), (3, .ref o)])
    (kk : ∀ (ls : Array Slot) (H : Heap) (locs : List Loc) (q : Nat → Nat) (Z : HS) (f : Nat → Int64) (z : Int32) (Z' : HS) (O : OS), LI D ca a cm am o co A s H locs q Z f z Z' O → lv_has ls 7 [(4, .int (nI i)), (0, .ref b), (1, .ref (a 0)), (2, .ref (am 0)), (3, .ref o)] → W p l e room_1 s m #[Value.ref b] below meth c H locs (cells + 2) (slots + 12) Q (F0 m 978 ls [])) : W p l e room_1 s m #[Value.ref b] below meth c H locs cells slots Q (F0 m 259 ls []) := by
  obtain ⟨hlt, hK, hKm, hF, hZ, hN, hX, hbl, hbA⟩ := hC
  obtain ⟨hP, hPm, hD, hDm, hdis, hS, hsim⟩ := hI
  have hx := X.1
  have hb := X.2.1
  have hwA := X.2.2.2.2
  obtain ⟨k, q1, Z1, f1, bv, Z1', O1, m1, hd1, hsub, m2, hsim1, hcmp⟩ := st_remove l hlt D ca a q cm am sa o co Z f z Z' O (xs (i + 1)) (xs (i + 2)) hsim
  have hcs := hA_cs (f := f) (f1 := f1) (o := o) (co := co) hsub
  refine lv_aload_n hx hb d_law_259 rfl (lv_at hl 2 rfl) ?_
  refine lv_aload_n hx hb d_law_260 rfl (lv_at hl 1 rfl) ?_
  refine lv_iload hx hb d_law_261 (lv_at hl 0 rfl) ?_
  refine lv_iconst (v := 1) hx hb d_law_263 (by decide) ?_
  refine lv_iadd hx hb d_law_264 ?_
  refine lv_tope (y := nI (i + 1)) (nI_add (i) (1)) ?_
  refine va_sld hx hb hX hbl hbA hS (i := nI (i + 1)) (vp_in_nI (by omega) (by omega)) d_law_265 ?_
  rw [nI_clamp (show i + 1 < 2 ^ 31 by omega)]
  refine lv_aload_n hx hb d_law_266 rfl (lv_at hl 1 rfl) ?_
  refine lv_iload hx hb d_law_267 (lv_at hl 0 rfl) ?_
  refine lv_iconst (v := 2) hx hb d_law_269 (by decide) ?_
  refine lv_iadd hx hb d_law_270 ?_
  refine lv_tope (y := nI (i + 2)) (nI_add (i) (2)) ?_
  refine va_sld hx hb hX hbl hbA hS (i := nI (i + 2)) (vp_in_nI (by omega) (by omega)) d_law_271 ?_
  rw [nI_clamp (show i + 2 < 2 ^ 31 by omega)]
  refine lv_aload_n hx hb d_law_272 rfl (lv_at hl 4 rfl) ?_
  refine hw_callN (vx_runSW (As := [.ref (a 0), .int (xs (i + 1)), .int (xs (i + 2)), .ref o]) (rest := []) X m1 (vx_cwSW 4 hwA g_Law_remove rfl rfl rfl (by decide +kernel) ⟨Nat.le_of_ble_eq_true rfl, Nat.le_of_ble_eq_true rfl⟩) (lb_pre hP hK hD hS hF hZ hN) rfl rfl hl.1 rfl (lv_room (Nat.le_of_ble_eq_true rfl)) d_law_273 hf) hS (hA_sub hD) (fun H locs hP1 hfr hS => ?_)
  have hPm := P_far hPm hfr (fun x h1 h2 => hdis x h2 h1)
  have hD1 : va_D A (oc o co f1 :: wHZ ca a q1 Z1) := D_cons (show A o from hD.2 0 (oc o co f) rfl) (hd1 A (D_tl hD)) (fun z9 => D_hd hD (hsub _ z9))
  refine lv_istore (lv' := [(5, .int k), (4, .int (nI i)), (0, .ref b), (1, .ref (a 0)), (2, .ref (am 0)), (3, .ref o)]) hx hb d_law_276 hl (by decide) rfl (fun ls hl => ?_)
  refine lv_aload_n hx hb d_law_278 rfl (lv_at hl 4 rfl) ?_
  refine lv_aload_n hx hb d_law_279 rfl (lv_at hl 2 rfl) ?_
  refine lv_iload hx hb d_law_280 (lv_at hl 1 rfl) ?_
  refine lv_iconst (v := 1) hx hb d_law_282 (by decide) ?_
  refine lv_iadd hx hb d_law_283 ?_
  refine lv_tope (y := nI (i + 1)) (nI_add (i) (1)) ?_
  refine va_sld hx hb hX hbl hbA hS (i := nI (i + 1)) (vp_in_nI (by omega) (by omega)) d_law_284 ?_
  rw [nI_clamp (show i + 1 < 2 ^ 31 by omega)]
  refine lv_aload_n hx hb d_law_285 rfl (lv_at hl 2 rfl) ?_
  refine lv_iload hx hb d_law_286 (lv_at hl 1 rfl) ?_
  refine lv_iconst (v := 2) hx hb d_law_288 (by decide) ?_
  refine lv_iadd hx hb d_law_289 ?_
  refine lv_tope (y := nI (i + 2)) (nI_add (i) (2)) ?_
  refine va_sld hx hb hX hbl hbA hS (i := nI (i + 2)) (vp_in_nI (by omega) (by omega)) d_law_290 ?_
  rw [nI_clamp (show i + 2 < 2 ^ 31 by omega)]
  refine hw_callN (va_runV (As := [.int (xs (i + 1)), .int (xs (i + 2))]) (rest := []) X m2 (cwV 2 hwA g_Law_Mod_remove rfl rfl rfl (by decide +kernel) ⟨Nat.le_of_ble_eq_true rfl, Nat.le_of_ble_eq_true rfl⟩) (hb_preW hPm hKm hDm (va_recv (q0 := 0) (ci := 2) (q := (R_Mod, F_Mod, 14)) hKm hPm rfl rfl)) rfl rfl hl.1 rfl (lv_room (Nat.le_of_ble_eq_true rfl)) d_law_291 hf) hS (hA_sub hDm) (fun H locs hPm1 hfr hS => ?_)
  have hP1 := P_far hP1 hfr (fun x h1 h2 => hdis x (hcs x h1) h2)
  have hDm1 : va_D A (wMZ cm am k Z1' O1) := va_Das hDm wM_a
  refine lv_istore (lv' := [(6, .int bv), (5, .int k), (4, .int (nI i)), (0, .ref b), (1, .ref (a 0)), (2, .ref (am 0)), (3, .ref o)]) hx hb d_law_294 hl (by decide) rfl (fun ls hl => ?_)
  refine lv_aload_n hx hb d_law_296 rfl (lv_at hl 5 rfl) ?_
  refine hr_V (As := []) (v := some (.int k)) (C := R_Mod) X (c_Mod_thrown l D cm am k Z1'.2.2.1 Z1'.1 Z1'.2.1 Z1'.2.2.2.2.2.1 Z1'.2.2.2.2.1 Z1'.2.2.2.2.2.2 Z1'.2.2.2.1 O1.1 O1.2.1 O1.2.2.1 O1.2.2.2.1 O1.2.2.2.2.1 O1.2.2.2.2.2) (cwV 0 hwA g_Law_Mod_thrown rfl rfl rfl (by decide +kernel) ⟨Nat.le_of_ble_eq_true rfl, Nat.le_of_ble_eq_true rfl⟩) hPm1 hKm (va_recv (q0 := 0) (ci := 2) (q := (R_Mod, F_Mod, 14)) hKm hPm1 rfl rfl) rfl hl.1 rfl (Nat.le_of_ble_eq_true rfl) hf d_law_297 ?_
  refine lv_iload hx hb d_law_300 (lv_at hl 1 rfl) ?_
  refine lvT_icmp_eq (tgt := 307) hx hb d_law_302 (by decide) (rfl) ?_
  refine lv_iload hx hb d_law_307 (lv_at hl 1 rfl) ?_
  refine lv_if_ne (tgt := 324) hx hb d_law_309 (by decide) (fun h1 => ?_) (fun h1 => ?_)
  · refine lv_goto (tgt := 978) hx hb d_law_324 (by decide) ?_
    exact kk ls H locs q1 Z1 f1 k Z1' O1 ⟨hP1, hPm1, hD1, hDm1, fun x h1 h2 => hdis x (hcs x h1) (hA_as wM_a x h2), hS, hsim1⟩ (lv_sub hl [2, 3, 4, 5, 6] rfl)
  · refine lv_aload_n hx hb d_law_312 rfl (lv_at hl 6 rfl) ?_
    refine lv_iconst (v := 0) hx hb d_law_313 (by decide) ?_
    refine va_lald hx hb hK hP1 0 0 rfl rfl (vp_in_nI (n := 0) (by decide) (by decide)) d_law_314 ?_
    refine lv_topv (v' := .long (Int32.toInt64 bv)) (congrArg Value.long (hcmp h1)) ?_
    refine lv_iload hx hb d_law_315 (lv_at hl 0 rfl) ?_
    refine lv_i2l hx hb d_law_317 rfl ?_
    refine lv_lcmpE hx hb d_law_318 ?_
    refine lvT_if_eq (tgt := 324) hx hb d_law_319 (by decide) (rfl) ?_
    refine lv_goto (tgt := 978) hx hb d_law_324 (by decide) ?_
    exact kk ls H locs q1 Z1 f1 k Z1' O1 ⟨hP1, hPm1, hD1, hDm1, fun x h1 h2 => hdis x (hcs x h1) (hA_as wM_a x h2), hS, hsim1⟩ (lv_sub hl [2, 3, 4, 5, 6] rfl)
set_option maxHeartbeats 4000000 in
set_option maxRecDepth 100000 in
theorem lw_has {i : Nat} {ls : Array Slot} {H : Heap} {locs : List Loc} {cells slots : Nat} {q : Nat → Nat} {Z : HS} {f : Nat → Int64} {z : Int32} {Z' : HS} {O : OS} (X : CallFix p m c code 7 s #[Value.ref b] wsA R_Law) (hC : LK l D ca cm sa co A s b L xs) (hi : i + 4 ≤ L) (hL : L ≤ 2048) (hI : LI D ca a cm am o co A s H locs q Z f z Z' O) (hf : cells + 1 ≤ room_1.cells ∧ slots + 6 ≤ room_1.slots) (hl : lv_has ls 7 [(4, .int (nI i)), (0, .ref b), (1, .ref (a 0)), (2, .ref (am 0)), (3, .ref o)])
    (kk : ∀ (ls : Array Slot) (H : Heap) (locs : List Loc) (q : Nat → Nat) (Z : HS) (f : Nat → Int64) (z : Int32) (Z' : HS) (O : OS), LI D ca a cm am o co A s H locs q Z f z Z' O → lv_has ls 7 [(4, .int (nI i)), (0, .ref b), (1, .ref (a 0)), (2, .ref (am 0)), (3, .ref o)] → W p l e room_1 s m #[Value.ref b] below meth c H locs (cells + 1) (slots + 6) Q (F0 m 978 ls [])) : W p l e room_1 s m #[Value.ref b] below meth c H locs cells slots Q (F0 m 327 ls []) := by
  obtain ⟨hlt, hK, hKm, hF, hZ, hN, hX, hbl, hbA⟩ := hC
  obtain ⟨hP, hPm, hD, hDm, hdis, hS, hsim⟩ := hI
  have hx := X.1
  have hb := X.2.1
  have hwA := X.2.2.2.2
  obtain ⟨k, q1, Z1, f1, bv, Z1', O1, m1, hd1, hsub, m2, hsim1, hcmp⟩ := st_has l hlt D ca a q cm am sa o co Z f z Z' O (xs (i + 1)) (xs (i + 2)) hsim
  have hcs := hA_cs (f := f) (f1 := f1) (o := o) (co := co) hsub
  refine lv_aload_n hx hb d_law_327 rfl (lv_at hl 2 rfl) ?_
  refine lv_aload_n hx hb d_law_328 rfl (lv_at hl 1 rfl) ?_
  refine lv_iload hx hb d_law_329 (lv_at hl 0 rfl) ?_
  refine lv_iconst (v := 1) hx hb d_law_331 (by decide) ?_
  refine lv_iadd hx hb d_law_332 ?_
  refine lv_tope (y := nI (i + 1)) (nI_add (i) (1)) ?_
  refine va_sld hx hb hX hbl hbA hS (i := nI (i + 1)) (vp_in_nI (by omega) (by omega)) d_law_333 ?_
  rw [nI_clamp (show i + 1 < 2 ^ 31 by omega)]
  refine lv_aload_n hx hb d_law_334 rfl (lv_at hl 1 rfl) ?_
  refine lv_iload hx hb d_law_335 (lv_at hl 0 rfl) ?_
  refine lv_iconst (v := 2) hx hb d_law_337 (by decide) ?_
  refine lv_iadd hx hb d_law_338 ?_
  refine lv_tope (y := nI (i + 2)) (nI_add (i) (2)) ?_
  refine va_sld hx hb hX hbl hbA hS (i := nI (i + 2)) (vp_in_nI (by omega) (by omega)) d_law_339 ?_
  rw [nI_clamp (show i + 2 < 2 ^ 31 by omega)]
  refine lv_aload_n hx hb d_law_340 rfl (lv_at hl 4 rfl) ?_
  refine hw_callN (vx_runSW (As := [.ref (a 0), .int (xs (i + 1)), .int (xs (i + 2)), .ref o]) (rest := []) X m1 (vx_cwSW 4 hwA g_Law_has rfl rfl rfl (by decide +kernel) ⟨Nat.le_of_ble_eq_true rfl, Nat.le_of_ble_eq_true rfl⟩) (lb_pre hP hK hD hS hF hZ hN) rfl rfl hl.1 rfl (lv_room (Nat.le_of_ble_eq_true rfl)) d_law_341 hf) hS (hA_sub hD) (fun H locs hP1 hfr hS => ?_)
  have hPm := P_far hPm hfr (fun x h1 h2 => hdis x h2 h1)
  have hD1 : va_D A (oc o co f1 :: wHZ ca a q1 Z1) := D_cons (show A o from hD.2 0 (oc o co f) rfl) (hd1 A (D_tl hD)) (fun z9 => D_hd hD (hsub _ z9))
  refine lv_istore (lv' := [(5, .int k), (4, .int (nI i)), (0, .ref b), (1, .ref (a 0)), (2, .ref (am 0)), (3, .ref o)]) hx hb d_law_344 hl (by decide) rfl (fun ls hl => ?_)
  refine lv_aload_n hx hb d_law_346 rfl (lv_at hl 4 rfl) ?_
  refine lv_aload_n hx hb d_law_347 rfl (lv_at hl 2 rfl) ?_
  refine lv_iload hx hb d_law_348 (lv_at hl 1 rfl) ?_
  refine lv_iconst (v := 1) hx hb d_law_350 (by decide) ?_
  refine lv_iadd hx hb d_law_351 ?_
  refine lv_tope (y := nI (i + 1)) (nI_add (i) (1)) ?_
  refine va_sld hx hb hX hbl hbA hS (i := nI (i + 1)) (vp_in_nI (by omega) (by omega)) d_law_352 ?_
  rw [nI_clamp (show i + 1 < 2 ^ 31 by omega)]
  refine lv_aload_n hx hb d_law_353 rfl (lv_at hl 2 rfl) ?_
  refine lv_iload hx hb d_law_354 (lv_at hl 1 rfl) ?_
  refine lv_iconst (v := 2) hx hb d_law_356 (by decide) ?_
  refine lv_iadd hx hb d_law_357 ?_
  refine lv_tope (y := nI (i + 2)) (nI_add (i) (2)) ?_
  refine va_sld hx hb hX hbl hbA hS (i := nI (i + 2)) (vp_in_nI (by omega) (by omega)) d_law_358 ?_
  rw [nI_clamp (show i + 2 < 2 ^ 31 by omega)]
  refine hw_callN (va_runV (As := [.int (xs (i + 1)), .int (xs (i + 2))]) (rest := []) X m2 (cwV 2 hwA g_Law_Mod_has rfl rfl rfl (by decide +kernel) ⟨Nat.le_of_ble_eq_true rfl, Nat.le_of_ble_eq_true rfl⟩) (hb_preW hPm hKm hDm (va_recv (q0 := 0) (ci := 2) (q := (R_Mod, F_Mod, 14)) hKm hPm rfl rfl)) rfl rfl hl.1 rfl (lv_room (Nat.le_of_ble_eq_true rfl)) d_law_359 hf) hS (hA_sub hDm) (fun H locs hPm1 hfr hS => ?_)
  have hP1 := P_far hP1 hfr (fun x h1 h2 => hdis x (hcs x h1) h2)
  have hDm1 : va_D A (wMZ cm am k Z1' O1) := va_Das hDm wM_a
  refine lv_istore (lv' := [(6, .int bv), (5, .int k), (4, .int (nI i)), (0, .ref b), (1, .ref (a 0)), (2, .ref (am 0)), (3, .ref o)]) hx hb d_law_362 hl (by decide) rfl (fun ls hl => ?_)
  refine lv_aload_n hx hb d_law_364 rfl (lv_at hl 5 rfl) ?_
  refine hr_V (As := []) (v := some (.int k)) (C := R_Mod) X (c_Mod_thrown l D cm am k Z1'.2.2.1 Z1'.1 Z1'.2.1 Z1'.2.2.2.2.2.1 Z1'.2.2.2.2.1 Z1'.2.2.2.2.2.2 Z1'.2.2.2.1 O1.1 O1.2.1 O1.2.2.1 O1.2.2.2.1 O1.2.2.2.2.1 O1.2.2.2.2.2) (cwV 0 hwA g_Law_Mod_thrown rfl rfl rfl (by decide +kernel) ⟨Nat.le_of_ble_eq_true rfl, Nat.le_of_ble_eq_true rfl⟩) hPm1 hKm (va_recv (q0 := 0) (ci := 2) (q := (R_Mod, F_Mod, 14)) hKm hPm1 rfl rfl) rfl hl.1 rfl (Nat.le_of_ble_eq_true rfl) hf d_law_365 ?_
  refine lv_iload hx hb d_law_368 (lv_at hl 1 rfl) ?_
  refine lvT_icmp_eq (tgt := 375) hx hb d_law_370 (by decide) (rfl) ?_
  refine lv_iload hx hb d_law_375 (lv_at hl 1 rfl) ?_
  refine lv_if_ne (tgt := 399) hx hb d_law_377 (by decide) (fun h1 => ?_) (fun h1 => ?_)
  · refine lv_goto (tgt := 978) hx hb d_law_399 (by decide) ?_
    exact kk ls H locs q1 Z1 f1 k Z1' O1 ⟨hP1, hPm1, hD1, hDm1, fun x h1 h2 => hdis x (hcs x h1) (hA_as wM_a x h2), hS, hsim1⟩ (lv_sub hl [2, 3, 4, 5, 6] rfl)
  · by_cases hb0 : bv = 0
    · refine lv_aload_n hx hb d_law_380 rfl (lv_at hl 6 rfl) ?_
      refine lv_iconst (v := 0) hx hb d_law_381 (by decide) ?_
      refine va_lald hx hb hK hP1 0 0 rfl rfl (vp_in_nI (n := 0) (by decide) (by decide)) d_law_382 ?_
      refine lv_topv (v' := .long (0)) (congrArg Value.long ((hcmp h1).trans (if_pos hb0))) ?_
      refine lv_iload hx hb d_law_383 (lv_at hl 0 rfl) ?_
      refine lvT_if_eq (tgt := 392) hx hb d_law_385 (by decide) (hb0) ?_
      refine lv_lconst (v := 0) hx hb d_law_392 rfl ?_
      refine lv_lcmpE hx hb d_law_393 ?_
      refine lvT_if_eq (tgt := 399) hx hb d_law_394 (by decide) (rfl) ?_
      refine lv_goto (tgt := 978) hx hb d_law_399 (by decide) ?_
      exact kk ls H locs q1 Z1 f1 k Z1' O1 ⟨hP1, hPm1, hD1, hDm1, fun x h1 h2 => hdis x (hcs x h1) (hA_as wM_a x h2), hS, hsim1⟩ (lv_sub hl [2, 3, 4, 5, 6] rfl)
    · refine lv_aload_n hx hb d_law_380 rfl (lv_at hl 6 rfl) ?_
      refine lv_iconst (v := 0) hx hb d_law_381 (by decide) ?_
      refine va_lald hx hb hK hP1 0 0 rfl rfl (vp_in_nI (n := 0) (by decide) (by decide)) d_law_382 ?_
      refine lv_topv (v' := .long (1)) (congrArg Value.long ((hcmp h1).trans (if_neg hb0))) ?_
      refine lv_iload hx hb d_law_383 (lv_at hl 0 rfl) ?_
      refine lvF_if_eq (tgt := 392) hx hb d_law_385 (by decide) (hb0) ?_
      refine lv_lconst (v := 1) hx hb d_law_388 rfl ?_
      refine lv_goto (tgt := 393) hx hb d_law_389 (by decide) ?_
      refine lv_lcmpE hx hb d_law_393 ?_
      refine lvT_if_eq (tgt := 399) hx hb d_law_394 (by decide) (rfl) ?_
      refine lv_goto (tgt := 978) hx hb d_law_399 (by decide) ?_
      exact kk ls H locs q1 Z1 f1 k Z1' O1 ⟨hP1, hPm1, hD1, hDm1, fun x h1 h2 => hdis x (hcs x h1) (hA_as wM_a x h2), hS, hsim1⟩ (lv_sub hl [2, 3, 4, 5, 6] rfl)
set_option maxHeartbeats 4000000 in
set_option maxRecDepth 100000 in
theorem lw_size {i : Nat} {ls : Array Slot} {H : Heap} {locs : List Loc} {cells slots : Nat} {q : Nat → Nat} {Z : HS} {f : Nat → Int64} {z : Int32} {Z' : HS} {O : OS} (X : CallFix p m c code 7 s #[Value.ref b] wsA R_Law) (hC : LK l D ca cm sa co A s b L xs) (hi : i + 4 ≤ L) (hL : L ≤ 2048) (hI : LI D ca a cm am o co A s H locs q Z f z Z' O) (hf : cells + 1 ≤ room_1.cells ∧ slots + 6 ≤ room_1.slots) (hl : lv_has ls 7 [(4, .int (nI i)), (0, .ref b), (1, .ref (a 0)), (2, .ref (am 0)), (3, .ref o)])
    (kk : ∀ (ls : Array Slot) (H : Heap) (locs : List Loc) (q : Nat → Nat) (Z : HS) (f : Nat → Int64) (z : Int32) (Z' : HS) (O : OS), LI D ca a cm am o co A s H locs q Z f z Z' O → lv_has ls 7 [(4, .int (nI i)), (0, .ref b), (1, .ref (a 0)), (2, .ref (am 0)), (3, .ref o)] → W p l e room_1 s m #[Value.ref b] below meth c H locs (cells + 1) (slots + 6) Q (F0 m 978 ls [])) : W p l e room_1 s m #[Value.ref b] below meth c H locs cells slots Q (F0 m 402 ls []) := by
  obtain ⟨hlt, hK, hKm, hF, hZ, hN, hX, hbl, hbA⟩ := hC
  obtain ⟨hP, hPm, hD, hDm, hdis, hS, hsim⟩ := hI
  have hx := X.1
  have hb := X.2.1
  have hwA := X.2.2.2.2
  obtain ⟨k, q1, Z1, f1, bv, Z1', O1, m1, hd1, hsub, m2, hsim1, hcmp⟩ := st_size l hlt D ca a q cm am sa o co Z f z Z' O (xs (i + 1)) hsim
  have hcs := hA_cs (f := f) (f1 := f1) (o := o) (co := co) hsub
  refine lv_aload_n hx hb d_law_402 rfl (lv_at hl 2 rfl) ?_
  refine lv_aload_n hx hb d_law_403 rfl (lv_at hl 1 rfl) ?_
  refine lv_iload hx hb d_law_404 (lv_at hl 0 rfl) ?_
  refine lv_iconst (v := 1) hx hb d_law_406 (by decide) ?_
  refine lv_iadd hx hb d_law_407 ?_
  refine lv_tope (y := nI (i + 1)) (nI_add (i) (1)) ?_
  refine va_sld hx hb hX hbl hbA hS (i := nI (i + 1)) (vp_in_nI (by omega) (by omega)) d_law_408 ?_
  rw [nI_clamp (show i + 1 < 2 ^ 31 by omega)]
  refine lv_aload_n hx hb d_law_409 rfl (lv_at hl 4 rfl) ?_
  refine hw_callN (vx_runSW (As := [.ref (a 0), .int (xs (i + 1)), .ref o]) (rest := []) X m1 (vx_cwSW 3 hwA g_Law_size rfl rfl rfl (by decide +kernel) ⟨Nat.le_of_ble_eq_true rfl, Nat.le_of_ble_eq_true rfl⟩) (lb_pre hP hK hD hS hF hZ hN) rfl rfl hl.1 rfl (lv_room (Nat.le_of_ble_eq_true rfl)) d_law_410 hf) hS (hA_sub hD) (fun H locs hP1 hfr hS => ?_)
  have hPm := P_far hPm hfr (fun x h1 h2 => hdis x h2 h1)
  have hD1 : va_D A (oc o co f1 :: wHZ ca a q1 Z1) := D_cons (show A o from hD.2 0 (oc o co f) rfl) (hd1 A (D_tl hD)) (fun z9 => D_hd hD (hsub _ z9))
  refine lv_istore (lv' := [(5, .int k), (4, .int (nI i)), (0, .ref b), (1, .ref (a 0)), (2, .ref (am 0)), (3, .ref o)]) hx hb d_law_413 hl (by decide) rfl (fun ls hl => ?_)
  refine lv_aload_n hx hb d_law_415 rfl (lv_at hl 4 rfl) ?_
  refine lv_aload_n hx hb d_law_416 rfl (lv_at hl 2 rfl) ?_
  refine lv_iload hx hb d_law_417 (lv_at hl 1 rfl) ?_
  refine lv_iconst (v := 1) hx hb d_law_419 (by decide) ?_
  refine lv_iadd hx hb d_law_420 ?_
  refine lv_tope (y := nI (i + 1)) (nI_add (i) (1)) ?_
  refine va_sld hx hb hX hbl hbA hS (i := nI (i + 1)) (vp_in_nI (by omega) (by omega)) d_law_421 ?_
  rw [nI_clamp (show i + 1 < 2 ^ 31 by omega)]
  refine hw_callN (va_runV (As := [.int (xs (i + 1))]) (rest := []) X m2 (cwV 1 hwA g_Law_Mod_size rfl rfl rfl (by decide +kernel) ⟨Nat.le_of_ble_eq_true rfl, Nat.le_of_ble_eq_true rfl⟩) (hb_preW hPm hKm hDm (va_recv (q0 := 0) (ci := 2) (q := (R_Mod, F_Mod, 14)) hKm hPm rfl rfl)) rfl rfl hl.1 rfl (lv_room (Nat.le_of_ble_eq_true rfl)) d_law_422 hf) hS (hA_sub hDm) (fun H locs hPm1 hfr hS => ?_)
  have hP1 := P_far hP1 hfr (fun x h1 h2 => hdis x (hcs x h1) h2)
  have hDm1 : va_D A (wMZ cm am k Z1' O1) := va_Das hDm wM_a
  refine lv_istore (lv' := [(6, .int bv), (5, .int k), (4, .int (nI i)), (0, .ref b), (1, .ref (a 0)), (2, .ref (am 0)), (3, .ref o)]) hx hb d_law_425 hl (by decide) rfl (fun ls hl => ?_)
  refine lv_aload_n hx hb d_law_427 rfl (lv_at hl 5 rfl) ?_
  refine hr_V (As := []) (v := some (.int k)) (C := R_Mod) X (c_Mod_thrown l D cm am k Z1'.2.2.1 Z1'.1 Z1'.2.1 Z1'.2.2.2.2.2.1 Z1'.2.2.2.2.1 Z1'.2.2.2.2.2.2 Z1'.2.2.2.1 O1.1 O1.2.1 O1.2.2.1 O1.2.2.2.1 O1.2.2.2.2.1 O1.2.2.2.2.2) (cwV 0 hwA g_Law_Mod_thrown rfl rfl rfl (by decide +kernel) ⟨Nat.le_of_ble_eq_true rfl, Nat.le_of_ble_eq_true rfl⟩) hPm1 hKm (va_recv (q0 := 0) (ci := 2) (q := (R_Mod, F_Mod, 14)) hKm hPm1 rfl rfl) rfl hl.1 rfl (Nat.le_of_ble_eq_true rfl) hf d_law_428 ?_
  refine lv_iload hx hb d_law_431 (lv_at hl 1 rfl) ?_
  refine lvT_icmp_eq (tgt := 438) hx hb d_law_433 (by decide) (rfl) ?_
  refine lv_iload hx hb d_law_438 (lv_at hl 1 rfl) ?_
  refine lv_if_ne (tgt := 455) hx hb d_law_440 (by decide) (fun h1 => ?_) (fun h1 => ?_)
  · refine lv_goto (tgt := 978) hx hb d_law_455 (by decide) ?_
    exact kk ls H locs q1 Z1 f1 k Z1' O1 ⟨hP1, hPm1, hD1, hDm1, fun x h1 h2 => hdis x (hcs x h1) (hA_as wM_a x h2), hS, hsim1⟩ (lv_sub hl [2, 3, 4, 5, 6] rfl)
  · refine lv_aload_n hx hb d_law_443 rfl (lv_at hl 6 rfl) ?_
    refine lv_iconst (v := 0) hx hb d_law_444 (by decide) ?_
    refine va_lald hx hb hK hP1 0 0 rfl rfl (vp_in_nI (n := 0) (by decide) (by decide)) d_law_445 ?_
    refine lv_topv (v' := .long (Int32.toInt64 bv)) (congrArg Value.long (hcmp h1)) ?_
    refine lv_iload hx hb d_law_446 (lv_at hl 0 rfl) ?_
    refine lv_i2l hx hb d_law_448 rfl ?_
    refine lv_lcmpE hx hb d_law_449 ?_
    refine lvT_if_eq (tgt := 455) hx hb d_law_450 (by decide) (rfl) ?_
    refine lv_goto (tgt := 978) hx hb d_law_455 (by decide) ?_
    exact kk ls H locs q1 Z1 f1 k Z1' O1 ⟨hP1, hPm1, hD1, hDm1, fun x h1 h2 => hdis x (hcs x h1) (hA_as wM_a x h2), hS, hsim1⟩ (lv_sub hl [2, 3, 4, 5, 6] rfl)
set_option maxHeartbeats 4000000 in
set_option maxRecDepth 100000 in
theorem lw_clear {i : Nat} {ls : Array Slot} {H : Heap} {locs : List Loc} {cells slots : Nat} {q : Nat → Nat} {Z : HS} {f : Nat → Int64} {z : Int32} {Z' : HS} {O : OS} (X : CallFix p m c code 7 s #[Value.ref b] wsA R_Law) (hC : LK l D ca cm sa co A s b L xs) (hi : i + 4 ≤ L) (hL : L ≤ 2048) (hI : LI D ca a cm am o co A s H locs q Z f z Z' O) (hf : cells + 1 ≤ room_1.cells ∧ slots + 6 ≤ room_1.slots) (hl : lv_has ls 7 [(4, .int (nI i)), (0, .ref b), (1, .ref (a 0)), (2, .ref (am 0)), (3, .ref o)])
    (kk : ∀ (ls : Array Slot) (H : Heap) (locs : List Loc) (q : Nat → Nat) (Z : HS) (f : Nat → Int64) (z : Int32) (Z' : HS) (O : OS), LI D ca a cm am o co A s H locs q Z f z Z' O → lv_has ls 7 [(4, .int (nI i)), (0, .ref b), (1, .ref (a 0)), (2, .ref (am 0)), (3, .ref o)] → W p l e room_1 s m #[Value.ref b] below meth c H locs (cells + 1) (slots + 6) Q (F0 m 978 ls [])) : W p l e room_1 s m #[Value.ref b] below meth c H locs cells slots Q (F0 m 458 ls []) := by
  obtain ⟨hlt, hK, hKm, hF, hZ, hN, hX, hbl, hbA⟩ := hC
  obtain ⟨hP, hPm, hD, hDm, hdis, hS, hsim⟩ := hI
  have hx := X.1
  have hb := X.2.1
  have hwA := X.2.2.2.2
  obtain ⟨k, q1, Z1, f1, bv, Z1', O1, m1, hd1, hsub, m2, hsim1, hcmp⟩ := st_clear l hlt D ca a q cm am sa o co Z f z Z' O (xs (i + 1)) hsim
  have hcs := hA_cs (f := f) (f1 := f1) (o := o) (co := co) hsub
  refine lv_aload_n hx hb d_law_458 rfl (lv_at hl 2 rfl) ?_
  refine lv_aload_n hx hb d_law_459 rfl (lv_at hl 1 rfl) ?_
  refine lv_iload hx hb d_law_460 (lv_at hl 0 rfl) ?_
  refine lv_iconst (v := 1) hx hb d_law_462 (by decide) ?_
  refine lv_iadd hx hb d_law_463 ?_
  refine lv_tope (y := nI (i + 1)) (nI_add (i) (1)) ?_
  refine va_sld hx hb hX hbl hbA hS (i := nI (i + 1)) (vp_in_nI (by omega) (by omega)) d_law_464 ?_
  rw [nI_clamp (show i + 1 < 2 ^ 31 by omega)]
  refine lv_aload_n hx hb d_law_465 rfl (lv_at hl 4 rfl) ?_
  refine hw_callN (vx_runSW (As := [.ref (a 0), .int (xs (i + 1)), .ref o]) (rest := []) X m1 (vx_cwSW 3 hwA g_Law_clear rfl rfl rfl (by decide +kernel) ⟨Nat.le_of_ble_eq_true rfl, Nat.le_of_ble_eq_true rfl⟩) (lb_pre hP hK hD hS hF hZ hN) rfl rfl hl.1 rfl (lv_room (Nat.le_of_ble_eq_true rfl)) d_law_466 hf) hS (hA_sub hD) (fun H locs hP1 hfr hS => ?_)
  have hPm := P_far hPm hfr (fun x h1 h2 => hdis x h2 h1)
  have hD1 : va_D A (oc o co f1 :: wHZ ca a q1 Z1) := D_cons (show A o from hD.2 0 (oc o co f) rfl) (hd1 A (D_tl hD)) (fun z9 => D_hd hD (hsub _ z9))
  refine lv_istore (lv' := [(5, .int k), (4, .int (nI i)), (0, .ref b), (1, .ref (a 0)), (2, .ref (am 0)), (3, .ref o)]) hx hb d_law_469 hl (by decide) rfl (fun ls hl => ?_)
  refine lv_aload_n hx hb d_law_471 rfl (lv_at hl 4 rfl) ?_
  refine lv_aload_n hx hb d_law_472 rfl (lv_at hl 2 rfl) ?_
  refine lv_iload hx hb d_law_473 (lv_at hl 1 rfl) ?_
  refine lv_iconst (v := 1) hx hb d_law_475 (by decide) ?_
  refine lv_iadd hx hb d_law_476 ?_
  refine lv_tope (y := nI (i + 1)) (nI_add (i) (1)) ?_
  refine va_sld hx hb hX hbl hbA hS (i := nI (i + 1)) (vp_in_nI (by omega) (by omega)) d_law_477 ?_
  rw [nI_clamp (show i + 1 < 2 ^ 31 by omega)]
  refine hw_callN (va_runV (As := [.int (xs (i + 1))]) (rest := []) X m2 (cwV 1 hwA g_Law_Mod_clear rfl rfl rfl (by decide +kernel) ⟨Nat.le_of_ble_eq_true rfl, Nat.le_of_ble_eq_true rfl⟩) (hb_preW hPm hKm hDm (va_recv (q0 := 0) (ci := 2) (q := (R_Mod, F_Mod, 14)) hKm hPm rfl rfl)) rfl rfl hl.1 rfl (lv_room (Nat.le_of_ble_eq_true rfl)) d_law_478 hf) hS (hA_sub hDm) (fun H locs hPm1 hfr hS => ?_)
  have hP1 := P_far hP1 hfr (fun x h1 h2 => hdis x (hcs x h1) h2)
  have hDm1 : va_D A (wMZ cm am k Z1' O1) := va_Das hDm wM_a
  refine lv_istore (lv' := [(6, .int bv), (5, .int k), (4, .int (nI i)), (0, .ref b), (1, .ref (a 0)), (2, .ref (am 0)), (3, .ref o)]) hx hb d_law_481 hl (by decide) rfl (fun ls hl => ?_)
  refine lv_aload_n hx hb d_law_483 rfl (lv_at hl 5 rfl) ?_
  refine hr_V (As := []) (v := some (.int k)) (C := R_Mod) X (c_Mod_thrown l D cm am k Z1'.2.2.1 Z1'.1 Z1'.2.1 Z1'.2.2.2.2.2.1 Z1'.2.2.2.2.1 Z1'.2.2.2.2.2.2 Z1'.2.2.2.1 O1.1 O1.2.1 O1.2.2.1 O1.2.2.2.1 O1.2.2.2.2.1 O1.2.2.2.2.2) (cwV 0 hwA g_Law_Mod_thrown rfl rfl rfl (by decide +kernel) ⟨Nat.le_of_ble_eq_true rfl, Nat.le_of_ble_eq_true rfl⟩) hPm1 hKm (va_recv (q0 := 0) (ci := 2) (q := (R_Mod, F_Mod, 14)) hKm hPm1 rfl rfl) rfl hl.1 rfl (Nat.le_of_ble_eq_true rfl) hf d_law_484 ?_
  refine lv_iload hx hb d_law_487 (lv_at hl 1 rfl) ?_
  refine lvT_icmp_eq (tgt := 494) hx hb d_law_489 (by decide) (rfl) ?_
  refine lv_iload hx hb d_law_494 (lv_at hl 1 rfl) ?_
  refine lv_if_ne (tgt := 511) hx hb d_law_496 (by decide) (fun h1 => ?_) (fun h1 => ?_)
  · refine lv_goto (tgt := 978) hx hb d_law_511 (by decide) ?_
    exact kk ls H locs q1 Z1 f1 k Z1' O1 ⟨hP1, hPm1, hD1, hDm1, fun x h1 h2 => hdis x (hcs x h1) (hA_as wM_a x h2), hS, hsim1⟩ (lv_sub hl [2, 3, 4, 5, 6] rfl)
  · refine lv_aload_n hx hb d_law_499 rfl (lv_at hl 6 rfl) ?_
    refine lv_iconst (v := 0) hx hb d_law_500 (by decide) ?_
    refine va_lald hx hb hK hP1 0 0 rfl rfl (vp_in_nI (n := 0) (by decide) (by decide)) d_law_501 ?_
    refine lv_topv (v' := .long (Int32.toInt64 bv)) (congrArg Value.long (hcmp h1)) ?_
    refine lv_iload hx hb d_law_502 (lv_at hl 0 rfl) ?_
    refine lv_i2l hx hb d_law_504 rfl ?_
    refine lv_lcmpE hx hb d_law_505 ?_
    refine lvT_if_eq (tgt := 511) hx hb d_law_506 (by decide) (rfl) ?_
    refine lv_goto (tgt := 978) hx hb d_law_511 (by decide) ?_
    exact kk ls H locs q1 Z1 f1 k Z1' O1 ⟨hP1, hPm1, hD1, hDm1, fun x h1 h2 => hdis x (hcs x h1) (hA_as wM_a x h2), hS, hsim1⟩ (lv_sub hl [2, 3, 4, 5, 6] rfl)
set_option maxHeartbeats 4000000 in
set_option maxRecDepth 100000 in
theorem lw_about {i : Nat} {ls : Array Slot} {H : Heap} {locs : List Loc} {cells slots : Nat} {q : Nat → Nat} {Z : HS} {f : Nat → Int64} {z : Int32} {Z' : HS} {O : OS} (X : CallFix p m c code 7 s #[Value.ref b] wsA R_Law) (hC : LK l D ca cm sa co A s b L xs) (hi : i + 4 ≤ L) (hL : L ≤ 2048) (hI : LI D ca a cm am o co A s H locs q Z f z Z' O) (hf : cells + 2 ≤ room_1.cells ∧ slots + 12 ≤ room_1.slots) (hl : lv_has ls 7 [(4, .int (nI i)), (0, .ref b), (1, .ref (a 0)), (2, .ref (am 0)), (3, .ref o)])
    (kk : ∀ (ls : Array Slot) (H : Heap) (locs : List Loc) (q : Nat → Nat) (Z : HS) (f : Nat → Int64) (z : Int32) (Z' : HS) (O : OS), LI D ca a cm am o co A s H locs q Z f z Z' O → lv_has ls 7 [(4, .int (nI i)), (0, .ref b), (1, .ref (a 0)), (2, .ref (am 0)), (3, .ref o)] → W p l e room_1 s m #[Value.ref b] below meth c H locs (cells + 2) (slots + 12) Q (F0 m 978 ls [])) : W p l e room_1 s m #[Value.ref b] below meth c H locs cells slots Q (F0 m 514 ls []) := by
  obtain ⟨hlt, hK, hKm, hF, hZ, hN, hX, hbl, hbA⟩ := hC
  obtain ⟨hP, hPm, hD, hDm, hdis, hS, hsim⟩ := hI
  have hx := X.1
  have hb := X.2.1
  have hwA := X.2.2.2.2
  obtain ⟨k, q1, Z1, f1, bv, Z1', O1, m1, hd1, hsub, m2, hsim1, hcmp⟩ := st_about l hlt D ca a q cm am sa o co Z f z Z' O (xs (i + 1)) (xs (i + 2)) hsim
  have hcs := hA_cs (f := f) (f1 := f1) (o := o) (co := co) hsub
  refine lv_aload_n hx hb d_law_514 rfl (lv_at hl 2 rfl) ?_
  refine lv_aload_n hx hb d_law_515 rfl (lv_at hl 1 rfl) ?_
  refine lv_iload hx hb d_law_516 (lv_at hl 0 rfl) ?_
  refine lv_iconst (v := 1) hx hb d_law_518 (by decide) ?_
  refine lv_iadd hx hb d_law_519 ?_
  refine lv_tope (y := nI (i + 1)) (nI_add (i) (1)) ?_
  refine va_sld hx hb hX hbl hbA hS (i := nI (i + 1)) (vp_in_nI (by omega) (by omega)) d_law_520 ?_
  rw [nI_clamp (show i + 1 < 2 ^ 31 by omega)]
  refine lv_aload_n hx hb d_law_521 rfl (lv_at hl 1 rfl) ?_
  refine lv_iload hx hb d_law_522 (lv_at hl 0 rfl) ?_
  refine lv_iconst (v := 2) hx hb d_law_524 (by decide) ?_
  refine lv_iadd hx hb d_law_525 ?_
  refine lv_tope (y := nI (i + 2)) (nI_add (i) (2)) ?_
  refine va_sld hx hb hX hbl hbA hS (i := nI (i + 2)) (vp_in_nI (by omega) (by omega)) d_law_526 ?_
  rw [nI_clamp (show i + 2 < 2 ^ 31 by omega)]
  refine lv_aload_n hx hb d_law_527 rfl (lv_at hl 4 rfl) ?_
  refine hw_callN (vx_runSW (As := [.ref (a 0), .int (xs (i + 1)), .int (xs (i + 2)), .ref o]) (rest := []) X m1 (vx_cwSW 4 hwA g_Law_about rfl rfl rfl (by decide +kernel) ⟨Nat.le_of_ble_eq_true rfl, Nat.le_of_ble_eq_true rfl⟩) (lb_pre hP hK hD hS hF hZ hN) rfl rfl hl.1 rfl (lv_room (Nat.le_of_ble_eq_true rfl)) d_law_528 hf) hS (hA_sub hD) (fun H locs hP1 hfr hS => ?_)
  have hPm := P_far hPm hfr (fun x h1 h2 => hdis x h2 h1)
  have hD1 : va_D A (oc o co f1 :: wHZ ca a q1 Z1) := D_cons (show A o from hD.2 0 (oc o co f) rfl) (hd1 A (D_tl hD)) (fun z9 => D_hd hD (hsub _ z9))
  refine lv_istore (lv' := [(5, .int k), (4, .int (nI i)), (0, .ref b), (1, .ref (a 0)), (2, .ref (am 0)), (3, .ref o)]) hx hb d_law_531 hl (by decide) rfl (fun ls hl => ?_)
  refine lv_aload_n hx hb d_law_533 rfl (lv_at hl 4 rfl) ?_
  refine lv_aload_n hx hb d_law_534 rfl (lv_at hl 2 rfl) ?_
  refine lv_iload hx hb d_law_535 (lv_at hl 1 rfl) ?_
  refine lv_iconst (v := 1) hx hb d_law_537 (by decide) ?_
  refine lv_iadd hx hb d_law_538 ?_
  refine lv_tope (y := nI (i + 1)) (nI_add (i) (1)) ?_
  refine va_sld hx hb hX hbl hbA hS (i := nI (i + 1)) (vp_in_nI (by omega) (by omega)) d_law_539 ?_
  rw [nI_clamp (show i + 1 < 2 ^ 31 by omega)]
  refine lv_aload_n hx hb d_law_540 rfl (lv_at hl 2 rfl) ?_
  refine lv_iload hx hb d_law_541 (lv_at hl 1 rfl) ?_
  refine lv_iconst (v := 2) hx hb d_law_543 (by decide) ?_
  refine lv_iadd hx hb d_law_544 ?_
  refine lv_tope (y := nI (i + 2)) (nI_add (i) (2)) ?_
  refine va_sld hx hb hX hbl hbA hS (i := nI (i + 2)) (vp_in_nI (by omega) (by omega)) d_law_545 ?_
  rw [nI_clamp (show i + 2 < 2 ^ 31 by omega)]
  refine hw_callN (va_runV (As := [.int (xs (i + 1)), .int (xs (i + 2))]) (rest := []) X m2 (cwV 2 hwA g_Law_Mod_about rfl rfl rfl (by decide +kernel) ⟨Nat.le_of_ble_eq_true rfl, Nat.le_of_ble_eq_true rfl⟩) (hb_preW hPm hKm hDm (va_recv (q0 := 0) (ci := 2) (q := (R_Mod, F_Mod, 14)) hKm hPm rfl rfl)) rfl rfl hl.1 rfl (lv_room (Nat.le_of_ble_eq_true rfl)) d_law_546 hf) hS (hA_sub hDm) (fun H locs hPm1 hfr hS => ?_)
  have hP1 := P_far hP1 hfr (fun x h1 h2 => hdis x (hcs x h1) h2)
  have hDm1 : va_D A (wMZ cm am k Z1' O1) := va_Das hDm wM_a
  refine lv_istore (lv' := [(6, .int bv), (5, .int k), (4, .int (nI i)), (0, .ref b), (1, .ref (a 0)), (2, .ref (am 0)), (3, .ref o)]) hx hb d_law_549 hl (by decide) rfl (fun ls hl => ?_)
  refine lv_aload_n hx hb d_law_551 rfl (lv_at hl 5 rfl) ?_
  refine hr_V (As := []) (v := some (.int k)) (C := R_Mod) X (c_Mod_thrown l D cm am k Z1'.2.2.1 Z1'.1 Z1'.2.1 Z1'.2.2.2.2.2.1 Z1'.2.2.2.2.1 Z1'.2.2.2.2.2.2 Z1'.2.2.2.1 O1.1 O1.2.1 O1.2.2.1 O1.2.2.2.1 O1.2.2.2.2.1 O1.2.2.2.2.2) (cwV 0 hwA g_Law_Mod_thrown rfl rfl rfl (by decide +kernel) ⟨Nat.le_of_ble_eq_true rfl, Nat.le_of_ble_eq_true rfl⟩) hPm1 hKm (va_recv (q0 := 0) (ci := 2) (q := (R_Mod, F_Mod, 14)) hKm hPm1 rfl rfl) rfl hl.1 rfl (Nat.le_of_ble_eq_true rfl) hf d_law_552 ?_
  refine lv_iload hx hb d_law_555 (lv_at hl 1 rfl) ?_
  refine lvT_icmp_eq (tgt := 562) hx hb d_law_557 (by decide) (rfl) ?_
  refine lv_iload hx hb d_law_562 (lv_at hl 1 rfl) ?_
  refine lv_if_ne (tgt := 579) hx hb d_law_564 (by decide) (fun h1 => ?_) (fun h1 => ?_)
  · refine lv_goto (tgt := 978) hx hb d_law_579 (by decide) ?_
    exact kk ls H locs q1 Z1 f1 k Z1' O1 ⟨hP1, hPm1, hD1, hDm1, fun x h1 h2 => hdis x (hcs x h1) (hA_as wM_a x h2), hS, hsim1⟩ (lv_sub hl [2, 3, 4, 5, 6] rfl)
  · refine lv_aload_n hx hb d_law_567 rfl (lv_at hl 6 rfl) ?_
    refine lv_iconst (v := 0) hx hb d_law_568 (by decide) ?_
    refine va_lald hx hb hK hP1 0 0 rfl rfl (vp_in_nI (n := 0) (by decide) (by decide)) d_law_569 ?_
    refine lv_topv (v' := .long (Int32.toInt64 bv)) (congrArg Value.long (hcmp h1)) ?_
    refine lv_iload hx hb d_law_570 (lv_at hl 0 rfl) ?_
    refine lv_i2l hx hb d_law_572 rfl ?_
    refine lv_lcmpE hx hb d_law_573 ?_
    refine lvT_if_eq (tgt := 579) hx hb d_law_574 (by decide) (rfl) ?_
    refine lv_goto (tgt := 978) hx hb d_law_579 (by decide) ?_
    exact kk ls H locs q1 Z1 f1 k Z1' O1 ⟨hP1, hPm1, hD1, hDm1, fun x h1 h2 => hdis x (hcs x h1) (hA_as wM_a x h2), hS, hsim1⟩ (lv_sub hl [2, 3, 4, 5, 6] rfl)
end HLC
