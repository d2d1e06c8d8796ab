section HLC
variable {p : Program} {l : Launch} {e : Env} {s : State} {m : MethodId} {below : List Frame} {meth : Method} {c : Code} {b L : Nat} {xs : Nat → Int32} {Q : State → Prop} {D : va_G} {ca a cm am sa : Nat → Nat} {o co : Nat} {A : Nat → Prop}
set_option maxHeartbeats 4000000 in
set_option maxRecDepth 100000 in
theorem lw_home {i : Nat} {ls : Array Slot} {H : Heap} {locs : List Loc} {cells slots : Nat} {q : Nat → Nat} {Z : HS} {f : Nat → Int64} {z : Int32} {Z' : HS} {O : OS} (X : CallFix p m c code 7 s #[Value.ref b] wsA R_Law) (hC : LK l D ca cm sa co A s b L xs) (hi : i + 4 ≤ L) (hL : L ≤ 2048) (hI : LI D ca a cm am o co A s H locs q Z f z Z' O) (hf : cells + 1 ≤ room_1.cells ∧ slots + 6 ≤ room_1.slots) (hl : lv_has ls 7 [(4, .int (nI i)), (0, .ref b), (1, .ref (a 0)), (2, .ref (am 0)), (3, .ref o)])
    (kk : ∀ (ls : Array Slot) (H : Heap) (locs : List Loc) (q : Nat → Nat) (Z : HS) (f : Nat → Int64) (z : Int32) (Z' : HS) (O : OS), LI D ca a cm am o co A s H locs q Z f z Z' O → lv_has ls 7 [(4, .int (nI i)), (0, .ref b), (1, .ref (a 0)), (2, .ref (am 0)), (3, .ref o)] → W p l e room_1 s m #[Value.ref b] below meth c H locs (cells + 1) (slots + 6) Q (F0 m 978 ls [])) : W p l e room_1 s m #[Value.ref b] below meth c H locs cells slots Q (F0 m 582 ls []) := by
  obtain ⟨hlt, hK, hKm, hF, hZ, hN, hX, hbl, hbA⟩ := hC
  obtain ⟨hP, hPm, hD, hDm, hdis, hS, hsim⟩ := hI
  have hx := X.1
  have hb := X.2.1
  have hwA := X.2.2.2.2
  obtain ⟨k, q1, Z1, f1, bv, Z1', O1, m1, hd1, hsub, m2, hsim1, hcmp⟩ := st_home l hlt D ca a q cm am sa o co Z f z Z' O (xs (i + 1)) (xs (i + 2)) hsim
  have hcs := hA_cs (f := f) (f1 := f1) (o := o) (co := co) hsub
  refine lv_aload_n hx hb d_law_582 rfl (lv_at hl 2 rfl) ?_
  refine lv_aload_n hx hb d_law_583 rfl (lv_at hl 1 rfl) ?_
  refine lv_iload hx hb d_law_584 (lv_at hl 0 rfl) ?_
  refine lv_iconst (v := 1) hx hb d_law_586 (by decide) ?_
  refine lv_iadd hx hb d_law_587 ?_
  refine lv_tope (y := nI (i + 1)) (nI_add (i) (1)) ?_
  refine va_sld hx hb hX hbl hbA hS (i := nI (i + 1)) (vp_in_nI (by omega) (by omega)) d_law_588 ?_
  rw [nI_clamp (show i + 1 < 2 ^ 31 by omega)]
  refine lv_aload_n hx hb d_law_589 rfl (lv_at hl 1 rfl) ?_
  refine lv_iload hx hb d_law_590 (lv_at hl 0 rfl) ?_
  refine lv_iconst (v := 2) hx hb d_law_592 (by decide) ?_
  refine lv_iadd hx hb d_law_593 ?_
  refine lv_tope (y := nI (i + 2)) (nI_add (i) (2)) ?_
  refine va_sld hx hb hX hbl hbA hS (i := nI (i + 2)) (vp_in_nI (by omega) (by omega)) d_law_594 ?_
  rw [nI_clamp (show i + 2 < 2 ^ 31 by omega)]
  refine lv_aload_n hx hb d_law_595 rfl (lv_at hl 4 rfl) ?_
  refine hw_callN (vx_runSW (As := [.ref (a 0), .int (xs (i + 1)), .int (xs (i + 2)), .ref o]) (rest := []) X m1 (vx_cwSW 4 hwA g_Law_home rfl rfl rfl (by decide +kernel) ⟨Nat.le_of_ble_eq_true rfl, Nat.le_of_ble_eq_true rfl⟩) (lb_pre hP hK hD hS hF hZ hN) rfl rfl hl.1 rfl (lv_room (Nat.le_of_ble_eq_true rfl)) d_law_596 hf) hS (hA_sub hD) (fun H locs hP1 hfr hS => ?_)
  have hPm := P_far hPm hfr (fun x h1 h2 => hdis x h2 h1)
  have hD1 : va_D A (oc o co f1 :: wHZ ca a q1 Z1) := D_cons (show A o from hD.2 0 (oc o co f) rfl) (hd1 A (D_tl hD)) (fun z9 => D_hd hD (hsub _ z9))
  refine lv_istore (lv' := [(5, .int k), (4, .int (nI i)), (0, .ref b), (1, .ref (a 0)), (2, .ref (am 0)), (3, .ref o)]) hx hb d_law_599 hl (by decide) rfl (fun ls hl => ?_)
  refine lv_aload_n hx hb d_law_601 rfl (lv_at hl 4 rfl) ?_
  refine lv_aload_n hx hb d_law_602 rfl (lv_at hl 2 rfl) ?_
  refine lv_iload hx hb d_law_603 (lv_at hl 1 rfl) ?_
  refine lv_iconst (v := 1) hx hb d_law_605 (by decide) ?_
  refine lv_iadd hx hb d_law_606 ?_
  refine lv_tope (y := nI (i + 1)) (nI_add (i) (1)) ?_
  refine va_sld hx hb hX hbl hbA hS (i := nI (i + 1)) (vp_in_nI (by omega) (by omega)) d_law_607 ?_
  rw [nI_clamp (show i + 1 < 2 ^ 31 by omega)]
  refine lv_aload_n hx hb d_law_608 rfl (lv_at hl 2 rfl) ?_
  refine lv_iload hx hb d_law_609 (lv_at hl 1 rfl) ?_
  refine lv_iconst (v := 2) hx hb d_law_611 (by decide) ?_
  refine lv_iadd hx hb d_law_612 ?_
  refine lv_tope (y := nI (i + 2)) (nI_add (i) (2)) ?_
  refine va_sld hx hb hX hbl hbA hS (i := nI (i + 2)) (vp_in_nI (by omega) (by omega)) d_law_613 ?_
  rw [nI_clamp (show i + 2 < 2 ^ 31 by omega)]
  refine hw_callN (va_runV (As := [.int (xs (i + 1)), .int (xs (i + 2))]) (rest := []) X m2 (cwV 2 hwA g_Law_Mod_home rfl rfl rfl (by decide +kernel) ⟨Nat.le_of_ble_eq_true rfl, Nat.le_of_ble_eq_true rfl⟩) (hb_preW hPm hKm hDm (va_recv (q0 := 0) (ci := 2) (q := (R_Mod, F_Mod, 14)) hKm hPm rfl rfl)) rfl rfl hl.1 rfl (lv_room (Nat.le_of_ble_eq_true rfl)) d_law_614 hf) hS (hA_sub hDm) (fun H locs hPm1 hfr hS => ?_)
  have hP1 := P_far hP1 hfr (fun x h1 h2 => hdis x (hcs x h1) h2)
  have hDm1 : va_D A (wMZ cm am k Z1' O1) := va_Das hDm wM_a
  refine lv_istore (lv' := [(6, .int bv), (5, .int k), (4, .int (nI i)), (0, .ref b), (1, .ref (a 0)), (2, .ref (am 0)), (3, .ref o)]) hx hb d_law_617 hl (by decide) rfl (fun ls hl => ?_)
  refine lv_aload_n hx hb d_law_619 rfl (lv_at hl 5 rfl) ?_
  refine hr_V (As := []) (v := some (.int k)) (C := R_Mod) X (c_Mod_thrown l D cm am k Z1'.2.2.1 Z1'.1 Z1'.2.1 Z1'.2.2.2.2.2.1 Z1'.2.2.2.2.1 Z1'.2.2.2.2.2.2 Z1'.2.2.2.1 O1.1 O1.2.1 O1.2.2.1 O1.2.2.2.1 O1.2.2.2.2.1 O1.2.2.2.2.2) (cwV 0 hwA g_Law_Mod_thrown rfl rfl rfl (by decide +kernel) ⟨Nat.le_of_ble_eq_true rfl, Nat.le_of_ble_eq_true rfl⟩) hPm1 hKm (va_recv (q0 := 0) (ci := 2) (q := (R_Mod, F_Mod, 14)) hKm hPm1 rfl rfl) rfl hl.1 rfl (Nat.le_of_ble_eq_true rfl) hf d_law_620 ?_
  refine lv_iload hx hb d_law_623 (lv_at hl 1 rfl) ?_
  refine lvT_icmp_eq (tgt := 630) hx hb d_law_625 (by decide) (rfl) ?_
  refine lv_iload hx hb d_law_630 (lv_at hl 1 rfl) ?_
  refine lv_if_ne (tgt := 647) hx hb d_law_632 (by decide) (fun h1 => ?_) (fun h1 => ?_)
  · refine lv_goto (tgt := 978) hx hb d_law_647 (by decide) ?_
    exact kk ls H locs q1 Z1 f1 k Z1' O1 ⟨hP1, hPm1, hD1, hDm1, fun x h1 h2 => hdis x (hcs x h1) (hA_as wM_a x h2), hS, hsim1⟩ (lv_sub hl [2, 3, 4, 5, 6] rfl)
  · refine lv_aload_n hx hb d_law_635 rfl (lv_at hl 6 rfl) ?_
    refine lv_iconst (v := 0) hx hb d_law_636 (by decide) ?_
    refine va_lald hx hb hK hP1 0 0 rfl rfl (vp_in_nI (n := 0) (by decide) (by decide)) d_law_637 ?_
    refine lv_topv (v' := .long (Int32.toInt64 bv)) (congrArg Value.long (hcmp h1)) ?_
    refine lv_iload hx hb d_law_638 (lv_at hl 0 rfl) ?_
    refine lv_i2l hx hb d_law_640 rfl ?_
    refine lv_lcmpE hx hb d_law_641 ?_
    refine lvT_if_eq (tgt := 647) hx hb d_law_642 (by decide) (rfl) ?_
    refine lv_goto (tgt := 978) hx hb d_law_647 (by decide) ?_
    exact kk ls H locs q1 Z1 f1 k Z1' O1 ⟨hP1, hPm1, hD1, hDm1, fun x h1 h2 => hdis x (hcs x h1) (hA_as wM_a x h2), hS, hsim1⟩ (lv_sub hl [2, 3, 4, 5, 6] rfl)
set_option maxHeartbeats 4000000 in
set_option maxRecDepth 100000 in
theorem lw_distance {i : Nat} {ls : Array Slot} {H : Heap} {locs : List Loc} {cells slots : Nat} {q : Nat → Nat} {Z : HS} {f : Nat → Int64} {z : Int32} {Z' : HS} {O : OS} (X : CallFix p m c code 7 s #[Value.ref b] wsA R_Law) (hC : LK l D ca cm sa co A s b L xs) (hi : i + 4 ≤ L) (hL : L ≤ 2048) (hI : LI D ca a cm am o co A s H locs q Z f z Z' O) (hf : cells + 2 ≤ room_1.cells ∧ slots + 12 ≤ room_1.slots) (hl : lv_has ls 7 [(4, .int (nI i)), (0, .ref b), (1, .ref (a 0)), (2, .ref (am 0)), (3, .ref o)])
    (kk : ∀ (ls : Array Slot) (H : Heap) (locs : List Loc) (q : Nat → Nat) (Z : HS) (f : Nat → Int64) (z : Int32) (Z' : HS) (O : OS), LI D ca a cm am o co A s H locs q Z f z Z' O → lv_has ls 7 [(4, .int (nI i)), (0, .ref b), (1, .ref (a 0)), (2, .ref (am 0)), (3, .ref o)] → W p l e room_1 s m #[Value.ref b] below meth c H locs (cells + 2) (slots + 12) Q (F0 m 978 ls [])) : W p l e room_1 s m #[Value.ref b] below meth c H locs cells slots Q (F0 m 650 ls []) := by
  obtain ⟨hlt, hK, hKm, hF, hZ, hN, hX, hbl, hbA⟩ := hC
  obtain ⟨hP, hPm, hD, hDm, hdis, hS, hsim⟩ := hI
  have hx := X.1
  have hb := X.2.1
  have hwA := X.2.2.2.2
  obtain ⟨k, q1, Z1, f1, bv, Z1', O1, m1, hd1, hsub, m2, hsim1, hcmp⟩ := st_distance l hlt D ca a q cm am sa o co Z f z Z' O (xs (i + 1)) (xs (i + 2)) hsim
  have hcs := hA_cs (f := f) (f1 := f1) (o := o) (co := co) hsub
  refine lv_aload_n hx hb d_law_650 rfl (lv_at hl 2 rfl) ?_
  refine lv_aload_n hx hb d_law_651 rfl (lv_at hl 1 rfl) ?_
  refine lv_iload hx hb d_law_652 (lv_at hl 0 rfl) ?_
  refine lv_iconst (v := 1) hx hb d_law_654 (by decide) ?_
  refine lv_iadd hx hb d_law_655 ?_
  refine lv_tope (y := nI (i + 1)) (nI_add (i) (1)) ?_
  refine va_sld hx hb hX hbl hbA hS (i := nI (i + 1)) (vp_in_nI (by omega) (by omega)) d_law_656 ?_
  rw [nI_clamp (show i + 1 < 2 ^ 31 by omega)]
  refine lv_aload_n hx hb d_law_657 rfl (lv_at hl 1 rfl) ?_
  refine lv_iload hx hb d_law_658 (lv_at hl 0 rfl) ?_
  refine lv_iconst (v := 2) hx hb d_law_660 (by decide) ?_
  refine lv_iadd hx hb d_law_661 ?_
  refine lv_tope (y := nI (i + 2)) (nI_add (i) (2)) ?_
  refine va_sld hx hb hX hbl hbA hS (i := nI (i + 2)) (vp_in_nI (by omega) (by omega)) d_law_662 ?_
  rw [nI_clamp (show i + 2 < 2 ^ 31 by omega)]
  refine lv_aload_n hx hb d_law_663 rfl (lv_at hl 4 rfl) ?_
  refine hw_callN (vx_runSW (As := [.ref (a 0), .int (xs (i + 1)), .int (xs (i + 2)), .ref o]) (rest := []) X m1 (vx_cwSW 4 hwA g_Law_distance rfl rfl rfl (by decide +kernel) ⟨Nat.le_of_ble_eq_true rfl, Nat.le_of_ble_eq_true rfl⟩) (lb_pre hP hK hD hS hF hZ hN) rfl rfl hl.1 rfl (lv_room (Nat.le_of_ble_eq_true rfl)) d_law_664 hf) hS (hA_sub hD) (fun H locs hP1 hfr hS => ?_)
  have hPm := P_far hPm hfr (fun x h1 h2 => hdis x h2 h1)
  have hD1 : va_D A (oc o co f1 :: wHZ ca a q1 Z1) := D_cons (show A o from hD.2 0 (oc o co f) rfl) (hd1 A (D_tl hD)) (fun z9 => D_hd hD (hsub _ z9))
  refine lv_istore (lv' := [(5, .int k), (4, .int (nI i)), (0, .ref b), (1, .ref (a 0)), (2, .ref (am 0)), (3, .ref o)]) hx hb d_law_667 hl (by decide) rfl (fun ls hl => ?_)
  refine lv_aload_n hx hb d_law_669 rfl (lv_at hl 4 rfl) ?_
  refine lv_aload_n hx hb d_law_670 rfl (lv_at hl 2 rfl) ?_
  refine lv_iload hx hb d_law_671 (lv_at hl 1 rfl) ?_
  refine lv_iconst (v := 1) hx hb d_law_673 (by decide) ?_
  refine lv_iadd hx hb d_law_674 ?_
  refine lv_tope (y := nI (i + 1)) (nI_add (i) (1)) ?_
  refine va_sld hx hb hX hbl hbA hS (i := nI (i + 1)) (vp_in_nI (by omega) (by omega)) d_law_675 ?_
  rw [nI_clamp (show i + 1 < 2 ^ 31 by omega)]
  refine lv_aload_n hx hb d_law_676 rfl (lv_at hl 2 rfl) ?_
  refine lv_iload hx hb d_law_677 (lv_at hl 1 rfl) ?_
  refine lv_iconst (v := 2) hx hb d_law_679 (by decide) ?_
  refine lv_iadd hx hb d_law_680 ?_
  refine lv_tope (y := nI (i + 2)) (nI_add (i) (2)) ?_
  refine va_sld hx hb hX hbl hbA hS (i := nI (i + 2)) (vp_in_nI (by omega) (by omega)) d_law_681 ?_
  rw [nI_clamp (show i + 2 < 2 ^ 31 by omega)]
  refine hw_callN (va_runV (As := [.int (xs (i + 1)), .int (xs (i + 2))]) (rest := []) X m2 (cwV 2 hwA g_Law_Mod_distance rfl rfl rfl (by decide +kernel) ⟨Nat.le_of_ble_eq_true rfl, Nat.le_of_ble_eq_true rfl⟩) (hb_preW hPm hKm hDm (va_recv (q0 := 0) (ci := 2) (q := (R_Mod, F_Mod, 14)) hKm hPm rfl rfl)) rfl rfl hl.1 rfl (lv_room (Nat.le_of_ble_eq_true rfl)) d_law_682 hf) hS (hA_sub hDm) (fun H locs hPm1 hfr hS => ?_)
  have hP1 := P_far hP1 hfr (fun x h1 h2 => hdis x (hcs x h1) h2)
  have hDm1 : va_D A (wMZ cm am k Z1' O1) := va_Das hDm wM_a
  refine lv_istore (lv' := [(6, .int bv), (5, .int k), (4, .int (nI i)), (0, .ref b), (1, .ref (a 0)), (2, .ref (am 0)), (3, .ref o)]) hx hb d_law_685 hl (by decide) rfl (fun ls hl => ?_)
  refine lv_aload_n hx hb d_law_687 rfl (lv_at hl 5 rfl) ?_
  refine hr_V (As := []) (v := some (.int k)) (C := R_Mod) X (c_Mod_thrown l D cm am k Z1'.2.2.1 Z1'.1 Z1'.2.1 Z1'.2.2.2.2.2.1 Z1'.2.2.2.2.1 Z1'.2.2.2.2.2.2 Z1'.2.2.2.1 O1.1 O1.2.1 O1.2.2.1 O1.2.2.2.1 O1.2.2.2.2.1 O1.2.2.2.2.2) (cwV 0 hwA g_Law_Mod_thrown rfl rfl rfl (by decide +kernel) ⟨Nat.le_of_ble_eq_true rfl, Nat.le_of_ble_eq_true rfl⟩) hPm1 hKm (va_recv (q0 := 0) (ci := 2) (q := (R_Mod, F_Mod, 14)) hKm hPm1 rfl rfl) rfl hl.1 rfl (Nat.le_of_ble_eq_true rfl) hf d_law_688 ?_
  refine lv_iload hx hb d_law_691 (lv_at hl 1 rfl) ?_
  refine lvT_icmp_eq (tgt := 698) hx hb d_law_693 (by decide) (rfl) ?_
  refine lv_iload hx hb d_law_698 (lv_at hl 1 rfl) ?_
  refine lv_if_ne (tgt := 715) hx hb d_law_700 (by decide) (fun h1 => ?_) (fun h1 => ?_)
  · refine lv_goto (tgt := 978) hx hb d_law_715 (by decide) ?_
    exact kk ls H locs q1 Z1 f1 k Z1' O1 ⟨hP1, hPm1, hD1, hDm1, fun x h1 h2 => hdis x (hcs x h1) (hA_as wM_a x h2), hS, hsim1⟩ (lv_sub hl [2, 3, 4, 5, 6] rfl)
  · refine lv_aload_n hx hb d_law_703 rfl (lv_at hl 6 rfl) ?_
    refine lv_iconst (v := 0) hx hb d_law_704 (by decide) ?_
    refine va_lald hx hb hK hP1 0 0 rfl rfl (vp_in_nI (n := 0) (by decide) (by decide)) d_law_705 ?_
    refine lv_topv (v' := .long (Int32.toInt64 bv)) (congrArg Value.long (hcmp h1)) ?_
    refine lv_iload hx hb d_law_706 (lv_at hl 0 rfl) ?_
    refine lv_i2l hx hb d_law_708 rfl ?_
    refine lv_lcmpE hx hb d_law_709 ?_
    refine lvT_if_eq (tgt := 715) hx hb d_law_710 (by decide) (rfl) ?_
    refine lv_goto (tgt := 978) hx hb d_law_715 (by decide) ?_
    exact kk ls H locs q1 Z1 f1 k Z1' O1 ⟨hP1, hPm1, hD1, hDm1, fun x h1 h2 => hdis x (hcs x h1) (hA_as wM_a x h2), hS, hsim1⟩ (lv_sub hl [2, 3, 4, 5, 6] rfl)
set_option maxHeartbeats 4000000 in
set_option maxRecDepth 100000 in
theorem lw_bits {i : Nat} {ls : Array Slot} {H : Heap} {locs : List Loc} {cells slots : Nat} {q : Nat → Nat} {Z : HS} {f : Nat → Int64} {z : Int32} {Z' : HS} {O : OS} (X : CallFix p m c code 7 s #[Value.ref b] wsA R_Law) (hC : LK l D ca cm sa co A s b L xs) (hi : i + 4 ≤ L) (hL : L ≤ 2048) (hI : LI D ca a cm am o co A s H locs q Z f z Z' O) (hf : cells + 2 ≤ room_1.cells ∧ slots + 12 ≤ room_1.slots) (hl : lv_has ls 7 [(4, .int (nI i)), (0, .ref b), (1, .ref (a 0)), (2, .ref (am 0)), (3, .ref o)])
    (kk : ∀ (ls : Array Slot) (H : Heap) (locs : List Loc) (q : Nat → Nat) (Z : HS) (f : Nat → Int64) (z : Int32) (Z' : HS) (O : OS), LI D ca a cm am o co A s H locs q Z f z Z' O → lv_has ls 7 [(4, .int (nI i)), (0, .ref b), (1, .ref (a 0)), (2, .ref (am 0)), (3, .ref o)] → W p l e room_1 s m #[Value.ref b] below meth c H locs (cells + 2) (slots + 12) Q (F0 m 978 ls [])) : W p l e room_1 s m #[Value.ref b] below meth c H locs cells slots Q (F0 m 718 ls []) := by
  obtain ⟨hlt, hK, hKm, hF, hZ, hN, hX, hbl, hbA⟩ := hC
  obtain ⟨hP, hPm, hD, hDm, hdis, hS, hsim⟩ := hI
  have hx := X.1
  have hb := X.2.1
  have hwA := X.2.2.2.2
  obtain ⟨k, q1, Z1, f1, bv, Z1', O1, m1, hd1, hsub, m2, hsim1, hcmp⟩ := st_bits l hlt D ca a q cm am sa o co Z f z Z' O (xs (i + 1)) (xs (i + 2)) hsim
  have hcs := hA_cs (f := f) (f1 := f1) (o := o) (co := co) hsub
  refine lv_aload_n hx hb d_law_718 rfl (lv_at hl 2 rfl) ?_
  refine lv_aload_n hx hb d_law_719 rfl (lv_at hl 1 rfl) ?_
  refine lv_iload hx hb d_law_720 (lv_at hl 0 rfl) ?_
  refine lv_iconst (v := 1) hx hb d_law_722 (by decide) ?_
  refine lv_iadd hx hb d_law_723 ?_
  refine lv_tope (y := nI (i + 1)) (nI_add (i) (1)) ?_
  refine va_sld hx hb hX hbl hbA hS (i := nI (i + 1)) (vp_in_nI (by omega) (by omega)) d_law_724 ?_
  rw [nI_clamp (show i + 1 < 2 ^ 31 by omega)]
  refine lv_aload_n hx hb d_law_725 rfl (lv_at hl 1 rfl) ?_
  refine lv_iload hx hb d_law_726 (lv_at hl 0 rfl) ?_
  refine lv_iconst (v := 2) hx hb d_law_728 (by decide) ?_
  refine lv_iadd hx hb d_law_729 ?_
  refine lv_tope (y := nI (i + 2)) (nI_add (i) (2)) ?_
  refine va_sld hx hb hX hbl hbA hS (i := nI (i + 2)) (vp_in_nI (by omega) (by omega)) d_law_730 ?_
  rw [nI_clamp (show i + 2 < 2 ^ 31 by omega)]
  refine lv_aload_n hx hb d_law_731 rfl (lv_at hl 4 rfl) ?_
  refine hw_callN (vx_runSW (As := [.ref (a 0), .int (xs (i + 1)), .int (xs (i + 2)), .ref o]) (rest := []) X m1 (vx_cwSW 4 hwA g_Law_bits rfl rfl rfl (by decide +kernel) ⟨Nat.le_of_ble_eq_true rfl, Nat.le_of_ble_eq_true rfl⟩) (lb_pre hP hK hD hS hF hZ hN) rfl rfl hl.1 rfl (lv_room (Nat.le_of_ble_eq_true rfl)) d_law_732 hf) hS (hA_sub hD) (fun H locs hP1 hfr hS => ?_)
  have hPm := P_far hPm hfr (fun x h1 h2 => hdis x h2 h1)
  have hD1 : va_D A (oc o co f1 :: wHZ ca a q1 Z1) := D_cons (show A o from hD.2 0 (oc o co f) rfl) (hd1 A (D_tl hD)) (fun z9 => D_hd hD (hsub _ z9))
  refine lv_istore (lv' := [(5, .int k), (4, .int (nI i)), (0, .ref b), (1, .ref (a 0)), (2, .ref (am 0)), (3, .ref o)]) hx hb d_law_735 hl (by decide) rfl (fun ls hl => ?_)
  refine lv_aload_n hx hb d_law_737 rfl (lv_at hl 4 rfl) ?_
  refine lv_aload_n hx hb d_law_738 rfl (lv_at hl 2 rfl) ?_
  refine lv_iload hx hb d_law_739 (lv_at hl 1 rfl) ?_
  refine lv_iconst (v := 1) hx hb d_law_741 (by decide) ?_
  refine lv_iadd hx hb d_law_742 ?_
  refine lv_tope (y := nI (i + 1)) (nI_add (i) (1)) ?_
  refine va_sld hx hb hX hbl hbA hS (i := nI (i + 1)) (vp_in_nI (by omega) (by omega)) d_law_743 ?_
  rw [nI_clamp (show i + 1 < 2 ^ 31 by omega)]
  refine lv_aload_n hx hb d_law_744 rfl (lv_at hl 2 rfl) ?_
  refine lv_iload hx hb d_law_745 (lv_at hl 1 rfl) ?_
  refine lv_iconst (v := 2) hx hb d_law_747 (by decide) ?_
  refine lv_iadd hx hb d_law_748 ?_
  refine lv_tope (y := nI (i + 2)) (nI_add (i) (2)) ?_
  refine va_sld hx hb hX hbl hbA hS (i := nI (i + 2)) (vp_in_nI (by omega) (by omega)) d_law_749 ?_
  rw [nI_clamp (show i + 2 < 2 ^ 31 by omega)]
  refine hw_callN (va_runV (As := [.int (xs (i + 1)), .int (xs (i + 2))]) (rest := []) X m2 (cwV 2 hwA g_Law_Mod_bits rfl rfl rfl (by decide +kernel) ⟨Nat.le_of_ble_eq_true rfl, Nat.le_of_ble_eq_true rfl⟩) (hb_preW hPm hKm hDm (va_recv (q0 := 0) (ci := 2) (q := (R_Mod, F_Mod, 14)) hKm hPm rfl rfl)) rfl rfl hl.1 rfl (lv_room (Nat.le_of_ble_eq_true rfl)) d_law_750 hf) hS (hA_sub hDm) (fun H locs hPm1 hfr hS => ?_)
  have hP1 := P_far hP1 hfr (fun x h1 h2 => hdis x (hcs x h1) h2)
  have hDm1 : va_D A (wMZ cm am k Z1' O1) := va_Das hDm wM_a
  refine lv_istore (lv' := [(6, .int bv), (5, .int k), (4, .int (nI i)), (0, .ref b), (1, .ref (a 0)), (2, .ref (am 0)), (3, .ref o)]) hx hb d_law_753 hl (by decide) rfl (fun ls hl => ?_)
  refine lv_aload_n hx hb d_law_755 rfl (lv_at hl 5 rfl) ?_
  refine hr_V (As := []) (v := some (.int k)) (C := R_Mod) X (c_Mod_thrown l D cm am k Z1'.2.2.1 Z1'.1 Z1'.2.1 Z1'.2.2.2.2.2.1 Z1'.2.2.2.2.1 Z1'.2.2.2.2.2.2 Z1'.2.2.2.1 O1.1 O1.2.1 O1.2.2.1 O1.2.2.2.1 O1.2.2.2.2.1 O1.2.2.2.2.2) (cwV 0 hwA g_Law_Mod_thrown rfl rfl rfl (by decide +kernel) ⟨Nat.le_of_ble_eq_true rfl, Nat.le_of_ble_eq_true rfl⟩) hPm1 hKm (va_recv (q0 := 0) (ci := 2) (q := (R_Mod, F_Mod, 14)) hKm hPm1 rfl rfl) rfl hl.1 rfl (Nat.le_of_ble_eq_true rfl) hf d_law_756 ?_
  refine lv_iload hx hb d_law_759 (lv_at hl 1 rfl) ?_
  refine lvT_icmp_eq (tgt := 766) hx hb d_law_761 (by decide) (rfl) ?_
  refine lv_iload hx hb d_law_766 (lv_at hl 1 rfl) ?_
  refine lv_if_ne (tgt := 783) hx hb d_law_768 (by decide) (fun h1 => ?_) (fun h1 => ?_)
  · refine lv_goto (tgt := 978) hx hb d_law_783 (by decide) ?_
    exact kk ls H locs q1 Z1 f1 k Z1' O1 ⟨hP1, hPm1, hD1, hDm1, fun x h1 h2 => hdis x (hcs x h1) (hA_as wM_a x h2), hS, hsim1⟩ (lv_sub hl [2, 3, 4, 5, 6] rfl)
  · refine lv_aload_n hx hb d_law_771 rfl (lv_at hl 6 rfl) ?_
    refine lv_iconst (v := 0) hx hb d_law_772 (by decide) ?_
    refine va_lald hx hb hK hP1 0 0 rfl rfl (vp_in_nI (n := 0) (by decide) (by decide)) d_law_773 ?_
    refine lv_topv (v' := .long (Int32.toInt64 bv)) (congrArg Value.long (hcmp h1)) ?_
    refine lv_iload hx hb d_law_774 (lv_at hl 0 rfl) ?_
    refine lv_i2l hx hb d_law_776 rfl ?_
    refine lv_lcmpE hx hb d_law_777 ?_
    refine lvT_if_eq (tgt := 783) hx hb d_law_778 (by decide) (rfl) ?_
    refine lv_goto (tgt := 978) hx hb d_law_783 (by decide) ?_
    exact kk ls H locs q1 Z1 f1 k Z1' O1 ⟨hP1, hPm1, hD1, hDm1, fun x h1 h2 => hdis x (hcs x h1) (hA_as wM_a x h2), hS, hsim1⟩ (lv_sub hl [2, 3, 4, 5, 6] rfl)
set_option maxHeartbeats 4000000 in
set_option maxRecDepth 100000 in
theorem lw_next {i : Nat} {ls : Array Slot} {H : Heap} {locs : List Loc} {cells slots : Nat} {q : Nat → Nat} {Z : HS} {f : Nat → Int64} {z : Int32} {Z' : HS} {O : OS} (X : CallFix p m c code 7 s #[Value.ref b] wsA R_Law) (hC : LK l D ca cm sa co A s b L xs) (hi : i + 4 ≤ L) (hL : L ≤ 2048) (hI : LI D ca a cm am o co A s H locs q Z f z Z' O) (hf : cells + 2 ≤ room_1.cells ∧ slots + 12 ≤ room_1.slots) (hl : lv_has ls 7 [(4, .int (nI i)), (0, .ref b), (1, .ref (a 0)), (2, .ref (am 0)), (3, .ref o)])
    (kk : ∀ (ls : Array Slot) (H : Heap) (locs : List Loc) (q : Nat → Nat) (Z : HS) (f : Nat → Int64) (z : Int32) (Z' : HS) (O : OS), LI D ca a cm am o co A s H locs q Z f z Z' O → lv_has ls 7 [(4, .int (nI i)), (0, .ref b), (1, .ref (a 0)), (2, .ref (am 0)), (3, .ref o)] → W p l e room_1 s m #[Value.ref b] below meth c H locs (cells + 2) (slots + 12) Q (F0 m 978 ls [])) : W p l e room_1 s m #[Value.ref b] below meth c H locs cells slots Q (F0 m 786 ls []) := by
  obtain ⟨hlt, hK, hKm, hF, hZ, hN, hX, hbl, hbA⟩ := hC
  obtain ⟨hP, hPm, hD, hDm, hdis, hS, hsim⟩ := hI
  have hx := X.1
  have hb := X.2.1
  have hwA := X.2.2.2.2
  obtain ⟨k, q1, Z1, f1, bv, Z1', O1, m1, hd1, hsub, m2, hsim1, hcmp⟩ := st_next l hlt D ca a q cm am sa o co Z f z Z' O (xs (i + 1)) (xs (i + 2)) hsim
  have hcs := hA_cs (f := f) (f1 := f1) (o := o) (co := co) hsub
  refine lv_aload_n hx hb d_law_786 rfl (lv_at hl 2 rfl) ?_
  refine lv_aload_n hx hb d_law_787 rfl (lv_at hl 1 rfl) ?_
  refine lv_iload hx hb d_law_788 (lv_at hl 0 rfl) ?_
  refine lv_iconst (v := 1) hx hb d_law_790 (by decide) ?_
  refine lv_iadd hx hb d_law_791 ?_
  refine lv_tope (y := nI (i + 1)) (nI_add (i) (1)) ?_
  refine va_sld hx hb hX hbl hbA hS (i := nI (i + 1)) (vp_in_nI (by omega) (by omega)) d_law_792 ?_
  rw [nI_clamp (show i + 1 < 2 ^ 31 by omega)]
  refine lv_aload_n hx hb d_law_793 rfl (lv_at hl 1 rfl) ?_
  refine lv_iload hx hb d_law_794 (lv_at hl 0 rfl) ?_
  refine lv_iconst (v := 2) hx hb d_law_796 (by decide) ?_
  refine lv_iadd hx hb d_law_797 ?_
  refine lv_tope (y := nI (i + 2)) (nI_add (i) (2)) ?_
  refine va_sld hx hb hX hbl hbA hS (i := nI (i + 2)) (vp_in_nI (by omega) (by omega)) d_law_798 ?_
  rw [nI_clamp (show i + 2 < 2 ^ 31 by omega)]
  refine lv_aload_n hx hb d_law_799 rfl (lv_at hl 4 rfl) ?_
  refine hw_callN (vx_runSW (As := [.ref (a 0), .int (xs (i + 1)), .int (xs (i + 2)), .ref o]) (rest := []) X m1 (vx_cwSW 4 hwA g_Law_next rfl rfl rfl (by decide +kernel) ⟨Nat.le_of_ble_eq_true rfl, Nat.le_of_ble_eq_true rfl⟩) (lb_pre hP hK hD hS hF hZ hN) rfl rfl hl.1 rfl (lv_room (Nat.le_of_ble_eq_true rfl)) d_law_800 hf) hS (hA_sub hD) (fun H locs hP1 hfr hS => ?_)
  have hPm := P_far hPm hfr (fun x h1 h2 => hdis x h2 h1)
  have hD1 : va_D A (oc o co f1 :: wHZ ca a q1 Z1) := D_cons (show A o from hD.2 0 (oc o co f) rfl) (hd1 A (D_tl hD)) (fun z9 => D_hd hD (hsub _ z9))
  refine lv_istore (lv' := [(5, .int k), (4, .int (nI i)), (0, .ref b), (1, .ref (a 0)), (2, .ref (am 0)), (3, .ref o)]) hx hb d_law_803 hl (by decide) rfl (fun ls hl => ?_)
  refine lv_aload_n hx hb d_law_805 rfl (lv_at hl 4 rfl) ?_
  refine lv_aload_n hx hb d_law_806 rfl (lv_at hl 2 rfl) ?_
  refine lv_iload hx hb d_law_807 (lv_at hl 1 rfl) ?_
  refine lv_iconst (v := 1) hx hb d_law_809 (by decide) ?_
  refine lv_iadd hx hb d_law_810 ?_
  refine lv_tope (y := nI (i + 1)) (nI_add (i) (1)) ?_
  refine va_sld hx hb hX hbl hbA hS (i := nI (i + 1)) (vp_in_nI (by omega) (by omega)) d_law_811 ?_
  rw [nI_clamp (show i + 1 < 2 ^ 31 by omega)]
  refine lv_aload_n hx hb d_law_812 rfl (lv_at hl 2 rfl) ?_
  refine lv_iload hx hb d_law_813 (lv_at hl 1 rfl) ?_
  refine lv_iconst (v := 2) hx hb d_law_815 (by decide) ?_
  refine lv_iadd hx hb d_law_816 ?_
  refine lv_tope (y := nI (i + 2)) (nI_add (i) (2)) ?_
  refine va_sld hx hb hX hbl hbA hS (i := nI (i + 2)) (vp_in_nI (by omega) (by omega)) d_law_817 ?_
  rw [nI_clamp (show i + 2 < 2 ^ 31 by omega)]
  refine hw_callN (va_runV (As := [.int (xs (i + 1)), .int (xs (i + 2))]) (rest := []) X m2 (cwV 2 hwA g_Law_Mod_next rfl rfl rfl (by decide +kernel) ⟨Nat.le_of_ble_eq_true rfl, Nat.le_of_ble_eq_true rfl⟩) (hb_preW hPm hKm hDm (va_recv (q0 := 0) (ci := 2) (q := (R_Mod, F_Mod, 14)) hKm hPm rfl rfl)) rfl rfl hl.1 rfl (lv_room (Nat.le_of_ble_eq_true rfl)) d_law_818 hf) hS (hA_sub hDm) (fun H locs hPm1 hfr hS => ?_)
  have hP1 := P_far hP1 hfr (fun x h1 h2 => hdis x (hcs x h1) h2)
  have hDm1 : va_D A (wMZ cm am k Z1' O1) := va_Das hDm wM_a
  refine lv_istore (lv' := [(6, .int bv), (5, .int k), (4, .int (nI i)), (0, .ref b), (1, .ref (a 0)), (2, .ref (am 0)), (3, .ref o)]) hx hb d_law_821 hl (by decide) rfl (fun ls hl => ?_)
  refine lv_aload_n hx hb d_law_823 rfl (lv_at hl 5 rfl) ?_
  refine hr_V (As := []) (v := some (.int k)) (C := R_Mod) X (c_Mod_thrown l D cm am k Z1'.2.2.1 Z1'.1 Z1'.2.1 Z1'.2.2.2.2.2.1 Z1'.2.2.2.2.1 Z1'.2.2.2.2.2.2 Z1'.2.2.2.1 O1.1 O1.2.1 O1.2.2.1 O1.2.2.2.1 O1.2.2.2.2.1 O1.2.2.2.2.2) (cwV 0 hwA g_Law_Mod_thrown rfl rfl rfl (by decide +kernel) ⟨Nat.le_of_ble_eq_true rfl, Nat.le_of_ble_eq_true rfl⟩) hPm1 hKm (va_recv (q0 := 0) (ci := 2) (q := (R_Mod, F_Mod, 14)) hKm hPm1 rfl rfl) rfl hl.1 rfl (Nat.le_of_ble_eq_true rfl) hf d_law_824 ?_
  refine lv_iload hx hb d_law_827 (lv_at hl 1 rfl) ?_
  refine lvT_icmp_eq (tgt := 834) hx hb d_law_829 (by decide) (rfl) ?_
  refine lv_iload hx hb d_law_834 (lv_at hl 1 rfl) ?_
  refine lv_if_ne (tgt := 851) hx hb d_law_836 (by decide) (fun h1 => ?_) (fun h1 => ?_)
  · refine lv_goto (tgt := 978) hx hb d_law_851 (by decide) ?_
    exact kk ls H locs q1 Z1 f1 k Z1' O1 ⟨hP1, hPm1, hD1, hDm1, fun x h1 h2 => hdis x (hcs x h1) (hA_as wM_a x h2), hS, hsim1⟩ (lv_sub hl [2, 3, 4, 5, 6] rfl)
  · refine lv_aload_n hx hb d_law_839 rfl (lv_at hl 6 rfl) ?_
    refine lv_iconst (v := 0) hx hb d_law_840 (by decide) ?_
    refine va_lald hx hb hK hP1 0 0 rfl rfl (vp_in_nI (n := 0) (by decide) (by decide)) d_law_841 ?_
    refine lv_topv (v' := .long (Int32.toInt64 bv)) (congrArg Value.long (hcmp h1)) ?_
    refine lv_iload hx hb d_law_842 (lv_at hl 0 rfl) ?_
    refine lv_i2l hx hb d_law_844 rfl ?_
    refine lv_lcmpE hx hb d_law_845 ?_
    refine lvT_if_eq (tgt := 851) hx hb d_law_846 (by decide) (rfl) ?_
    refine lv_goto (tgt := 978) hx hb d_law_851 (by decide) ?_
    exact kk ls H locs q1 Z1 f1 k Z1' O1 ⟨hP1, hPm1, hD1, hDm1, fun x h1 h2 => hdis x (hcs x h1) (hA_as wM_a x h2), hS, hsim1⟩ (lv_sub hl [2, 3, 4, 5, 6] rfl)
set_option maxHeartbeats 4000000 in
set_option maxRecDepth 100000 in
theorem lw_key {i : Nat} {ls : Array Slot} {H : Heap} {locs : List Loc} {cells slots : Nat} {q : Nat → Nat} {Z : HS} {f : Nat → Int64} {z : Int32} {Z' : HS} {O : OS} (X : CallFix p m c code 7 s #[Value.ref b] wsA R_Law) (hC : LK l D ca cm sa co A s b L xs) (hi : i + 4 ≤ L) (hL : L ≤ 2048) (hI : LI D ca a cm am o co A s H locs q Z f z Z' O) (hf : cells + 3 ≤ room_1.cells ∧ slots + 18 ≤ room_1.slots) (hl : lv_has ls 7 [(4, .int (nI i)), (0, .ref b), (1, .ref (a 0)), (2, .ref (am 0)), (3, .ref o)])
    (kk : ∀ (ls : Array Slot) (H : Heap) (locs : List Loc) (q : Nat → Nat) (Z : HS) (f : Nat → Int64) (z : Int32) (Z' : HS) (O : OS), LI D ca a cm am o co A s H locs q Z f z Z' O → lv_has ls 7 [(4, .int (nI i)), (0, .ref b), (1, .ref (a 0)), (2, .ref (am 0)), (3, .ref o)] → W p l e room_1 s m #[Value.ref b] below meth c H locs (cells + 3) (slots + 18) Q (F0 m 978 ls [])) : W p l e room_1 s m #[Value.ref b] below meth c H locs cells slots Q (F0 m 854 ls []) := by
  obtain ⟨hlt, hK, hKm, hF, hZ, hN, hX, hbl, hbA⟩ := hC
  obtain ⟨hP, hPm, hD, hDm, hdis, hS, hsim⟩ := hI
  have hx := X.1
  have hb := X.2.1
  have hwA := X.2.2.2.2
  obtain ⟨k, q1, Z1, f1, bv, Z1', O1, m1, hd1, hsub, m2, hsim1, hcmp⟩ := st_key l hlt D ca a q cm am sa o co Z f z Z' O (xs (i + 1)) (xs (i + 2)) hsim
  have hcs := hA_cs (f := f) (f1 := f1) (o := o) (co := co) hsub
  refine lv_aload_n hx hb d_law_854 rfl (lv_at hl 2 rfl) ?_
  refine lv_aload_n hx hb d_law_855 rfl (lv_at hl 1 rfl) ?_
  refine lv_iload hx hb d_law_856 (lv_at hl 0 rfl) ?_
  refine lv_iconst (v := 1) hx hb d_law_858 (by decide) ?_
  refine lv_iadd hx hb d_law_859 ?_
  refine lv_tope (y := nI (i + 1)) (nI_add (i) (1)) ?_
  refine va_sld hx hb hX hbl hbA hS (i := nI (i + 1)) (vp_in_nI (by omega) (by omega)) d_law_860 ?_
  rw [nI_clamp (show i + 1 < 2 ^ 31 by omega)]
  refine lv_aload_n hx hb d_law_861 rfl (lv_at hl 1 rfl) ?_
  refine lv_iload hx hb d_law_862 (lv_at hl 0 rfl) ?_
  refine lv_iconst (v := 2) hx hb d_law_864 (by decide) ?_
  refine lv_iadd hx hb d_law_865 ?_
  refine lv_tope (y := nI (i + 2)) (nI_add (i) (2)) ?_
  refine va_sld hx hb hX hbl hbA hS (i := nI (i + 2)) (vp_in_nI (by omega) (by omega)) d_law_866 ?_
  rw [nI_clamp (show i + 2 < 2 ^ 31 by omega)]
  refine lv_aload_n hx hb d_law_867 rfl (lv_at hl 4 rfl) ?_
  refine hw_callN (vx_runSW (As := [.ref (a 0), .int (xs (i + 1)), .int (xs (i + 2)), .ref o]) (rest := []) X m1 (vx_cwSW 4 hwA g_Law_key rfl rfl rfl (by decide +kernel) ⟨Nat.le_of_ble_eq_true rfl, Nat.le_of_ble_eq_true rfl⟩) (lb_pre hP hK hD hS hF hZ hN) rfl rfl hl.1 rfl (lv_room (Nat.le_of_ble_eq_true rfl)) d_law_868 hf) hS (hA_sub hD) (fun H locs hP1 hfr hS => ?_)
  have hPm := P_far hPm hfr (fun x h1 h2 => hdis x h2 h1)
  have hD1 : va_D A (oc o co f1 :: wHZ ca a q1 Z1) := D_cons (show A o from hD.2 0 (oc o co f) rfl) (hd1 A (D_tl hD)) (fun z9 => D_hd hD (hsub _ z9))
  refine lv_istore (lv' := [(5, .int k), (4, .int (nI i)), (0, .ref b), (1, .ref (a 0)), (2, .ref (am 0)), (3, .ref o)]) hx hb d_law_871 hl (by decide) rfl (fun ls hl => ?_)
  refine lv_aload_n hx hb d_law_873 rfl (lv_at hl 4 rfl) ?_
  refine lv_aload_n hx hb d_law_874 rfl (lv_at hl 2 rfl) ?_
  refine lv_iload hx hb d_law_875 (lv_at hl 1 rfl) ?_
  refine lv_iconst (v := 1) hx hb d_law_877 (by decide) ?_
  refine lv_iadd hx hb d_law_878 ?_
  refine lv_tope (y := nI (i + 1)) (nI_add (i) (1)) ?_
  refine va_sld hx hb hX hbl hbA hS (i := nI (i + 1)) (vp_in_nI (by omega) (by omega)) d_law_879 ?_
  rw [nI_clamp (show i + 1 < 2 ^ 31 by omega)]
  refine lv_aload_n hx hb d_law_880 rfl (lv_at hl 2 rfl) ?_
  refine lv_iload hx hb d_law_881 (lv_at hl 1 rfl) ?_
  refine lv_iconst (v := 2) hx hb d_law_883 (by decide) ?_
  refine lv_iadd hx hb d_law_884 ?_
  refine lv_tope (y := nI (i + 2)) (nI_add (i) (2)) ?_
  refine va_sld hx hb hX hbl hbA hS (i := nI (i + 2)) (vp_in_nI (by omega) (by omega)) d_law_885 ?_
  rw [nI_clamp (show i + 2 < 2 ^ 31 by omega)]
  refine hw_callN (va_runV (As := [.int (xs (i + 1)), .int (xs (i + 2))]) (rest := []) X m2 (cwV 2 hwA g_Law_Mod_key rfl rfl rfl (by decide +kernel) ⟨Nat.le_of_ble_eq_true rfl, Nat.le_of_ble_eq_true rfl⟩) (hb_preW hPm hKm hDm (va_recv (q0 := 0) (ci := 2) (q := (R_Mod, F_Mod, 14)) hKm hPm rfl rfl)) rfl rfl hl.1 rfl (lv_room (Nat.le_of_ble_eq_true rfl)) d_law_886 hf) hS (hA_sub hDm) (fun H locs hPm1 hfr hS => ?_)
  have hP1 := P_far hP1 hfr (fun x h1 h2 => hdis x (hcs x h1) h2)
  have hDm1 : va_D A (wMZ cm am k Z1' O1) := va_Das hDm wM_a
  refine lv_istore (lv' := [(6, .int bv), (5, .int k), (4, .int (nI i)), (0, .ref b), (1, .ref (a 0)), (2, .ref (am 0)), (3, .ref o)]) hx hb d_law_889 hl (by decide) rfl (fun ls hl => ?_)
  refine lv_aload_n hx hb d_law_891 rfl (lv_at hl 5 rfl) ?_
  refine hr_V (As := []) (v := some (.int k)) (C := R_Mod) X (c_Mod_thrown l D cm am k Z1'.2.2.1 Z1'.1 Z1'.2.1 Z1'.2.2.2.2.2.1 Z1'.2.2.2.2.1 Z1'.2.2.2.2.2.2 Z1'.2.2.2.1 O1.1 O1.2.1 O1.2.2.1 O1.2.2.2.1 O1.2.2.2.2.1 O1.2.2.2.2.2) (cwV 0 hwA g_Law_Mod_thrown rfl rfl rfl (by decide +kernel) ⟨Nat.le_of_ble_eq_true rfl, Nat.le_of_ble_eq_true rfl⟩) hPm1 hKm (va_recv (q0 := 0) (ci := 2) (q := (R_Mod, F_Mod, 14)) hKm hPm1 rfl rfl) rfl hl.1 rfl (Nat.le_of_ble_eq_true rfl) hf d_law_892 ?_
  refine lv_iload hx hb d_law_895 (lv_at hl 1 rfl) ?_
  refine lvT_icmp_eq (tgt := 902) hx hb d_law_897 (by decide) (rfl) ?_
  refine lv_iload hx hb d_law_902 (lv_at hl 1 rfl) ?_
  refine lv_if_ne (tgt := 919) hx hb d_law_904 (by decide) (fun h1 => ?_) (fun h1 => ?_)
  · refine lv_goto (tgt := 978) hx hb d_law_919 (by decide) ?_
    exact kk ls H locs q1 Z1 f1 k Z1' O1 ⟨hP1, hPm1, hD1, hDm1, fun x h1 h2 => hdis x (hcs x h1) (hA_as wM_a x h2), hS, hsim1⟩ (lv_sub hl [2, 3, 4, 5, 6] rfl)
  · refine lv_aload_n hx hb d_law_907 rfl (lv_at hl 6 rfl) ?_
    refine lv_iconst (v := 0) hx hb d_law_908 (by decide) ?_
    refine va_lald hx hb hK hP1 0 0 rfl rfl (vp_in_nI (n := 0) (by decide) (by decide)) d_law_909 ?_
    refine lv_topv (v' := .long (Int32.toInt64 bv)) (congrArg Value.long (hcmp h1)) ?_
    refine lv_iload hx hb d_law_910 (lv_at hl 0 rfl) ?_
    refine lv_i2l hx hb d_law_912 rfl ?_
    refine lv_lcmpE hx hb d_law_913 ?_
    refine lvT_if_eq (tgt := 919) hx hb d_law_914 (by decide) (rfl) ?_
    refine lv_goto (tgt := 978) hx hb d_law_919 (by decide) ?_
    exact kk ls H locs q1 Z1 f1 k Z1' O1 ⟨hP1, hPm1, hD1, hDm1, fun x h1 h2 => hdis x (hcs x h1) (hA_as wM_a x h2), hS, hsim1⟩ (lv_sub hl [2, 3, 4, 5, 6] rfl)
set_option maxHeartbeats 4000000 in
set_option maxRecDepth 100000 in
theorem lw_count {i : Nat} {ls : Array Slot} {H : Heap} {locs : List Loc} {cells slots : Nat} {q : Nat → Nat} {Z : HS} {f : Nat → Int64} {z : Int32} {Z' : HS} {O : OS} (X : CallFix p m c code 7 s #[Value.ref b] wsA R_Law) (hC : LK l D ca cm sa co A s b L xs) (hi : i + 4 ≤ L) (hL : L ≤ 2048) (hI : LI D ca a cm am o co A s H locs q Z f z Z' O) (hf : cells + 1 ≤ room_1.cells ∧ slots + 6 ≤ room_1.slots) (hl : lv_has ls 7 [(4, .int (nI i)), (0, .ref b), (1, .ref (a 0)), (2, .ref (am 0)), (3, .ref o)])
    (kk : ∀ (ls : Array Slot) (H : Heap) (locs : List Loc) (q : Nat → Nat) (Z : HS) (f : Nat → Int64) (z : Int32) (Z' : HS) (O : OS), LI D ca a cm am o co A s H locs q Z f z Z' O → lv_has ls 7 [(4, .int (nI i)), (0, .ref b), (1, .ref (a 0)), (2, .ref (am 0)), (3, .ref o)] → W p l e room_1 s m #[Value.ref b] below meth c H locs (cells + 1) (slots + 6) Q (F0 m 978 ls [])) : W p l e room_1 s m #[Value.ref b] below meth c H locs cells slots Q (F0 m 922 ls []) := by
  obtain ⟨hlt, hK, hKm, hF, hZ, hN, hX, hbl, hbA⟩ := hC
  obtain ⟨hP, hPm, hD, hDm, hdis, hS, hsim⟩ := hI
  have hx := X.1
  have hb := X.2.1
  have hwA := X.2.2.2.2
  obtain ⟨k, q1, Z1, f1, bv, Z1', O1, m1, hd1, hsub, m2, hsim1, hcmp⟩ := st_count l hlt D ca a q cm am sa o co Z f z Z' O (xs (i + 1)) hsim
  have hcs := hA_cs (f := f) (f1 := f1) (o := o) (co := co) hsub
  refine lv_aload_n hx hb d_law_922 rfl (lv_at hl 2 rfl) ?_
  refine lv_aload_n hx hb d_law_923 rfl (lv_at hl 1 rfl) ?_
  refine lv_iload hx hb d_law_924 (lv_at hl 0 rfl) ?_
  refine lv_iconst (v := 1) hx hb d_law_926 (by decide) ?_
  refine lv_iadd hx hb d_law_927 ?_
  refine lv_tope (y := nI (i + 1)) (nI_add (i) (1)) ?_
  refine va_sld hx hb hX hbl hbA hS (i := nI (i + 1)) (vp_in_nI (by omega) (by omega)) d_law_928 ?_
  rw [nI_clamp (show i + 1 < 2 ^ 31 by omega)]
  refine lv_aload_n hx hb d_law_929 rfl (lv_at hl 4 rfl) ?_
  refine hw_callN (vx_runSW (As := [.ref (a 0), .int (xs (i + 1)), .ref o]) (rest := []) X m1 (vx_cwSW 3 hwA g_Law_count rfl rfl rfl (by decide +kernel) ⟨Nat.le_of_ble_eq_true rfl, Nat.le_of_ble_eq_true rfl⟩) (lb_pre hP hK hD hS hF hZ hN) rfl rfl hl.1 rfl (lv_room (Nat.le_of_ble_eq_true rfl)) d_law_930 hf) hS (hA_sub hD) (fun H locs hP1 hfr hS => ?_)
  have hPm := P_far hPm hfr (fun x h1 h2 => hdis x h2 h1)
  have hD1 : va_D A (oc o co f1 :: wHZ ca a q1 Z1) := D_cons (show A o from hD.2 0 (oc o co f) rfl) (hd1 A (D_tl hD)) (fun z9 => D_hd hD (hsub _ z9))
  refine lv_istore (lv' := [(5, .int k), (4, .int (nI i)), (0, .ref b), (1, .ref (a 0)), (2, .ref (am 0)), (3, .ref o)]) hx hb d_law_933 hl (by decide) rfl (fun ls hl => ?_)
  refine lv_aload_n hx hb d_law_935 rfl (lv_at hl 4 rfl) ?_
  refine lv_aload_n hx hb d_law_936 rfl (lv_at hl 2 rfl) ?_
  refine lv_iload hx hb d_law_937 (lv_at hl 1 rfl) ?_
  refine lv_iconst (v := 1) hx hb d_law_939 (by decide) ?_
  refine lv_iadd hx hb d_law_940 ?_
  refine lv_tope (y := nI (i + 1)) (nI_add (i) (1)) ?_
  refine va_sld hx hb hX hbl hbA hS (i := nI (i + 1)) (vp_in_nI (by omega) (by omega)) d_law_941 ?_
  rw [nI_clamp (show i + 1 < 2 ^ 31 by omega)]
  refine hw_callN (va_runV (As := [.int (xs (i + 1))]) (rest := []) X m2 (cwV 1 hwA g_Law_Mod_count rfl rfl rfl (by decide +kernel) ⟨Nat.le_of_ble_eq_true rfl, Nat.le_of_ble_eq_true rfl⟩) (hb_preW hPm hKm hDm (va_recv (q0 := 0) (ci := 2) (q := (R_Mod, F_Mod, 14)) hKm hPm rfl rfl)) rfl rfl hl.1 rfl (lv_room (Nat.le_of_ble_eq_true rfl)) d_law_942 hf) hS (hA_sub hDm) (fun H locs hPm1 hfr hS => ?_)
  have hP1 := P_far hP1 hfr (fun x h1 h2 => hdis x (hcs x h1) h2)
  have hDm1 : va_D A (wMZ cm am k Z1' O1) := va_Das hDm wM_a
  refine lv_istore (lv' := [(6, .int bv), (5, .int k), (4, .int (nI i)), (0, .ref b), (1, .ref (a 0)), (2, .ref (am 0)), (3, .ref o)]) hx hb d_law_945 hl (by decide) rfl (fun ls hl => ?_)
  refine lv_aload_n hx hb d_law_947 rfl (lv_at hl 5 rfl) ?_
  refine hr_V (As := []) (v := some (.int k)) (C := R_Mod) X (c_Mod_thrown l D cm am k Z1'.2.2.1 Z1'.1 Z1'.2.1 Z1'.2.2.2.2.2.1 Z1'.2.2.2.2.1 Z1'.2.2.2.2.2.2 Z1'.2.2.2.1 O1.1 O1.2.1 O1.2.2.1 O1.2.2.2.1 O1.2.2.2.2.1 O1.2.2.2.2.2) (cwV 0 hwA g_Law_Mod_thrown rfl rfl rfl (by decide +kernel) ⟨Nat.le_of_ble_eq_true rfl, Nat.le_of_ble_eq_true rfl⟩) hPm1 hKm (va_recv (q0 := 0) (ci := 2) (q := (R_Mod, F_Mod, 14)) hKm hPm1 rfl rfl) rfl hl.1 rfl (Nat.le_of_ble_eq_true rfl) hf d_law_948 ?_
  refine lv_iload hx hb d_law_951 (lv_at hl 1 rfl) ?_
  refine lvT_icmp_eq (tgt := 958) hx hb d_law_953 (by decide) (rfl) ?_
  refine lv_iload hx hb d_law_958 (lv_at hl 1 rfl) ?_
  refine lv_if_ne (tgt := 975) hx hb d_law_960 (by decide) (fun h1 => ?_) (fun h1 => ?_)
  · refine lv_goto (tgt := 978) hx hb d_law_975 (by decide) ?_
    exact kk ls H locs q1 Z1 f1 k Z1' O1 ⟨hP1, hPm1, hD1, hDm1, fun x h1 h2 => hdis x (hcs x h1) (hA_as wM_a x h2), hS, hsim1⟩ (lv_sub hl [2, 3, 4, 5, 6] rfl)
  · refine lv_aload_n hx hb d_law_963 rfl (lv_at hl 6 rfl) ?_
    refine lv_iconst (v := 0) hx hb d_law_964 (by decide) ?_
    refine va_lald hx hb hK hP1 0 0 rfl rfl (vp_in_nI (n := 0) (by decide) (by decide)) d_law_965 ?_
    refine lv_topv (v' := .long (Int32.toInt64 bv)) (congrArg Value.long (hcmp h1)) ?_
    refine lv_iload hx hb d_law_966 (lv_at hl 0 rfl) ?_
    refine lv_i2l hx hb d_law_968 rfl ?_
    refine lv_lcmpE hx hb d_law_969 ?_
    refine lvT_if_eq (tgt := 975) hx hb d_law_970 (by decide) (rfl) ?_
    refine lv_goto (tgt := 978) hx hb d_law_975 (by decide) ?_
    exact kk ls H locs q1 Z1 f1 k Z1' O1 ⟨hP1, hPm1, hD1, hDm1, fun x h1 h2 => hdis x (hcs x h1) (hA_as wM_a x h2), hS, hsim1⟩ (lv_sub hl [2, 3, 4, 5, 6] rfl)
end HLC
