theorem cpL_at {f g : IT} {o n i : Nat} (h : i < n) : cpL f g o n i = g (o + i) := if_pos h
theorem cpLB_at {f g : BT} {o n i : Nat} (h : i < n) : cpLB f g o n i = g (o + i) := if_pos h
/-- what is held behind the first i places: how many, keys, values -/
def hld (F : BT) (K V HK HV : IT) (o c : Nat) : Nat → Nat × IT × IT
  | 0 => (0, HK, HV)
  | i + 1 => if i < c ∧ F (o + i) = true then ((hld F K V HK HV o c i).1 + 1, upd (hld F K V HK HV o c i).2.1 (hld F K V HK HV o c i).1 (K (o + i)), upd (hld F K V HK HV o c i).2.2 (hld F K V HK HV o c i).1 (V (o + i))) else hld F K V HK HV o c i
theorem hld_t {F : BT} {K V HK HV : IT} {o c i : Nat} (h : i < c ∧ F (o + i) = true) : hld F K V HK HV o c (i + 1) = ((hld F K V HK HV o c i).1 + 1, upd (hld F K V HK HV o c i).2.1 (hld F K V HK HV o c i).1 (K (o + i)), upd (hld F K V HK HV o c i).2.2 (hld F K V HK HV o c i).1 (V (o + i))) := if_pos h
theorem hld_f {F : BT} {K V HK HV : IT} {o c i : Nat} (h : ¬ (i < c ∧ F (o + i) = true)) : hld F K V HK HV o c (i + 1) = hld F K V HK HV o c i := if_neg h
theorem hld_le {F : BT} {K V HK HV : IT} {o c : Nat} : ∀ i, (hld F K V HK HV o c i).1 ≤ i := by
  intro i
  induction i with
  | zero => exact Nat.le_refl _
  | succ i ih =>
    by_cases h : i < c ∧ F (o + i) = true
    · rw [hld_t h]
      show (hld F K V HK HV o c i).1 + 1 ≤ i + 1
      omega
    · rw [hld_f h]
      omega
def mxE (B Q : Nat → Nat) : Nat → Nat
  | 0 => 0
  | i + 1 => max (mxE B Q i) (B i + Q i)
theorem mxE_3 (B Q : Nat → Nat) : mxE B Q 3 = lastE B Q := rfl
theorem mxE_bd {B Q : Nat → Nat} (h : ∀ i, i < 3 → B i + Q i ≤ 256) : ∀ i, i ≤ 3 → mxE B Q i ≤ 256 := by
  intro i
  induction i with
  | zero =>
    intro _
    exact Nat.zero_le _
  | succ i ih =>
    intro hi
    exact Nat.max_le.mpr ⟨ih (by omega), h i (by omega)⟩
/-- the bases behind a push, where x, y, z is the order of the parts -/
def pB (B Q : Nat → Nat) (x y z : Nat) : Nat → Nat := va_up (va_up (va_up B x 0) y (0 + Q x)) z (0 + Q x + Q y)
def Ord (B Q : Nat → Nat) (x y z : Nat) : Prop := x < 3 ∧ y < 3 ∧ z < 3 ∧ x ≠ y ∧ x ≠ z ∧ y ≠ z ∧ 0 < Q x ∧ 0 < Q y ∧ 0 < Q z ∧ B x + Q x ≤ B y ∧ B y + Q y ≤ B z
theorem Ord_1 {B Q : Nat → Nat} {x y z : Nat} (h : Ord B Q x y z) : lowS B 0 3 = some x := by
  obtain ⟨hx, hy, hz, hxy, hxz, hyz, px, py, pz, h1, h2⟩ := h
  exact lowS_is hx (Nat.zero_le _) (fun i hi hne _ => by
    rcases (show i = y ∨ i = z by omega) with rfl | rfl <;> omega)
theorem Ord_2 {B Q : Nat → Nat} {x y z : Nat} (h : Ord B Q x y z) : lowS (va_up B x 0) (B x + Q x) 3 = some y := by
  obtain ⟨hx, hy, hz, hxy, hxz, hyz, px, py, pz, h1, h2⟩ := h
  exact lowS_is hy (by rw [va_up_ne _ _ (Ne.symm hxy)]; omega) (fun i hi hne hf => by
    rw [va_up_ne _ _ (Ne.symm hxy)]
    rcases (show i = x ∨ i = z by omega) with rfl | rfl
    · rw [va_up_self] at hf; omega
    · rw [va_up_ne _ _ (Ne.symm hxz)]; omega)
theorem Ord_3 {B Q : Nat → Nat} {x y z : Nat} (h : Ord B Q x y z) : lowS (va_up (va_up B x 0) y (0 + Q x)) (B y + Q y) 3 = some z := by
  obtain ⟨hx, hy, hz, hxy, hxz, hyz, px, py, pz, h1, h2⟩ := h
  exact lowS_is hz (by rw [va_up_ne _ _ (Ne.symm hyz), va_up_ne _ _ (Ne.symm hxz)]; omega) (fun i hi hne hf => by
    rcases (show i = x ∨ i = y by omega) with rfl | rfl
    · rw [va_up_ne _ _ hxy, va_up_self] at hf; omega
    · rw [va_up_self] at hf; omega)
theorem DJ_Ord {B Q : Nat → Nat} (hp : ∀ i, i < 3 → 0 < Q i) (hd : DJ B Q) : ∃ x y z, Ord B Q x y z := by
  have p0 := hp 0 (by decide)
  have p1 := hp 1 (by decide)
  have p2 := hp 2 (by decide)
  have d01 := hd 0 1 (by decide) (by decide) (by decide)
  have d02 := hd 0 2 (by decide) (by decide) (by decide)
  have d12 := hd 1 2 (by decide) (by decide) (by decide)
  have mk : ∀ x y z : Nat, x < 3 → y < 3 → z < 3 → x ≠ y → x ≠ z → y ≠ z → B x + Q x ≤ B y → B y + Q y ≤ B z → ∃ x y z, Ord B Q x y z := fun x y z a b c d e f g h => ⟨x, y, z, a, b, c, d, e, f, hp x a, hp y b, hp z c, g, h⟩
  by_cases a : B 0 + Q 0 ≤ B 1
  · by_cases b : B 1 + Q 1 ≤ B 2
    · exact mk 0 1 2 (by decide) (by decide) (by decide) (by decide) (by decide) (by decide) a b
    · by_cases c : B 0 + Q 0 ≤ B 2
      · exact mk 0 2 1 (by decide) (by decide) (by decide) (by decide) (by decide) (by decide) c (by omega)
      · exact mk 2 0 1 (by decide) (by decide) (by decide) (by decide) (by decide) (by decide) (by omega) a
  · by_cases b : B 0 + Q 0 ≤ B 2
    · exact mk 1 0 2 (by decide) (by decide) (by decide) (by decide) (by decide) (by decide) (by omega) b
    · by_cases c : B 1 + Q 1 ≤ B 2
      · exact mk 1 2 0 (by decide) (by decide) (by decide) (by decide) (by decide) (by decide) c (by omega)
      · exact mk 2 1 0 (by decide) (by decide) (by decide) (by decide) (by decide) (by decide) (by omega) (by omega)
theorem Ord_psh {B Q : Nat → Nat} {x y z : Nat} {K V : IT} {T : BT} (hp : ∀ i, i < 3 → 0 < Q i) (h : Ord B Q x y z) : (psh Q 3 0 (K, V, T, B)).2.2.2 = pB B Q x y z := by
  obtain ⟨hx, hy, hz, hxy, hxz, hyz, px, py, pz, h1, h2⟩ := h
  exact psh_ord x y z hx hy hz hxy hxz hyz hp h1 h2
set_option maxHeartbeats 4000000 in
set_option maxRecDepth 100000 in
/-- hold -/
theorem c_Mod_hold (l : Launch) (D : va_G) (ca a : Nat → Nat) (z : Int32) (F : BT) (K V : IT) (P B : Nat → Nat) (S C : IT) (N : Nat) (HK HV : IT) (OF : BT) (OK OV : IT) (m : Nat) (hm : m < 3) (hp9 : P m ≤ 128)  : Met l y_Mod_hold w_Mod_hold (rmD 0 0 0) (va_Pc [.ref (a 0), .int (nI m)] (hb_W D mCl (wM ca a z F K V P B S C N HK HV OF OK OV) (tyM ca))) (hq_W (none) D mCl (wM ca a z F K V P B S C (hld F K V HK HV (128 * m) (P m) 128).1 (hld F K V HK HV (128 * m) (P m) 128).2.1 (hld F K V HK HV (128 * m) (P m) 128).2.2 (cpLB OF F (128 * m) 128) (cpL OK K (128 * m) 128) (cpL OV V (128 * m) 128)) (hA (wM ca a z F K V P B S C N HK HV OF OK OV))) 0 0 (hA (wM ca a z F K V P B S C N HK HV OF OK OV)) := by
  refine Met.ofW (cc := b_Mod_hold) (maxL := 3) (ret := none) (by decide) rfl ?_
  intro p e s m0 args below meth c0 s₁ B0 hml hv
  obtain ⟨rfl, hP, hK, hD0⟩ := hv
  have hx := B0.exec
  have hb := B0.bytes
  have hr := B0.returns
  have hts := atoms_spec (ws := w_Mod_hold) B0.pre
  have hown : s.vm.findClass R_Mod = some m0.cls := findClass_of_methodNamed B0.named
  have hlocks := B0.notSynchronized
  have hwA : ∀ w ∈ wsA, w.before ([.ref (a 0), .int (nI m)] : List Value).toArray s = true := fun w h => hts w (List.mem_cons_of_mem _ h)
  have X : CallFix p m0 c0 b_Mod_hold 3 s ([.ref (a 0), .int (nI m)] : List Value).toArray wsA R_Mod := ⟨hx, hb, hml, hown, hwA⟩
  have hD := hA_D hD0
  have hS : va_S (hA (wM ca a z F K V P B S C N HK HV OF OK OV)) s.heap s.heap [] := va_S.rf
  have hl := lv_entry ([.ref (a 0), .int (nI m)]) (n := 3) (Nat.le_of_ble_eq_true rfl)
  rw [lg_entry_eq]
  generalize (lg_sl ([.ref (a 0), .int (nI m)]) ++ List.replicate (3 - (lg_sl ([.ref (a 0), .int (nI m)])).length) Slot.unset).toArray = ls at hl ⊢
  have hl : lv_has ls 3 [(0, .ref (a 0)), (1, .int (nI m))] := hl
  have loop : ∀ (n i : Nat) (ls : Array Slot) (H : Heap) (locs : List Loc), i + n = 128 → va_P D mCl (wM ca a z F K V P B S C (hld F K V HK HV (128 * m) (P m) i).1 (hld F K V HK HV (128 * m) (P m) i).2.1 (hld F K V HK HV (128 * m) (P m) i).2.2 (cpLB OF F (128 * m) i) (cpL OK K (128 * m) i) (cpL OV V (128 * m) i)) H → va_D (hA (wM ca a z F K V P B S C N HK HV OF OK OV)) (wM ca a z F K V P B S C (hld F K V HK HV (128 * m) (P m) i).1 (hld F K V HK HV (128 * m) (P m) i).2.1 (hld F K V HK HV (128 * m) (P m) i).2.2 (cpLB OF F (128 * m) i) (cpL OK K (128 * m) i) (cpL OV V (128 * m) i)) → va_S (hA (wM ca a z F K V P B S C N HK HV OF OK OV)) s.heap H locs → lv_has ls 3 [(2, .int (nI i)), (0, .ref (a 0)), (1, .int (nI m))] → W p l e (headSpec w_Mod_hold (rmD 0 0 0)).room s m0 ([.ref (a 0), .int (nI m)] : List Value).toArray below meth c0 H locs 0 0 (MQ below (hq_W (none) D mCl (wM ca a z F K V P B S C (hld F K V HK HV (128 * m) (P m) 128).1 (hld F K V HK HV (128 * m) (P m) 128).2.1 (hld F K V HK HV (128 * m) (P m) 128).2.2 (cpLB OF F (128 * m) 128) (cpL OK K (128 * m) 128) (cpL OV V (128 * m) 128)) (hA (wM ca a z F K V P B S C N HK HV OF OK OV))) ([.ref (a 0), .int (nI m)] : List Value).toArray s 0 0 (hA (wM ca a z F K V P B S C N HK HV OF OK OV))) (F0 m0 7 ls []) := by
    intro n
    induction n with
    | zero =>
      intro i ls H locs hi hP hD hS hl
      have hi8 : i = 128 := by omega
      rw [hi8] at hP
      refine lv_iload_n hx hb d_Mod_hold_7 rfl (lv_at hl 0 rfl) ?_
      refine lv_sipush (v := 128) hx hb d_Mod_hold_8 (by decide) ?_
      refine lvT_icmp_ge (tgt := 133) hx hb d_Mod_hold_11 (by decide) (nI_le (a := 128) (b := i) (by omega) (by omega)) ?_
      exact W.vret hx hb hr (fun t ht hW => ⟨rfl, by rw [ht]; exact hP, hS.F ht⟩) hS.2.2 d_Mod_hold_133
    | succ n ih =>
      intro i ls H locs hi hP hD hS hl
      have hle := hld_le (F := F) (K := K) (V := V) (HK := HK) (HV := HV) (o := 128 * m) (c := P m) i
      refine lv_iload_n hx hb d_Mod_hold_7 rfl (lv_at hl 0 rfl) ?_
      refine lv_sipush (v := 128) hx hb d_Mod_hold_8 (by decide) ?_
      refine lvF_icmp_ge (tgt := 133) hx hb d_Mod_hold_11 (by decide) (nI_ge (a := i) (b := 128) (by omega) (by omega)) ?_
      refine lv_aload_n hx hb d_Mod_hold_14 rfl (lv_at hl 1 rfl) ?_
      refine mg_oldFull X hK hP d_Mod_hold_15 ?_
      refine lv_iload_n hx hb d_Mod_hold_18 rfl (lv_at hl 0 rfl) ?_
      refine lv_aload_n hx hb d_Mod_hold_19 rfl (lv_at hl 1 rfl) ?_
      refine mg_full X hK hP d_Mod_hold_20 ?_
      refine lv_sipush (v := 128) hx hb d_Mod_hold_23 (by decide) ?_
      refine lv_iload_n hx hb d_Mod_hold_26 rfl (lv_at hl 2 rfl) ?_
      refine lv_imul hx hb d_Mod_hold_27 ?_
      refine lv_tope (y := nI (128 * m)) (pk_mul (128) (m)) ?_
      refine lv_iload_n hx hb d_Mod_hold_28 rfl (lv_at hl 0 rfl) ?_
      refine lv_iadd hx hb d_Mod_hold_29 ?_
      refine lv_tope (y := nI (128 * m + i)) (nI_add (128 * m) (i)) ?_
      refine ml_F X hK hP (i := 128 * m + i) (by omega) d_Mod_hold_30 ?_
      refine ms_OF X hK hP hD hS (i := i) (x := F (128 * m + i)) (by omega) d_Mod_hold_31 (fun H locs hP hD hS => ?_)
      refine lv_aload_n hx hb d_Mod_hold_32 rfl (lv_at hl 1 rfl) ?_
      refine mg_oldKeys X hK hP d_Mod_hold_33 ?_
      refine lv_iload_n hx hb d_Mod_hold_36 rfl (lv_at hl 0 rfl) ?_
      refine lv_aload_n hx hb d_Mod_hold_37 rfl (lv_at hl 1 rfl) ?_
      refine mg_keys X hK hP d_Mod_hold_38 ?_
      refine lv_sipush (v := 128) hx hb d_Mod_hold_41 (by decide) ?_
      refine lv_iload_n hx hb d_Mod_hold_44 rfl (lv_at hl 2 rfl) ?_
      refine lv_imul hx hb d_Mod_hold_45 ?_
      refine lv_tope (y := nI (128 * m)) (pk_mul (128) (m)) ?_
      refine lv_iload_n hx hb d_Mod_hold_46 rfl (lv_at hl 0 rfl) ?_
      refine lv_iadd hx hb d_Mod_hold_47 ?_
      refine lv_tope (y := nI (128 * m + i)) (nI_add (128 * m) (i)) ?_
      refine ml_K X hK hP (i := 128 * m + i) (by omega) d_Mod_hold_48 ?_
      refine ms_OK X hK hP hD hS (i := i) (x := K (128 * m + i)) (by omega) d_Mod_hold_49 (fun H locs hP hD hS => ?_)
      refine lv_aload_n hx hb d_Mod_hold_50 rfl (lv_at hl 1 rfl) ?_
      refine mg_oldValues X hK hP d_Mod_hold_51 ?_
      refine lv_iload_n hx hb d_Mod_hold_54 rfl (lv_at hl 0 rfl) ?_
      refine lv_aload_n hx hb d_Mod_hold_55 rfl (lv_at hl 1 rfl) ?_
      refine mg_values X hK hP d_Mod_hold_56 ?_
      refine lv_sipush (v := 128) hx hb d_Mod_hold_59 (by decide) ?_
      refine lv_iload_n hx hb d_Mod_hold_62 rfl (lv_at hl 2 rfl) ?_
      refine lv_imul hx hb d_Mod_hold_63 ?_
      refine lv_tope (y := nI (128 * m)) (pk_mul (128) (m)) ?_
      refine lv_iload_n hx hb d_Mod_hold_64 rfl (lv_at hl 0 rfl) ?_
      refine lv_iadd hx hb d_Mod_hold_65 ?_
      refine lv_tope (y := nI (128 * m + i)) (nI_add (128 * m) (i)) ?_
      refine ml_V X hK hP (i := 128 * m + i) (by omega) d_Mod_hold_66 ?_
      refine ms_OV X hK hP hD hS (i := i) (x := V (128 * m + i)) (by omega) d_Mod_hold_67 (fun H locs hP hD hS => ?_)
      rw [cpLB_s, cpL_s, cpL_s] at hP hD
      refine lv_iload_n hx hb d_Mod_hold_68 rfl (lv_at hl 0 rfl) ?_
      refine lv_aload_n hx hb d_Mod_hold_69 rfl (lv_at hl 1 rfl) ?_
      refine mg_capacity X hK hP d_Mod_hold_70 ?_
      refine lv_iload_n hx hb d_Mod_hold_73 rfl (lv_at hl 2 rfl) ?_
      refine ml_P X hK hP (i := m) (by omega) d_Mod_hold_74 ?_
      refine lv_icmp_ge (tgt := 127) hx hb d_Mod_hold_75 (by decide) (fun h1 => ?_) (fun h1 => ?_)
      · have e1 := hld_f (F := F) (K := K) (V := V) (HK := HK) (HV := HV) (o := 128 * m) (c := P m) (i := i) (fun z => absurd ((nI_leI (by omega) (by omega)).mp h1) (by omega))
        refine lv_iinc (k := 0) (v := nI (i + 1)) (lv' := [(2, .int (nI (i + 1))), (0, .ref (a 0)), (1, .int (nI m))]) hx hb d_Mod_hold_127 hl rfl (inc1 i) (by decide) rfl (fun ls hl => ?_)
        refine lv_goto (tgt := 7) hx hb d_Mod_hold_130 (by decide) ?_
        exact ih (i + 1) ls H locs (by omega) (by rw [e1]; exact hP) (by rw [e1]; exact hD) hS (lv_sub hl [0, 1, 2] rfl)
      · refine lv_aload_n hx hb d_Mod_hold_78 rfl (lv_at hl 1 rfl) ?_
        refine mg_oldFull X hK hP d_Mod_hold_79 ?_
        refine lv_iload_n hx hb d_Mod_hold_82 rfl (lv_at hl 0 rfl) ?_
        refine ml_OF X hK hP (i := i) (by omega) d_Mod_hold_83 ?_
        refine lv_tope (y := bI (F (128 * m + i))) (by rw [cpLB_at (by omega)]) ?_
        refine lv_if_eq (tgt := 127) hx hb d_Mod_hold_84 (by decide) (fun h2 => ?_) (fun h2 => ?_)
        · have e1 := hld_f (F := F) (K := K) (V := V) (HK := HK) (HV := HV) (o := 128 * m) (c := P m) (i := i) (fun z => by rw [bI_0.mp h2] at z; exact absurd z.2 (by decide))
          refine lv_iinc (k := 0) (v := nI (i + 1)) (lv' := [(2, .int (nI (i + 1))), (0, .ref (a 0)), (1, .int (nI m))]) hx hb d_Mod_hold_127 hl rfl (inc1 i) (by decide) rfl (fun ls hl => ?_)
          refine lv_goto (tgt := 7) hx hb d_Mod_hold_130 (by decide) ?_
          exact ih (i + 1) ls H locs (by omega) (by rw [e1]; exact hP) (by rw [e1]; exact hD) hS (lv_sub hl [0, 1, 2] rfl)
        · have hip : i < P m := Nat.not_le.mp (fun z => h1 ((nI_leI (by omega) (by omega)).mpr z))
          have e1 := hld_t (F := F) (K := K) (V := V) (HK := HK) (HV := HV) (o := 128 * m) (c := P m) (i := i) ⟨hip, bI_n0.mp h2⟩
          refine lv_aload_n hx hb d_Mod_hold_87 rfl (lv_at hl 1 rfl) ?_
          refine mg_heldKeys X hK hP d_Mod_hold_88 ?_
          refine lv_aload_n hx hb d_Mod_hold_91 rfl (lv_at hl 1 rfl) ?_
          refine mg_held X hK hP d_Mod_hold_92 ?_
          refine lv_aload_n hx hb d_Mod_hold_95 rfl (lv_at hl 1 rfl) ?_
          refine mg_oldKeys X hK hP d_Mod_hold_96 ?_
          refine lv_iload_n hx hb d_Mod_hold_99 rfl (lv_at hl 0 rfl) ?_
          refine ml_OK X hK hP (i := i) (by omega) d_Mod_hold_100 ?_
          refine lv_tope (y := K (128 * m + i)) (by rw [cpL_at (by omega)]) ?_
          refine ms_HK X hK hP hD hS (i := (hld F K V HK HV (128 * m) (P m) i).1) (x := K (128 * m + i)) (by omega) d_Mod_hold_101 (fun H locs hP hD hS => ?_)
          refine lv_aload_n hx hb d_Mod_hold_102 rfl (lv_at hl 1 rfl) ?_
          refine mg_heldValues X hK hP d_Mod_hold_103 ?_
          refine lv_aload_n hx hb d_Mod_hold_106 rfl (lv_at hl 1 rfl) ?_
          refine mg_held X hK hP d_Mod_hold_107 ?_
          refine lv_aload_n hx hb d_Mod_hold_110 rfl (lv_at hl 1 rfl) ?_
          refine mg_oldValues X hK hP d_Mod_hold_111 ?_
          refine lv_iload_n hx hb d_Mod_hold_114 rfl (lv_at hl 0 rfl) ?_
          refine ml_OV X hK hP (i := i) (by omega) d_Mod_hold_115 ?_
          refine lv_tope (y := V (128 * m + i)) (by rw [cpL_at (by omega)]) ?_
          refine ms_HV X hK hP hD hS (i := (hld F K V HK HV (128 * m) (P m) i).1) (x := V (128 * m + i)) (by omega) d_Mod_hold_116 (fun H locs hP hD hS => ?_)
          refine lv_aload_n hx hb d_Mod_hold_117 rfl (lv_at hl 1 rfl) ?_
          refine lv_dup hx hb d_Mod_hold_118 rfl ?_
          refine mg_held X hK hP d_Mod_hold_119 ?_
          refine lv_iconst (v := 1) hx hb d_Mod_hold_122 (by decide) ?_
          refine lv_iadd hx hb d_Mod_hold_123 ?_
          refine lv_tope (y := nI ((hld F K V HK HV (128 * m) (P m) i).1 + 1)) (nI_add ((hld F K V HK HV (128 * m) (P m) i).1) (1)) ?_
          refine mp_held X hK hP hD hS (x := (hld F K V HK HV (128 * m) (P m) i).1 + 1) d_Mod_hold_124 (fun H locs hP hD hS => ?_)
          refine lv_iinc (k := 0) (v := nI (i + 1)) (lv' := [(2, .int (nI (i + 1))), (0, .ref (a 0)), (1, .int (nI m))]) hx hb d_Mod_hold_127 hl rfl (inc1 i) (by decide) rfl (fun ls hl => ?_)
          refine lv_goto (tgt := 7) hx hb d_Mod_hold_130 (by decide) ?_
          exact ih (i + 1) ls H locs (by omega) (by rw [e1]; exact hP) (by rw [e1]; exact hD) hS (lv_sub hl [0, 1, 2] rfl)
  refine lv_aload_n hx hb d_Mod_hold_0 rfl (lv_at hl 0 rfl) ?_
  refine lv_iconst (v := 0) hx hb d_Mod_hold_1 (by decide) ?_
  refine mp_held X hK hP hD hS (x := 0) d_Mod_hold_2 (fun H locs hP hD hS => ?_)
  refine lv_iconst (v := 0) hx hb d_Mod_hold_5 (by decide) ?_
  refine lv_istore_n (lv' := [(2, .int 0), (0, .ref (a 0)), (1, .int (nI m))]) hx hb d_Mod_hold_6 rfl hl (by decide) rfl (fun ls hl => ?_)
  exact loop 128 0 ls H locs rfl (by rw [cpLB_0, cpL_0, cpL_0]; exact hP) (by rw [cpLB_0, cpL_0, cpL_0]; exact hD) hS hl
set_option maxHeartbeats 4000000 in
set_option maxRecDepth 100000 in
/-- putBack -/
theorem c_Mod_putBack (l : Launch) (D : va_G) (ca a : Nat → Nat) (z : Int32) (F : BT) (K V : IT) (P B : Nat → Nat) (S C : IT) (N : Nat) (HK HV : IT) (OF : BT) (OK OV : IT) (m : Nat) (hm : m < 3) (cz : Nat) (sd : Int32) : Met l y_Mod_putBack w_Mod_putBack (rmD 0 0 0) (va_Pc [.ref (a 0), .int (nI m), .int (nI cz), .int sd] (hb_W D mCl (wM ca a z F K V P B S C N HK HV OF OK OV) (tyM ca))) (hq_W (none) D mCl (wM ca a z (pbB F OF (128 * m) 128) (pbL K OK (128 * m) 128) (pbL V OV (128 * m) 128) (va_up P m cz) B (upd S m sd) C N HK HV OF OK OV) (hA (wM ca a z F K V P B S C N HK HV OF OK OV))) 0 0 (hA (wM ca a z F K V P B S C N HK HV OF OK OV)) := by
  refine Met.ofW (cc := b_Mod_putBack) (maxL := 5) (ret := none) (by decide) rfl ?_
  intro p e s m0 args below meth c0 s₁ B0 hml hv
  obtain ⟨rfl, hP, hK, hD0⟩ := hv
  have hx := B0.exec
  have hb := B0.bytes
  have hr := B0.returns
  have hts := atoms_spec (ws := w_Mod_putBack) B0.pre
  have hown : s.vm.findClass R_Mod = some m0.cls := findClass_of_methodNamed B0.named
  have hlocks := B0.notSynchronized
  have hwA : ∀ w ∈ wsA, w.before ([.ref (a 0), .int (nI m), .int (nI cz), .int sd] : List Value).toArray s = true := fun w h => hts w (List.mem_cons_of_mem _ h)
  have X : CallFix p m0 c0 b_Mod_putBack 5 s ([.ref (a 0), .int (nI m), .int (nI cz), .int sd] : List Value).toArray wsA R_Mod := ⟨hx, hb, hml, hown, hwA⟩
  have hD := hA_D hD0
  have hS : va_S (hA (wM ca a z F K V P B S C N HK HV OF OK OV)) s.heap s.heap [] := va_S.rf
  have hl := lv_entry ([.ref (a 0), .int (nI m), .int (nI cz), .int sd]) (n := 5) (Nat.le_of_ble_eq_true rfl)
  rw [lg_entry_eq]
  generalize (lg_sl ([.ref (a 0), .int (nI m), .int (nI cz), .int sd]) ++ List.replicate (5 - (lg_sl ([.ref (a 0), .int (nI m), .int (nI cz), .int sd])).length) Slot.unset).toArray = ls at hl ⊢
  have hl : lv_has ls 5 [(0, .ref (a 0)), (1, .int (nI m)), (2, .int (nI cz)), (3, .int sd)] := hl
  have loop : ∀ (n i : Nat) (ls : Array Slot) (H : Heap) (locs : List Loc), i + n = 128 → va_P D mCl (wM ca a z (pbB F OF (128 * m) i) (pbL K OK (128 * m) i) (pbL V OV (128 * m) i) (va_up P m cz) B (upd S m sd) C N HK HV OF OK OV) H → va_D (hA (wM ca a z F K V P B S C N HK HV OF OK OV)) (wM ca a z (pbB F OF (128 * m) i) (pbL K OK (128 * m) i) (pbL V OV (128 * m) i) (va_up P m cz) B (upd S m sd) C N HK HV OF OK OV) → va_S (hA (wM ca a z F K V P B S C N HK HV OF OK OV)) s.heap H locs → lv_has ls 5 [(4, .int (nI i)), (0, .ref (a 0)), (1, .int (nI m)), (2, .int (nI cz)), (3, .int sd)] → W p l e (headSpec w_Mod_putBack (rmD 0 0 0)).room s m0 ([.ref (a 0), .int (nI m), .int (nI cz), .int sd] : List Value).toArray below meth c0 H locs 0 0 (MQ below (hq_W (none) D mCl (wM ca a z (pbB F OF (128 * m) 128) (pbL K OK (128 * m) 128) (pbL V OV (128 * m) 128) (va_up P m cz) B (upd S m sd) C N HK HV OF OK OV) (hA (wM ca a z F K V P B S C N HK HV OF OK OV))) ([.ref (a 0), .int (nI m), .int (nI cz), .int sd] : List Value).toArray s 0 0 (hA (wM ca a z F K V P B S C N HK HV OF OK OV))) (F0 m0 17 ls []) := by
    intro n
    induction n with
    | zero =>
      intro i ls H locs hi hP hD hS hl
      have hi8 : i = 128 := by omega
      rw [hi8] at hP
      refine lv_iload hx hb d_Mod_putBack_17 (lv_at hl 0 rfl) ?_
      refine lv_sipush (v := 128) hx hb d_Mod_putBack_19 (by decide) ?_
      refine lvT_icmp_ge (tgt := 91) hx hb d_Mod_putBack_22 (by decide) (nI_le (a := 128) (b := i) (by omega) (by omega)) ?_
      exact W.vret hx hb hr (fun t ht hW => ⟨rfl, by rw [ht]; exact hP, hS.F ht⟩) hS.2.2 d_Mod_putBack_91
    | succ n ih =>
      intro i ls H locs hi hP hD hS hl
      refine lv_iload hx hb d_Mod_putBack_17 (lv_at hl 0 rfl) ?_
      refine lv_sipush (v := 128) hx hb d_Mod_putBack_19 (by decide) ?_
      refine lvF_icmp_ge (tgt := 91) hx hb d_Mod_putBack_22 (by decide) (nI_ge (a := i) (b := 128) (by omega) (by omega)) ?_
      refine lv_aload_n hx hb d_Mod_putBack_25 rfl (lv_at hl 1 rfl) ?_
      refine mg_full X hK hP d_Mod_putBack_26 ?_
      refine lv_sipush (v := 128) hx hb d_Mod_putBack_29 (by decide) ?_
      refine lv_iload_n hx hb d_Mod_putBack_32 rfl (lv_at hl 2 rfl) ?_
      refine lv_imul hx hb d_Mod_putBack_33 ?_
      refine lv_tope (y := nI (128 * m)) (pk_mul (128) (m)) ?_
      refine lv_iload hx hb d_Mod_putBack_34 (lv_at hl 0 rfl) ?_
      refine lv_iadd hx hb d_Mod_putBack_36 ?_
      refine lv_tope (y := nI (128 * m + i)) (nI_add (128 * m) (i)) ?_
      refine lv_aload_n hx hb d_Mod_putBack_37 rfl (lv_at hl 1 rfl) ?_
      refine mg_oldFull X hK hP d_Mod_putBack_38 ?_
      refine lv_iload hx hb d_Mod_putBack_41 (lv_at hl 0 rfl) ?_
      refine ml_OF X hK hP (i := i) (by omega) d_Mod_putBack_43 ?_
      refine ms_F X hK hP hD hS (i := 128 * m + i) (x := OF i) (by omega) d_Mod_putBack_44 (fun H locs hP hD hS => ?_)
      refine lv_aload_n hx hb d_Mod_putBack_45 rfl (lv_at hl 1 rfl) ?_
      refine mg_keys X hK hP d_Mod_putBack_46 ?_
      refine lv_sipush (v := 128) hx hb d_Mod_putBack_49 (by decide) ?_
      refine lv_iload_n hx hb d_Mod_putBack_52 rfl (lv_at hl 2 rfl) ?_
      refine lv_imul hx hb d_Mod_putBack_53 ?_
      refine lv_tope (y := nI (128 * m)) (pk_mul (128) (m)) ?_
      refine lv_iload hx hb d_Mod_putBack_54 (lv_at hl 0 rfl) ?_
      refine lv_iadd hx hb d_Mod_putBack_56 ?_
      refine lv_tope (y := nI (128 * m + i)) (nI_add (128 * m) (i)) ?_
      refine lv_aload_n hx hb d_Mod_putBack_57 rfl (lv_at hl 1 rfl) ?_
      refine mg_oldKeys X hK hP d_Mod_putBack_58 ?_
      refine lv_iload hx hb d_Mod_putBack_61 (lv_at hl 0 rfl) ?_
      refine ml_OK X hK hP (i := i) (by omega) d_Mod_putBack_63 ?_
      refine ms_K X hK hP hD hS (i := 128 * m + i) (x := OK i) (by omega) d_Mod_putBack_64 (fun H locs hP hD hS => ?_)
      refine lv_aload_n hx hb d_Mod_putBack_65 rfl (lv_at hl 1 rfl) ?_
      refine mg_values X hK hP d_Mod_putBack_66 ?_
      refine lv_sipush (v := 128) hx hb d_Mod_putBack_69 (by decide) ?_
      refine lv_iload_n hx hb d_Mod_putBack_72 rfl (lv_at hl 2 rfl) ?_
      refine lv_imul hx hb d_Mod_putBack_73 ?_
      refine lv_tope (y := nI (128 * m)) (pk_mul (128) (m)) ?_
      refine lv_iload hx hb d_Mod_putBack_74 (lv_at hl 0 rfl) ?_
      refine lv_iadd hx hb d_Mod_putBack_76 ?_
      refine lv_tope (y := nI (128 * m + i)) (nI_add (128 * m) (i)) ?_
      refine lv_aload_n hx hb d_Mod_putBack_77 rfl (lv_at hl 1 rfl) ?_
      refine mg_oldValues X hK hP d_Mod_putBack_78 ?_
      refine lv_iload hx hb d_Mod_putBack_81 (lv_at hl 0 rfl) ?_
      refine ml_OV X hK hP (i := i) (by omega) d_Mod_putBack_83 ?_
      refine ms_V X hK hP hD hS (i := 128 * m + i) (x := OV i) (by omega) d_Mod_putBack_84 (fun H locs hP hD hS => ?_)
      rw [pbB_s, pbL_s, pbL_s] at hP hD
      refine lv_iinc (k := 0) (v := nI (i + 1)) (lv' := [(4, .int (nI (i + 1))), (0, .ref (a 0)), (1, .int (nI m)), (2, .int (nI cz)), (3, .int sd)]) hx hb d_Mod_putBack_85 hl rfl (inc1 i) (by decide) rfl (fun ls hl => ?_)
      refine lv_goto (tgt := 17) hx hb d_Mod_putBack_88 (by decide) ?_
      exact ih (i + 1) ls H locs (by omega) hP hD hS hl
  refine lv_aload_n hx hb d_Mod_putBack_0 rfl (lv_at hl 0 rfl) ?_
  refine mg_capacity X hK hP d_Mod_putBack_1 ?_
  refine lv_iload_n hx hb d_Mod_putBack_4 rfl (lv_at hl 1 rfl) ?_
  refine lv_iload_n hx hb d_Mod_putBack_5 rfl (lv_at hl 2 rfl) ?_
  refine ms_P X hK hP hD hS (i := m) (x := cz) (by omega) d_Mod_putBack_6 (fun H locs hP hD hS => ?_)
  refine lv_aload_n hx hb d_Mod_putBack_7 rfl (lv_at hl 0 rfl) ?_
  refine mg_seed X hK hP d_Mod_putBack_8 ?_
  refine lv_iload_n hx hb d_Mod_putBack_11 rfl (lv_at hl 1 rfl) ?_
  refine lv_iload_n hx hb d_Mod_putBack_12 rfl (lv_at hl 3 rfl) ?_
  refine ms_S X hK hP hD hS (i := m) (x := sd) (by omega) d_Mod_putBack_13 (fun H locs hP hD hS => ?_)
  refine lv_iconst (v := 0) hx hb d_Mod_putBack_14 (by decide) ?_
  refine lv_istore (lv' := [(4, .int 0), (0, .ref (a 0)), (1, .int (nI m)), (2, .int (nI cz)), (3, .int sd)]) hx hb d_Mod_putBack_15 hl (by decide) rfl (fun ls hl => ?_)
  exact loop 128 0 ls H locs rfl (by rw [pbB_0, pbL_0, pbL_0]; exact hP) (by rw [pbB_0, pbL_0, pbL_0]; exact hD) hS hl
set_option maxHeartbeats 4000000 in
set_option maxRecDepth 100000 in
/-- endOf -/
theorem c_Mod_endOf (l : Launch) (D : va_G) (ca a : Nat → Nat) (z : Int32) (F : BT) (K V : IT) (P B : Nat → Nat) (S C : IT) (N : Nat) (HK HV : IT) (OF : BT) (OK OV : IT) (m : Nat) (hm : m < 3) (g cz : Nat) (hg : g < 3) : Met l y_Mod_endOf w_Mod_endOf (rmD 0 0 0) (va_Pc [.ref (a 0), .int (nI m), .int (nI g), .int (nI cz)] (hb_R D mCl (wM ca a z F K V P B S C N HK HV OF OK OV) (tyM ca))) (hq_R (some (.int (nI (B m + va_up P g cz m))))) 0 0 hq_no := by
  refine Met.ofW (cc := b_Mod_endOf) (maxL := 4) (ret := some .int) (by decide) rfl ?_
  intro p e s m0 args below meth c0 s₁ B0 hml hv
  obtain ⟨rfl, hP, hK⟩ := hv
  have hx := B0.exec
  have hb := B0.bytes
  have hr := B0.returns
  have hts := atoms_spec (ws := w_Mod_endOf) B0.pre
  have hown : s.vm.findClass R_Mod = some m0.cls := findClass_of_methodNamed B0.named
  have hlocks := B0.notSynchronized
  have hwA : ∀ w ∈ wsA, w.before ([.ref (a 0), .int (nI m), .int (nI g), .int (nI cz)] : List Value).toArray s = true := fun w h => hts w (List.mem_cons_of_mem _ h)
  have X : CallFix p m0 c0 b_Mod_endOf 4 s ([.ref (a 0), .int (nI m), .int (nI g), .int (nI cz)] : List Value).toArray wsA R_Mod := ⟨hx, hb, hml, hown, hwA⟩
  have hl := lv_entry ([.ref (a 0), .int (nI m), .int (nI g), .int (nI cz)]) (n := 4) (Nat.le_of_ble_eq_true rfl)
  rw [lg_entry_eq]
  generalize (lg_sl ([.ref (a 0), .int (nI m), .int (nI g), .int (nI cz)]) ++ List.replicate (4 - (lg_sl ([.ref (a 0), .int (nI m), .int (nI g), .int (nI cz)])).length) Slot.unset).toArray = ls at hl ⊢
  have hl : lv_has ls 4 [(0, .ref (a 0)), (1, .int (nI m)), (2, .int (nI g)), (3, .int (nI cz))] := hl
  refine lv_aload_n hx hb d_Mod_endOf_0 rfl (lv_at hl 0 rfl) ?_
  refine mg_base X hK hP d_Mod_endOf_1 ?_
  refine lv_iload_n hx hb d_Mod_endOf_4 rfl (lv_at hl 1 rfl) ?_
  refine ml_B X hK hP (i := m) (by omega) d_Mod_endOf_5 ?_
  refine lv_iload_n hx hb d_Mod_endOf_6 rfl (lv_at hl 1 rfl) ?_
  refine lv_iload_n hx hb d_Mod_endOf_7 rfl (lv_at hl 2 rfl) ?_
  refine lv_icmp_ne (tgt := 15) hx hb d_Mod_endOf_8 (by decide) (fun h1 => ?_) (fun h1 => ?_)
  · have hne : m ≠ g := fun z => h1 (by rw [z])
    refine lv_aload_n hx hb d_Mod_endOf_15 rfl (lv_at hl 0 rfl) ?_
    refine mg_capacity X hK hP d_Mod_endOf_16 ?_
    refine lv_iload_n hx hb d_Mod_endOf_19 rfl (lv_at hl 1 rfl) ?_
    refine ml_P X hK hP (i := m) (by omega) d_Mod_endOf_20 ?_
    refine lv_iadd hx hb d_Mod_endOf_21 ?_
    refine lv_tope (y := nI (B m + (P m))) (nI_add (B m) (P m)) ?_
    exact W.iret (v := nI (B m + P m)) hx hb hr (fun t ht hW => ⟨by rw [va_up_ne _ _ hne], ht⟩) hq_nl d_Mod_endOf_22
  · have hme : m = g := (nI_eq (by omega) (by omega)).mp h1
    refine lv_iload_n hx hb d_Mod_endOf_11 rfl (lv_at hl 3 rfl) ?_
    refine lv_goto (tgt := 21) hx hb d_Mod_endOf_12 (by decide) ?_
    refine lv_iadd hx hb d_Mod_endOf_21 ?_
    refine lv_tope (y := nI (B m + cz)) (nI_add (B m) (cz)) ?_
    exact W.iret (v := nI (B m + cz)) hx hb hr (fun t ht hW => ⟨by rw [hme, va_up_self], ht⟩) hq_nl d_Mod_endOf_22
set_option maxHeartbeats 4000000 in
set_option maxRecDepth 100000 in
/-- nextFrom -/
theorem c_Mod_nextFrom (l : Launch) (D : va_G) (ca a : Nat → Nat) (z : Int32) (F : BT) (K V : IT) (P B : Nat → Nat) (S C : IT) (N : Nat) (HK HV : IT) (OF : BT) (OK OV : IT) (f : Nat) (hf : f < 65536) (hb0 : B 0 ≤ 256) (hb1 : B 1 ≤ 256) (hb2 : B 2 ≤ 256) : Met l y_Mod_nextFrom w_Mod_nextFrom (rmD 0 0 0) (va_Pc [.ref (a 0), .int (nI f)] (hb_R D mCl (wM ca a z F K V P B S C N HK HV OF OK OV) (tyM ca))) (hq_R (some (.int (oI (lowS B f 3))))) 0 0 hq_no := by
  refine Met.ofW (cc := b_Mod_nextFrom) (maxL := 5) (ret := some .int) (by decide) rfl ?_
  intro p e s m0 args below meth c0 s₁ B0 hml hv
  obtain ⟨rfl, hP, hK⟩ := hv
  have hx := B0.exec
  have hb := B0.bytes
  have hr := B0.returns
  have hts := atoms_spec (ws := w_Mod_nextFrom) B0.pre
  have hown : s.vm.findClass R_Mod = some m0.cls := findClass_of_methodNamed B0.named
  have hlocks := B0.notSynchronized
  have hwA : ∀ w ∈ wsA, w.before ([.ref (a 0), .int (nI f)] : List Value).toArray s = true := fun w h => hts w (List.mem_cons_of_mem _ h)
  have X : CallFix p m0 c0 b_Mod_nextFrom 5 s ([.ref (a 0), .int (nI f)] : List Value).toArray wsA R_Mod := ⟨hx, hb, hml, hown, hwA⟩
  have hl := lv_entry ([.ref (a 0), .int (nI f)]) (n := 5) (Nat.le_of_ble_eq_true rfl)
  rw [lg_entry_eq]
  generalize (lg_sl ([.ref (a 0), .int (nI f)]) ++ List.replicate (5 - (lg_sl ([.ref (a 0), .int (nI f)])).length) Slot.unset).toArray = ls at hl ⊢
  have hl : lv_has ls 5 [(0, .ref (a 0)), (1, .int (nI f))] := hl
  refine lv_iconst (v := -1) hx hb d_Mod_nextFrom_0 (by decide) ?_
  refine lv_istore_n (lv' := [(2, .int (-1)), (0, .ref (a 0)), (1, .int (nI f))]) hx hb d_Mod_nextFrom_1 rfl hl (by decide) rfl (fun ls hl => ?_)
  refine lv_iconst (v := 0) hx hb d_Mod_nextFrom_2 (by decide) ?_
  refine lv_istore_n (lv' := [(3, .int 0), (2, .int (-1)), (0, .ref (a 0)), (1, .int (nI f))]) hx hb d_Mod_nextFrom_3 rfl hl (by decide) rfl (fun ls hl => ?_)
  refine lv_iload_n hx hb d_Mod_nextFrom_4 rfl (lv_at hl 0 rfl) ?_
  refine lv_iconst (v := 3) hx hb d_Mod_nextFrom_5 (by decide) ?_
  refine lvF_icmp_ge (tgt := 63) hx hb d_Mod_nextFrom_6 (by decide) (by decide) ?_
  refine lv_aload_n hx hb d_Mod_nextFrom_9 rfl (lv_at hl 2 rfl) ?_
  refine mg_base X hK hP d_Mod_nextFrom_10 ?_
  refine lv_iload_n hx hb d_Mod_nextFrom_13 rfl (lv_at hl 0 rfl) ?_
  refine ml_B X hK hP (i := 0) (by decide) d_Mod_nextFrom_14 ?_
  refine lv_iload_n hx hb d_Mod_nextFrom_15 rfl (lv_at hl 3 rfl) ?_
  refine lv_icmp_lt (tgt := 23) hx hb d_Mod_nextFrom_16 (by decide) (fun g0 => ?_) (fun g0 => ?_)
  · have e0 := lowS_n (B := B) (f := f) (i := 0) (r := none) rfl (fun z => absurd ((nI_ltI (by omega) (by omega)).mp g0) (by omega))
    refine lv_iconst (v := 0) hx hb d_Mod_nextFrom_23 (by decide) ?_
    refine lv_istore (lv' := [(4, .int 0), (3, .int 0), (2, .int (-1)), (0, .ref (a 0)), (1, .int (nI f))]) hx hb d_Mod_nextFrom_24 hl (by decide) rfl (fun ls hl => ?_)
    refine lv_iload hx hb d_Mod_nextFrom_26 (lv_at hl 0 rfl) ?_
    refine lvT_if_eq (tgt := 55) hx hb d_Mod_nextFrom_28 (by decide) (rfl) ?_
    refine lv_iload_n hx hb d_Mod_nextFrom_55 rfl (lv_at hl 2 rfl) ?_
    refine lv_istore_n (lv' := [(2, .int (-1)), (4, .int 0), (3, .int 0), (0, .ref (a 0)), (1, .int (nI f))]) hx hb d_Mod_nextFrom_56 rfl hl (by decide) rfl (fun ls hl => ?_)
    refine lv_iinc (k := 2) (v := 1) (lv' := [(3, .int 1), (2, .int (-1)), (4, .int 0), (0, .ref (a 0)), (1, .int (nI f))]) hx hb d_Mod_nextFrom_57 hl rfl (by decide) (by decide) rfl (fun ls hl => ?_)
    refine lv_goto (tgt := 4) hx hb d_Mod_nextFrom_60 (by decide) ?_
    refine lv_iload_n hx hb d_Mod_nextFrom_4 rfl (lv_at hl 0 rfl) ?_
    refine lv_iconst (v := 3) hx hb d_Mod_nextFrom_5 (by decide) ?_
    refine lvF_icmp_ge (tgt := 63) hx hb d_Mod_nextFrom_6 (by decide) (by decide) ?_
    refine lv_aload_n hx hb d_Mod_nextFrom_9 rfl (lv_at hl 3 rfl) ?_
    refine mg_base X hK hP d_Mod_nextFrom_10 ?_
    refine lv_iload_n hx hb d_Mod_nextFrom_13 rfl (lv_at hl 0 rfl) ?_
    refine ml_B X hK hP (i := 1) (by decide) d_Mod_nextFrom_14 ?_
    refine lv_iload_n hx hb d_Mod_nextFrom_15 rfl (lv_at hl 4 rfl) ?_
    refine lv_icmp_lt (tgt := 23) hx hb d_Mod_nextFrom_16 (by decide) (fun g1 => ?_) (fun g1 => ?_)
    · have e1 := lowS_n (B := B) (f := f) (i := 1) (r := none) e0 (fun z => absurd ((nI_ltI (by omega) (by omega)).mp g1) (by omega))
      refine lv_iconst (v := 0) hx hb d_Mod_nextFrom_23 (by decide) ?_
      refine lv_istore (lv' := [(4, .int 0), (3, .int 1), (2, .int (-1)), (0, .ref (a 0)), (1, .int (nI f))]) hx hb d_Mod_nextFrom_24 hl (by decide) rfl (fun ls hl => ?_)
      refine lv_iload hx hb d_Mod_nextFrom_26 (lv_at hl 0 rfl) ?_
      refine lvT_if_eq (tgt := 55) hx hb d_Mod_nextFrom_28 (by decide) (rfl) ?_
      refine lv_iload_n hx hb d_Mod_nextFrom_55 rfl (lv_at hl 2 rfl) ?_
      refine lv_istore_n (lv' := [(2, .int (-1)), (4, .int 0), (3, .int 1), (0, .ref (a 0)), (1, .int (nI f))]) hx hb d_Mod_nextFrom_56 rfl hl (by decide) rfl (fun ls hl => ?_)
      refine lv_iinc (k := 2) (v := 2) (lv' := [(3, .int 2), (2, .int (-1)), (4, .int 0), (0, .ref (a 0)), (1, .int (nI f))]) hx hb d_Mod_nextFrom_57 hl rfl (by decide) (by decide) rfl (fun ls hl => ?_)
      refine lv_goto (tgt := 4) hx hb d_Mod_nextFrom_60 (by decide) ?_
      refine lv_iload_n hx hb d_Mod_nextFrom_4 rfl (lv_at hl 0 rfl) ?_
      refine lv_iconst (v := 3) hx hb d_Mod_nextFrom_5 (by decide) ?_
      refine lvF_icmp_ge (tgt := 63) hx hb d_Mod_nextFrom_6 (by decide) (by decide) ?_
      refine lv_aload_n hx hb d_Mod_nextFrom_9 rfl (lv_at hl 3 rfl) ?_
      refine mg_base X hK hP d_Mod_nextFrom_10 ?_
      refine lv_iload_n hx hb d_Mod_nextFrom_13 rfl (lv_at hl 0 rfl) ?_
      refine ml_B X hK hP (i := 2) (by decide) d_Mod_nextFrom_14 ?_
      refine lv_iload_n hx hb d_Mod_nextFrom_15 rfl (lv_at hl 4 rfl) ?_
      refine lv_icmp_lt (tgt := 23) hx hb d_Mod_nextFrom_16 (by decide) (fun g2 => ?_) (fun g2 => ?_)
      · have e2 := lowS_n (B := B) (f := f) (i := 2) (r := none) e1 (fun z => absurd ((nI_ltI (by omega) (by omega)).mp g2) (by omega))
        refine lv_iconst (v := 0) hx hb d_Mod_nextFrom_23 (by decide) ?_
        refine lv_istore (lv' := [(4, .int 0), (3, .int 2), (2, .int (-1)), (0, .ref (a 0)), (1, .int (nI f))]) hx hb d_Mod_nextFrom_24 hl (by decide) rfl (fun ls hl => ?_)
        refine lv_iload hx hb d_Mod_nextFrom_26 (lv_at hl 0 rfl) ?_
        refine lvT_if_eq (tgt := 55) hx hb d_Mod_nextFrom_28 (by decide) (rfl) ?_
        refine lv_iload_n hx hb d_Mod_nextFrom_55 rfl (lv_at hl 2 rfl) ?_
        refine lv_istore_n (lv' := [(2, .int (-1)), (4, .int 0), (3, .int 2), (0, .ref (a 0)), (1, .int (nI f))]) hx hb d_Mod_nextFrom_56 rfl hl (by decide) rfl (fun ls hl => ?_)
        refine lv_iinc (k := 2) (v := 3) (lv' := [(3, .int 3), (2, .int (-1)), (4, .int 0), (0, .ref (a 0)), (1, .int (nI f))]) hx hb d_Mod_nextFrom_57 hl rfl (by decide) (by decide) rfl (fun ls hl => ?_)
        refine lv_goto (tgt := 4) hx hb d_Mod_nextFrom_60 (by decide) ?_
        refine lv_iload_n hx hb d_Mod_nextFrom_4 rfl (lv_at hl 0 rfl) ?_
        refine lv_iconst (v := 3) hx hb d_Mod_nextFrom_5 (by decide) ?_
        refine lvT_icmp_ge (tgt := 63) hx hb d_Mod_nextFrom_6 (by decide) (by decide) ?_
        refine lv_iload_n hx hb d_Mod_nextFrom_63 rfl (lv_at hl 1 rfl) ?_
        exact W.iret (v := -1) hx hb hr (fun t ht hW => ⟨by rw [show lowS B f 3 = _ from e2]; rfl, ht⟩) hq_nl d_Mod_nextFrom_64
      · have u2 : f ≤ B 2 := Nat.not_lt.mp (fun z => g2 ((nI_ltI (by omega) (by omega)).mpr z))
        refine lv_iconst (v := 1) hx hb d_Mod_nextFrom_19 (by decide) ?_
        refine lv_goto (tgt := 24) hx hb d_Mod_nextFrom_20 (by decide) ?_
        refine lv_istore (lv' := [(4, .int 1), (3, .int 2), (2, .int (-1)), (0, .ref (a 0)), (1, .int (nI f))]) hx hb d_Mod_nextFrom_24 hl (by decide) rfl (fun ls hl => ?_)
        refine lv_iload hx hb d_Mod_nextFrom_26 (lv_at hl 0 rfl) ?_
        refine lvF_if_eq (tgt := 55) hx hb d_Mod_nextFrom_28 (by decide) (by decide) ?_
        have e2 := lowS_0 (B := B) (f := f) (i := 2) e1 u2
        refine lv_iload_n hx hb d_Mod_nextFrom_31 rfl (lv_at hl 2 rfl) ?_
        refine lv_iconst (v := -1) hx hb d_Mod_nextFrom_32 (by decide) ?_
        refine lvT_icmp_eq (tgt := 51) hx hb d_Mod_nextFrom_33 (by decide) (rfl) ?_
        refine lv_iload_n hx hb d_Mod_nextFrom_51 rfl (lv_at hl 1 rfl) ?_
        refine lv_goto (tgt := 56) hx hb d_Mod_nextFrom_52 (by decide) ?_
        refine lv_istore_n (lv' := [(2, .int 2), (4, .int 1), (3, .int 2), (0, .ref (a 0)), (1, .int (nI f))]) hx hb d_Mod_nextFrom_56 rfl hl (by decide) rfl (fun ls hl => ?_)
        refine lv_iinc (k := 2) (v := 3) (lv' := [(3, .int 3), (2, .int 2), (4, .int 1), (0, .ref (a 0)), (1, .int (nI f))]) hx hb d_Mod_nextFrom_57 hl rfl (by decide) (by decide) rfl (fun ls hl => ?_)
        refine lv_goto (tgt := 4) hx hb d_Mod_nextFrom_60 (by decide) ?_
        refine lv_iload_n hx hb d_Mod_nextFrom_4 rfl (lv_at hl 0 rfl) ?_
        refine lv_iconst (v := 3) hx hb d_Mod_nextFrom_5 (by decide) ?_
        refine lvT_icmp_ge (tgt := 63) hx hb d_Mod_nextFrom_6 (by decide) (by decide) ?_
        refine lv_iload_n hx hb d_Mod_nextFrom_63 rfl (lv_at hl 1 rfl) ?_
        exact W.iret (v := nI 2) hx hb hr (fun t ht hW => ⟨by rw [show lowS B f 3 = _ from e2]; rfl, ht⟩) hq_nl d_Mod_nextFrom_64
    · have u1 : f ≤ B 1 := Nat.not_lt.mp (fun z => g1 ((nI_ltI (by omega) (by omega)).mpr z))
      refine lv_iconst (v := 1) hx hb d_Mod_nextFrom_19 (by decide) ?_
      refine lv_goto (tgt := 24) hx hb d_Mod_nextFrom_20 (by decide) ?_
      refine lv_istore (lv' := [(4, .int 1), (3, .int 1), (2, .int (-1)), (0, .ref (a 0)), (1, .int (nI f))]) hx hb d_Mod_nextFrom_24 hl (by decide) rfl (fun ls hl => ?_)
      refine lv_iload hx hb d_Mod_nextFrom_26 (lv_at hl 0 rfl) ?_
      refine lvF_if_eq (tgt := 55) hx hb d_Mod_nextFrom_28 (by decide) (by decide) ?_
      have e1 := lowS_0 (B := B) (f := f) (i := 1) e0 u1
      refine lv_iload_n hx hb d_Mod_nextFrom_31 rfl (lv_at hl 2 rfl) ?_
      refine lv_iconst (v := -1) hx hb d_Mod_nextFrom_32 (by decide) ?_
      refine lvT_icmp_eq (tgt := 51) hx hb d_Mod_nextFrom_33 (by decide) (rfl) ?_
      refine lv_iload_n hx hb d_Mod_nextFrom_51 rfl (lv_at hl 1 rfl) ?_
      refine lv_goto (tgt := 56) hx hb d_Mod_nextFrom_52 (by decide) ?_
      refine lv_istore_n (lv' := [(2, .int 1), (4, .int 1), (3, .int 1), (0, .ref (a 0)), (1, .int (nI f))]) hx hb d_Mod_nextFrom_56 rfl hl (by decide) rfl (fun ls hl => ?_)
      refine lv_iinc (k := 2) (v := 2) (lv' := [(3, .int 2), (2, .int 1), (4, .int 1), (0, .ref (a 0)), (1, .int (nI f))]) hx hb d_Mod_nextFrom_57 hl rfl (by decide) (by decide) rfl (fun ls hl => ?_)
      refine lv_goto (tgt := 4) hx hb d_Mod_nextFrom_60 (by decide) ?_
      refine lv_iload_n hx hb d_Mod_nextFrom_4 rfl (lv_at hl 0 rfl) ?_
      refine lv_iconst (v := 3) hx hb d_Mod_nextFrom_5 (by decide) ?_
      refine lvF_icmp_ge (tgt := 63) hx hb d_Mod_nextFrom_6 (by decide) (by decide) ?_
      refine lv_aload_n hx hb d_Mod_nextFrom_9 rfl (lv_at hl 3 rfl) ?_
      refine mg_base X hK hP d_Mod_nextFrom_10 ?_
      refine lv_iload_n hx hb d_Mod_nextFrom_13 rfl (lv_at hl 0 rfl) ?_
      refine ml_B X hK hP (i := 2) (by decide) d_Mod_nextFrom_14 ?_
      refine lv_iload_n hx hb d_Mod_nextFrom_15 rfl (lv_at hl 4 rfl) ?_
      refine lv_icmp_lt (tgt := 23) hx hb d_Mod_nextFrom_16 (by decide) (fun g2 => ?_) (fun g2 => ?_)
      · have e2 := lowS_n (B := B) (f := f) (i := 2) (r := (some 1)) e1 (fun z => absurd ((nI_ltI (by omega) (by omega)).mp g2) (by omega))
        refine lv_iconst (v := 0) hx hb d_Mod_nextFrom_23 (by decide) ?_
        refine lv_istore (lv' := [(4, .int 0), (3, .int 2), (2, .int 1), (0, .ref (a 0)), (1, .int (nI f))]) hx hb d_Mod_nextFrom_24 hl (by decide) rfl (fun ls hl => ?_)
        refine lv_iload hx hb d_Mod_nextFrom_26 (lv_at hl 0 rfl) ?_
        refine lvT_if_eq (tgt := 55) hx hb d_Mod_nextFrom_28 (by decide) (rfl) ?_
        refine lv_iload_n hx hb d_Mod_nextFrom_55 rfl (lv_at hl 2 rfl) ?_
        refine lv_istore_n (lv' := [(2, .int 1), (4, .int 0), (3, .int 2), (0, .ref (a 0)), (1, .int (nI f))]) hx hb d_Mod_nextFrom_56 rfl hl (by decide) rfl (fun ls hl => ?_)
        refine lv_iinc (k := 2) (v := 3) (lv' := [(3, .int 3), (2, .int 1), (4, .int 0), (0, .ref (a 0)), (1, .int (nI f))]) hx hb d_Mod_nextFrom_57 hl rfl (by decide) (by decide) rfl (fun ls hl => ?_)
        refine lv_goto (tgt := 4) hx hb d_Mod_nextFrom_60 (by decide) ?_
        refine lv_iload_n hx hb d_Mod_nextFrom_4 rfl (lv_at hl 0 rfl) ?_
        refine lv_iconst (v := 3) hx hb d_Mod_nextFrom_5 (by decide) ?_
        refine lvT_icmp_ge (tgt := 63) hx hb d_Mod_nextFrom_6 (by decide) (by decide) ?_
        refine lv_iload_n hx hb d_Mod_nextFrom_63 rfl (lv_at hl 1 rfl) ?_
        exact W.iret (v := nI 1) hx hb hr (fun t ht hW => ⟨by rw [show lowS B f 3 = _ from e2]; rfl, ht⟩) hq_nl d_Mod_nextFrom_64
      · have u2 : f ≤ B 2 := Nat.not_lt.mp (fun z => g2 ((nI_ltI (by omega) (by omega)).mpr z))
        refine lv_iconst (v := 1) hx hb d_Mod_nextFrom_19 (by decide) ?_
        refine lv_goto (tgt := 24) hx hb d_Mod_nextFrom_20 (by decide) ?_
        refine lv_istore (lv' := [(4, .int 1), (3, .int 2), (2, .int 1), (0, .ref (a 0)), (1, .int (nI f))]) hx hb d_Mod_nextFrom_24 hl (by decide) rfl (fun ls hl => ?_)
        refine lv_iload hx hb d_Mod_nextFrom_26 (lv_at hl 0 rfl) ?_
        refine lvF_if_eq (tgt := 55) hx hb d_Mod_nextFrom_28 (by decide) (by decide) ?_
        refine lv_iload_n hx hb d_Mod_nextFrom_31 rfl (lv_at hl 2 rfl) ?_
        refine lv_iconst (v := -1) hx hb d_Mod_nextFrom_32 (by decide) ?_
        refine lvF_icmp_eq (tgt := 51) hx hb d_Mod_nextFrom_33 (by decide) (by decide) ?_
        refine lv_aload_n hx hb d_Mod_nextFrom_36 rfl (lv_at hl 3 rfl) ?_
        refine mg_base X hK hP d_Mod_nextFrom_37 ?_
        refine lv_iload_n hx hb d_Mod_nextFrom_40 rfl (lv_at hl 1 rfl) ?_
        refine ml_B X hK hP (i := 2) (by decide) d_Mod_nextFrom_41 ?_
        refine lv_aload_n hx hb d_Mod_nextFrom_42 rfl (lv_at hl 3 rfl) ?_
        refine mg_base X hK hP d_Mod_nextFrom_43 ?_
        refine lv_iload_n hx hb d_Mod_nextFrom_46 rfl (lv_at hl 2 rfl) ?_
        refine ml_B X hK hP (i := 1) (by decide) d_Mod_nextFrom_47 ?_
        refine lv_icmp_ge (tgt := 55) hx hb d_Mod_nextFrom_48 (by decide) (fun v2 => ?_) (fun v2 => ?_)
        · have e2 := lowS_k (B := B) (f := f) (i := 2) (j := 1) e1 (fun z => absurd ((nI_leI (by omega) (by omega)).mp v2) (by omega))
          refine lv_iload_n hx hb d_Mod_nextFrom_55 rfl (lv_at hl 2 rfl) ?_
          refine lv_istore_n (lv' := [(2, .int 1), (4, .int 1), (3, .int 2), (0, .ref (a 0)), (1, .int (nI f))]) hx hb d_Mod_nextFrom_56 rfl hl (by decide) rfl (fun ls hl => ?_)
          refine lv_iinc (k := 2) (v := 3) (lv' := [(3, .int 3), (2, .int 1), (4, .int 1), (0, .ref (a 0)), (1, .int (nI f))]) hx hb d_Mod_nextFrom_57 hl rfl (by decide) (by decide) rfl (fun ls hl => ?_)
          refine lv_goto (tgt := 4) hx hb d_Mod_nextFrom_60 (by decide) ?_
          refine lv_iload_n hx hb d_Mod_nextFrom_4 rfl (lv_at hl 0 rfl) ?_
          refine lv_iconst (v := 3) hx hb d_Mod_nextFrom_5 (by decide) ?_
          refine lvT_icmp_ge (tgt := 63) hx hb d_Mod_nextFrom_6 (by decide) (by decide) ?_
          refine lv_iload_n hx hb d_Mod_nextFrom_63 rfl (lv_at hl 1 rfl) ?_
          exact W.iret (v := nI 1) hx hb hr (fun t ht hW => ⟨by rw [show lowS B f 3 = _ from e2]; rfl, ht⟩) hq_nl d_Mod_nextFrom_64
        · have e2 := lowS_s (B := B) (f := f) (i := 2) (j := 1) e1 u2 (Nat.not_le.mp (fun z => v2 ((nI_leI (by omega) (by omega)).mpr z)))
          refine lv_iload_n hx hb d_Mod_nextFrom_51 rfl (lv_at hl 1 rfl) ?_
          refine lv_goto (tgt := 56) hx hb d_Mod_nextFrom_52 (by decide) ?_
          refine lv_istore_n (lv' := [(2, .int 2), (4, .int 1), (3, .int 2), (0, .ref (a 0)), (1, .int (nI f))]) hx hb d_Mod_nextFrom_56 rfl hl (by decide) rfl (fun ls hl => ?_)
          refine lv_iinc (k := 2) (v := 3) (lv' := [(3, .int 3), (2, .int 2), (4, .int 1), (0, .ref (a 0)), (1, .int (nI f))]) hx hb d_Mod_nextFrom_57 hl rfl (by decide) (by decide) rfl (fun ls hl => ?_)
          refine lv_goto (tgt := 4) hx hb d_Mod_nextFrom_60 (by decide) ?_
          refine lv_iload_n hx hb d_Mod_nextFrom_4 rfl (lv_at hl 0 rfl) ?_
          refine lv_iconst (v := 3) hx hb d_Mod_nextFrom_5 (by decide) ?_
          refine lvT_icmp_ge (tgt := 63) hx hb d_Mod_nextFrom_6 (by decide) (by decide) ?_
          refine lv_iload_n hx hb d_Mod_nextFrom_63 rfl (lv_at hl 1 rfl) ?_
          exact W.iret (v := nI 2) hx hb hr (fun t ht hW => ⟨by rw [show lowS B f 3 = _ from e2]; rfl, ht⟩) hq_nl d_Mod_nextFrom_64
  · have u0 : f ≤ B 0 := Nat.not_lt.mp (fun z => g0 ((nI_ltI (by omega) (by omega)).mpr z))
    refine lv_iconst (v := 1) hx hb d_Mod_nextFrom_19 (by decide) ?_
    refine lv_goto (tgt := 24) hx hb d_Mod_nextFrom_20 (by decide) ?_
    refine lv_istore (lv' := [(4, .int 1), (3, .int 0), (2, .int (-1)), (0, .ref (a 0)), (1, .int (nI f))]) hx hb d_Mod_nextFrom_24 hl (by decide) rfl (fun ls hl => ?_)
    refine lv_iload hx hb d_Mod_nextFrom_26 (lv_at hl 0 rfl) ?_
    refine lvF_if_eq (tgt := 55) hx hb d_Mod_nextFrom_28 (by decide) (by decide) ?_
    have e0 := lowS_0 (B := B) (f := f) (i := 0) rfl u0
    refine lv_iload_n hx hb d_Mod_nextFrom_31 rfl (lv_at hl 2 rfl) ?_
    refine lv_iconst (v := -1) hx hb d_Mod_nextFrom_32 (by decide) ?_
    refine lvT_icmp_eq (tgt := 51) hx hb d_Mod_nextFrom_33 (by decide) (rfl) ?_
    refine lv_iload_n hx hb d_Mod_nextFrom_51 rfl (lv_at hl 1 rfl) ?_
    refine lv_goto (tgt := 56) hx hb d_Mod_nextFrom_52 (by decide) ?_
    refine lv_istore_n (lv' := [(2, .int 0), (4, .int 1), (3, .int 0), (0, .ref (a 0)), (1, .int (nI f))]) hx hb d_Mod_nextFrom_56 rfl hl (by decide) rfl (fun ls hl => ?_)
    refine lv_iinc (k := 2) (v := 1) (lv' := [(3, .int 1), (2, .int 0), (4, .int 1), (0, .ref (a 0)), (1, .int (nI f))]) hx hb d_Mod_nextFrom_57 hl rfl (by decide) (by decide) rfl (fun ls hl => ?_)
    refine lv_goto (tgt := 4) hx hb d_Mod_nextFrom_60 (by decide) ?_
    refine lv_iload_n hx hb d_Mod_nextFrom_4 rfl (lv_at hl 0 rfl) ?_
    refine lv_iconst (v := 3) hx hb d_Mod_nextFrom_5 (by decide) ?_
    refine lvF_icmp_ge (tgt := 63) hx hb d_Mod_nextFrom_6 (by decide) (by decide) ?_
    refine lv_aload_n hx hb d_Mod_nextFrom_9 rfl (lv_at hl 3 rfl) ?_
    refine mg_base X hK hP d_Mod_nextFrom_10 ?_
    refine lv_iload_n hx hb d_Mod_nextFrom_13 rfl (lv_at hl 0 rfl) ?_
    refine ml_B X hK hP (i := 1) (by decide) d_Mod_nextFrom_14 ?_
    refine lv_iload_n hx hb d_Mod_nextFrom_15 rfl (lv_at hl 4 rfl) ?_
    refine lv_icmp_lt (tgt := 23) hx hb d_Mod_nextFrom_16 (by decide) (fun g1 => ?_) (fun g1 => ?_)
    · have e1 := lowS_n (B := B) (f := f) (i := 1) (r := (some 0)) e0 (fun z => absurd ((nI_ltI (by omega) (by omega)).mp g1) (by omega))
      refine lv_iconst (v := 0) hx hb d_Mod_nextFrom_23 (by decide) ?_
      refine lv_istore (lv' := [(4, .int 0), (3, .int 1), (2, .int 0), (0, .ref (a 0)), (1, .int (nI f))]) hx hb d_Mod_nextFrom_24 hl (by decide) rfl (fun ls hl => ?_)
      refine lv_iload hx hb d_Mod_nextFrom_26 (lv_at hl 0 rfl) ?_
      refine lvT_if_eq (tgt := 55) hx hb d_Mod_nextFrom_28 (by decide) (rfl) ?_
      refine lv_iload_n hx hb d_Mod_nextFrom_55 rfl (lv_at hl 2 rfl) ?_
      refine lv_istore_n (lv' := [(2, .int 0), (4, .int 0), (3, .int 1), (0, .ref (a 0)), (1, .int (nI f))]) hx hb d_Mod_nextFrom_56 rfl hl (by decide) rfl (fun ls hl => ?_)
      refine lv_iinc (k := 2) (v := 2) (lv' := [(3, .int 2), (2, .int 0), (4, .int 0), (0, .ref (a 0)), (1, .int (nI f))]) hx hb d_Mod_nextFrom_57 hl rfl (by decide) (by decide) rfl (fun ls hl => ?_)
      refine lv_goto (tgt := 4) hx hb d_Mod_nextFrom_60 (by decide) ?_
      refine lv_iload_n hx hb d_Mod_nextFrom_4 rfl (lv_at hl 0 rfl) ?_
      refine lv_iconst (v := 3) hx hb d_Mod_nextFrom_5 (by decide) ?_
      refine lvF_icmp_ge (tgt := 63) hx hb d_Mod_nextFrom_6 (by decide) (by decide) ?_
      refine lv_aload_n hx hb d_Mod_nextFrom_9 rfl (lv_at hl 3 rfl) ?_
      refine mg_base X hK hP d_Mod_nextFrom_10 ?_
      refine lv_iload_n hx hb d_Mod_nextFrom_13 rfl (lv_at hl 0 rfl) ?_
      refine ml_B X hK hP (i := 2) (by decide) d_Mod_nextFrom_14 ?_
      refine lv_iload_n hx hb d_Mod_nextFrom_15 rfl (lv_at hl 4 rfl) ?_
      refine lv_icmp_lt (tgt := 23) hx hb d_Mod_nextFrom_16 (by decide) (fun g2 => ?_) (fun g2 => ?_)
      · have e2 := lowS_n (B := B) (f := f) (i := 2) (r := (some 0)) e1 (fun z => absurd ((nI_ltI (by omega) (by omega)).mp g2) (by omega))
        refine lv_iconst (v := 0) hx hb d_Mod_nextFrom_23 (by decide) ?_
        refine lv_istore (lv' := [(4, .int 0), (3, .int 2), (2, .int 0), (0, .ref (a 0)), (1, .int (nI f))]) hx hb d_Mod_nextFrom_24 hl (by decide) rfl (fun ls hl => ?_)
        refine lv_iload hx hb d_Mod_nextFrom_26 (lv_at hl 0 rfl) ?_
        refine lvT_if_eq (tgt := 55) hx hb d_Mod_nextFrom_28 (by decide) (rfl) ?_
        refine lv_iload_n hx hb d_Mod_nextFrom_55 rfl (lv_at hl 2 rfl) ?_
        refine lv_istore_n (lv' := [(2, .int 0), (4, .int 0), (3, .int 2), (0, .ref (a 0)), (1, .int (nI f))]) hx hb d_Mod_nextFrom_56 rfl hl (by decide) rfl (fun ls hl => ?_)
        refine lv_iinc (k := 2) (v := 3) (lv' := [(3, .int 3), (2, .int 0), (4, .int 0), (0, .ref (a 0)), (1, .int (nI f))]) hx hb d_Mod_nextFrom_57 hl rfl (by decide) (by decide) rfl (fun ls hl => ?_)
        refine lv_goto (tgt := 4) hx hb d_Mod_nextFrom_60 (by decide) ?_
        refine lv_iload_n hx hb d_Mod_nextFrom_4 rfl (lv_at hl 0 rfl) ?_
        refine lv_iconst (v := 3) hx hb d_Mod_nextFrom_5 (by decide) ?_
        refine lvT_icmp_ge (tgt := 63) hx hb d_Mod_nextFrom_6 (by decide) (by decide) ?_
        refine lv_iload_n hx hb d_Mod_nextFrom_63 rfl (lv_at hl 1 rfl) ?_
        exact W.iret (v := nI 0) hx hb hr (fun t ht hW => ⟨by rw [show lowS B f 3 = _ from e2]; rfl, ht⟩) hq_nl d_Mod_nextFrom_64
      · have u2 : f ≤ B 2 := Nat.not_lt.mp (fun z => g2 ((nI_ltI (by omega) (by omega)).mpr z))
        refine lv_iconst (v := 1) hx hb d_Mod_nextFrom_19 (by decide) ?_
        refine lv_goto (tgt := 24) hx hb d_Mod_nextFrom_20 (by decide) ?_
        refine lv_istore (lv' := [(4, .int 1), (3, .int 2), (2, .int 0), (0, .ref (a 0)), (1, .int (nI f))]) hx hb d_Mod_nextFrom_24 hl (by decide) rfl (fun ls hl => ?_)
        refine lv_iload hx hb d_Mod_nextFrom_26 (lv_at hl 0 rfl) ?_
        refine lvF_if_eq (tgt := 55) hx hb d_Mod_nextFrom_28 (by decide) (by decide) ?_
        refine lv_iload_n hx hb d_Mod_nextFrom_31 rfl (lv_at hl 2 rfl) ?_
        refine lv_iconst (v := -1) hx hb d_Mod_nextFrom_32 (by decide) ?_
        refine lvF_icmp_eq (tgt := 51) hx hb d_Mod_nextFrom_33 (by decide) (by decide) ?_
        refine lv_aload_n hx hb d_Mod_nextFrom_36 rfl (lv_at hl 3 rfl) ?_
        refine mg_base X hK hP d_Mod_nextFrom_37 ?_
        refine lv_iload_n hx hb d_Mod_nextFrom_40 rfl (lv_at hl 1 rfl) ?_
        refine ml_B X hK hP (i := 2) (by decide) d_Mod_nextFrom_41 ?_
        refine lv_aload_n hx hb d_Mod_nextFrom_42 rfl (lv_at hl 3 rfl) ?_
        refine mg_base X hK hP d_Mod_nextFrom_43 ?_
        refine lv_iload_n hx hb d_Mod_nextFrom_46 rfl (lv_at hl 2 rfl) ?_
        refine ml_B X hK hP (i := 0) (by decide) d_Mod_nextFrom_47 ?_
        refine lv_icmp_ge (tgt := 55) hx hb d_Mod_nextFrom_48 (by decide) (fun v2 => ?_) (fun v2 => ?_)
        · have e2 := lowS_k (B := B) (f := f) (i := 2) (j := 0) e1 (fun z => absurd ((nI_leI (by omega) (by omega)).mp v2) (by omega))
          refine lv_iload_n hx hb d_Mod_nextFrom_55 rfl (lv_at hl 2 rfl) ?_
          refine lv_istore_n (lv' := [(2, .int 0), (4, .int 1), (3, .int 2), (0, .ref (a 0)), (1, .int (nI f))]) hx hb d_Mod_nextFrom_56 rfl hl (by decide) rfl (fun ls hl => ?_)
          refine lv_iinc (k := 2) (v := 3) (lv' := [(3, .int 3), (2, .int 0), (4, .int 1), (0, .ref (a 0)), (1, .int (nI f))]) hx hb d_Mod_nextFrom_57 hl rfl (by decide) (by decide) rfl (fun ls hl => ?_)
          refine lv_goto (tgt := 4) hx hb d_Mod_nextFrom_60 (by decide) ?_
          refine lv_iload_n hx hb d_Mod_nextFrom_4 rfl (lv_at hl 0 rfl) ?_
          refine lv_iconst (v := 3) hx hb d_Mod_nextFrom_5 (by decide) ?_
          refine lvT_icmp_ge (tgt := 63) hx hb d_Mod_nextFrom_6 (by decide) (by decide) ?_
          refine lv_iload_n hx hb d_Mod_nextFrom_63 rfl (lv_at hl 1 rfl) ?_
          exact W.iret (v := nI 0) hx hb hr (fun t ht hW => ⟨by rw [show lowS B f 3 = _ from e2]; rfl, ht⟩) hq_nl d_Mod_nextFrom_64
        · have e2 := lowS_s (B := B) (f := f) (i := 2) (j := 0) e1 u2 (Nat.not_le.mp (fun z => v2 ((nI_leI (by omega) (by omega)).mpr z)))
          refine lv_iload_n hx hb d_Mod_nextFrom_51 rfl (lv_at hl 1 rfl) ?_
          refine lv_goto (tgt := 56) hx hb d_Mod_nextFrom_52 (by decide) ?_
          refine lv_istore_n (lv' := [(2, .int 2), (4, .int 1), (3, .int 2), (0, .ref (a 0)), (1, .int (nI f))]) hx hb d_Mod_nextFrom_56 rfl hl (by decide) rfl (fun ls hl => ?_)
          refine lv_iinc (k := 2) (v := 3) (lv' := [(3, .int 3), (2, .int 2), (4, .int 1), (0, .ref (a 0)), (1, .int (nI f))]) hx hb d_Mod_nextFrom_57 hl rfl (by decide) (by decide) rfl (fun ls hl => ?_)
          refine lv_goto (tgt := 4) hx hb d_Mod_nextFrom_60 (by decide) ?_
          refine lv_iload_n hx hb d_Mod_nextFrom_4 rfl (lv_at hl 0 rfl) ?_
          refine lv_iconst (v := 3) hx hb d_Mod_nextFrom_5 (by decide) ?_
          refine lvT_icmp_ge (tgt := 63) hx hb d_Mod_nextFrom_6 (by decide) (by decide) ?_
          refine lv_iload_n hx hb d_Mod_nextFrom_63 rfl (lv_at hl 1 rfl) ?_
          exact W.iret (v := nI 2) hx hb hr (fun t ht hW => ⟨by rw [show lowS B f 3 = _ from e2]; rfl, ht⟩) hq_nl d_Mod_nextFrom_64
    · have u1 : f ≤ B 1 := Nat.not_lt.mp (fun z => g1 ((nI_ltI (by omega) (by omega)).mpr z))
      refine lv_iconst (v := 1) hx hb d_Mod_nextFrom_19 (by decide) ?_
      refine lv_goto (tgt := 24) hx hb d_Mod_nextFrom_20 (by decide) ?_
      refine lv_istore (lv' := [(4, .int 1), (3, .int 1), (2, .int 0), (0, .ref (a 0)), (1, .int (nI f))]) hx hb d_Mod_nextFrom_24 hl (by decide) rfl (fun ls hl => ?_)
      refine lv_iload hx hb d_Mod_nextFrom_26 (lv_at hl 0 rfl) ?_
      refine lvF_if_eq (tgt := 55) hx hb d_Mod_nextFrom_28 (by decide) (by decide) ?_
      refine lv_iload_n hx hb d_Mod_nextFrom_31 rfl (lv_at hl 2 rfl) ?_
      refine lv_iconst (v := -1) hx hb d_Mod_nextFrom_32 (by decide) ?_
      refine lvF_icmp_eq (tgt := 51) hx hb d_Mod_nextFrom_33 (by decide) (by decide) ?_
      refine lv_aload_n hx hb d_Mod_nextFrom_36 rfl (lv_at hl 3 rfl) ?_
      refine mg_base X hK hP d_Mod_nextFrom_37 ?_
      refine lv_iload_n hx hb d_Mod_nextFrom_40 rfl (lv_at hl 1 rfl) ?_
      refine ml_B X hK hP (i := 1) (by decide) d_Mod_nextFrom_41 ?_
      refine lv_aload_n hx hb d_Mod_nextFrom_42 rfl (lv_at hl 3 rfl) ?_
      refine mg_base X hK hP d_Mod_nextFrom_43 ?_
      refine lv_iload_n hx hb d_Mod_nextFrom_46 rfl (lv_at hl 2 rfl) ?_
      refine ml_B X hK hP (i := 0) (by decide) d_Mod_nextFrom_47 ?_
      refine lv_icmp_ge (tgt := 55) hx hb d_Mod_nextFrom_48 (by decide) (fun v1 => ?_) (fun v1 => ?_)
      · have e1 := lowS_k (B := B) (f := f) (i := 1) (j := 0) e0 (fun z => absurd ((nI_leI (by omega) (by omega)).mp v1) (by omega))
        refine lv_iload_n hx hb d_Mod_nextFrom_55 rfl (lv_at hl 2 rfl) ?_
        refine lv_istore_n (lv' := [(2, .int 0), (4, .int 1), (3, .int 1), (0, .ref (a 0)), (1, .int (nI f))]) hx hb d_Mod_nextFrom_56 rfl hl (by decide) rfl (fun ls hl => ?_)
        refine lv_iinc (k := 2) (v := 2) (lv' := [(3, .int 2), (2, .int 0), (4, .int 1), (0, .ref (a 0)), (1, .int (nI f))]) hx hb d_Mod_nextFrom_57 hl rfl (by decide) (by decide) rfl (fun ls hl => ?_)
        refine lv_goto (tgt := 4) hx hb d_Mod_nextFrom_60 (by decide) ?_
        refine lv_iload_n hx hb d_Mod_nextFrom_4 rfl (lv_at hl 0 rfl) ?_
        refine lv_iconst (v := 3) hx hb d_Mod_nextFrom_5 (by decide) ?_
        refine lvF_icmp_ge (tgt := 63) hx hb d_Mod_nextFrom_6 (by decide) (by decide) ?_
        refine lv_aload_n hx hb d_Mod_nextFrom_9 rfl (lv_at hl 3 rfl) ?_
        refine mg_base X hK hP d_Mod_nextFrom_10 ?_
        refine lv_iload_n hx hb d_Mod_nextFrom_13 rfl (lv_at hl 0 rfl) ?_
        refine ml_B X hK hP (i := 2) (by decide) d_Mod_nextFrom_14 ?_
        refine lv_iload_n hx hb d_Mod_nextFrom_15 rfl (lv_at hl 4 rfl) ?_
        refine lv_icmp_lt (tgt := 23) hx hb d_Mod_nextFrom_16 (by decide) (fun g2 => ?_) (fun g2 => ?_)
        · have e2 := lowS_n (B := B) (f := f) (i := 2) (r := (some 0)) e1 (fun z => absurd ((nI_ltI (by omega) (by omega)).mp g2) (by omega))
          refine lv_iconst (v := 0) hx hb d_Mod_nextFrom_23 (by decide) ?_
          refine lv_istore (lv' := [(4, .int 0), (3, .int 2), (2, .int 0), (0, .ref (a 0)), (1, .int (nI f))]) hx hb d_Mod_nextFrom_24 hl (by decide) rfl (fun ls hl => ?_)
          refine lv_iload hx hb d_Mod_nextFrom_26 (lv_at hl 0 rfl) ?_
          refine lvT_if_eq (tgt := 55) hx hb d_Mod_nextFrom_28 (by decide) (rfl) ?_
          refine lv_iload_n hx hb d_Mod_nextFrom_55 rfl (lv_at hl 2 rfl) ?_
          refine lv_istore_n (lv' := [(2, .int 0), (4, .int 0), (3, .int 2), (0, .ref (a 0)), (1, .int (nI f))]) hx hb d_Mod_nextFrom_56 rfl hl (by decide) rfl (fun ls hl => ?_)
          refine lv_iinc (k := 2) (v := 3) (lv' := [(3, .int 3), (2, .int 0), (4, .int 0), (0, .ref (a 0)), (1, .int (nI f))]) hx hb d_Mod_nextFrom_57 hl rfl (by decide) (by decide) rfl (fun ls hl => ?_)
          refine lv_goto (tgt := 4) hx hb d_Mod_nextFrom_60 (by decide) ?_
          refine lv_iload_n hx hb d_Mod_nextFrom_4 rfl (lv_at hl 0 rfl) ?_
          refine lv_iconst (v := 3) hx hb d_Mod_nextFrom_5 (by decide) ?_
          refine lvT_icmp_ge (tgt := 63) hx hb d_Mod_nextFrom_6 (by decide) (by decide) ?_
          refine lv_iload_n hx hb d_Mod_nextFrom_63 rfl (lv_at hl 1 rfl) ?_
          exact W.iret (v := nI 0) hx hb hr (fun t ht hW => ⟨by rw [show lowS B f 3 = _ from e2]; rfl, ht⟩) hq_nl d_Mod_nextFrom_64
        · have u2 : f ≤ B 2 := Nat.not_lt.mp (fun z => g2 ((nI_ltI (by omega) (by omega)).mpr z))
          refine lv_iconst (v := 1) hx hb d_Mod_nextFrom_19 (by decide) ?_
          refine lv_goto (tgt := 24) hx hb d_Mod_nextFrom_20 (by decide) ?_
          refine lv_istore (lv' := [(4, .int 1), (3, .int 2), (2, .int 0), (0, .ref (a 0)), (1, .int (nI f))]) hx hb d_Mod_nextFrom_24 hl (by decide) rfl (fun ls hl => ?_)
          refine lv_iload hx hb d_Mod_nextFrom_26 (lv_at hl 0 rfl) ?_
          refine lvF_if_eq (tgt := 55) hx hb d_Mod_nextFrom_28 (by decide) (by decide) ?_
          refine lv_iload_n hx hb d_Mod_nextFrom_31 rfl (lv_at hl 2 rfl) ?_
          refine lv_iconst (v := -1) hx hb d_Mod_nextFrom_32 (by decide) ?_
          refine lvF_icmp_eq (tgt := 51) hx hb d_Mod_nextFrom_33 (by decide) (by decide) ?_
          refine lv_aload_n hx hb d_Mod_nextFrom_36 rfl (lv_at hl 3 rfl) ?_
          refine mg_base X hK hP d_Mod_nextFrom_37 ?_
          refine lv_iload_n hx hb d_Mod_nextFrom_40 rfl (lv_at hl 1 rfl) ?_
          refine ml_B X hK hP (i := 2) (by decide) d_Mod_nextFrom_41 ?_
          refine lv_aload_n hx hb d_Mod_nextFrom_42 rfl (lv_at hl 3 rfl) ?_
          refine mg_base X hK hP d_Mod_nextFrom_43 ?_
          refine lv_iload_n hx hb d_Mod_nextFrom_46 rfl (lv_at hl 2 rfl) ?_
          refine ml_B X hK hP (i := 0) (by decide) d_Mod_nextFrom_47 ?_
          refine lv_icmp_ge (tgt := 55) hx hb d_Mod_nextFrom_48 (by decide) (fun v2 => ?_) (fun v2 => ?_)
          · have e2 := lowS_k (B := B) (f := f) (i := 2) (j := 0) e1 (fun z => absurd ((nI_leI (by omega) (by omega)).mp v2) (by omega))
            refine lv_iload_n hx hb d_Mod_nextFrom_55 rfl (lv_at hl 2 rfl) ?_
            refine lv_istore_n (lv' := [(2, .int 0), (4, .int 1), (3, .int 2), (0, .ref (a 0)), (1, .int (nI f))]) hx hb d_Mod_nextFrom_56 rfl hl (by decide) rfl (fun ls hl => ?_)
            refine lv_iinc (k := 2) (v := 3) (lv' := [(3, .int 3), (2, .int 0), (4, .int 1), (0, .ref (a 0)), (1, .int (nI f))]) hx hb d_Mod_nextFrom_57 hl rfl (by decide) (by decide) rfl (fun ls hl => ?_)
            refine lv_goto (tgt := 4) hx hb d_Mod_nextFrom_60 (by decide) ?_
            refine lv_iload_n hx hb d_Mod_nextFrom_4 rfl (lv_at hl 0 rfl) ?_
            refine lv_iconst (v := 3) hx hb d_Mod_nextFrom_5 (by decide) ?_
            refine lvT_icmp_ge (tgt := 63) hx hb d_Mod_nextFrom_6 (by decide) (by decide) ?_
            refine lv_iload_n hx hb d_Mod_nextFrom_63 rfl (lv_at hl 1 rfl) ?_
            exact W.iret (v := nI 0) hx hb hr (fun t ht hW => ⟨by rw [show lowS B f 3 = _ from e2]; rfl, ht⟩) hq_nl d_Mod_nextFrom_64
          · have e2 := lowS_s (B := B) (f := f) (i := 2) (j := 0) e1 u2 (Nat.not_le.mp (fun z => v2 ((nI_leI (by omega) (by omega)).mpr z)))
            refine lv_iload_n hx hb d_Mod_nextFrom_51 rfl (lv_at hl 1 rfl) ?_
            refine lv_goto (tgt := 56) hx hb d_Mod_nextFrom_52 (by decide) ?_
            refine lv_istore_n (lv' := [(2, .int 2), (4, .int 1), (3, .int 2), (0, .ref (a 0)), (1, .int (nI f))]) hx hb d_Mod_nextFrom_56 rfl hl (by decide) rfl (fun ls hl => ?_)
            refine lv_iinc (k := 2) (v := 3) (lv' := [(3, .int 3), (2, .int 2), (4, .int 1), (0, .ref (a 0)), (1, .int (nI f))]) hx hb d_Mod_nextFrom_57 hl rfl (by decide) (by decide) rfl (fun ls hl => ?_)
            refine lv_goto (tgt := 4) hx hb d_Mod_nextFrom_60 (by decide) ?_
            refine lv_iload_n hx hb d_Mod_nextFrom_4 rfl (lv_at hl 0 rfl) ?_
            refine lv_iconst (v := 3) hx hb d_Mod_nextFrom_5 (by decide) ?_
            refine lvT_icmp_ge (tgt := 63) hx hb d_Mod_nextFrom_6 (by decide) (by decide) ?_
            refine lv_iload_n hx hb d_Mod_nextFrom_63 rfl (lv_at hl 1 rfl) ?_
            exact W.iret (v := nI 2) hx hb hr (fun t ht hW => ⟨by rw [show lowS B f 3 = _ from e2]; rfl, ht⟩) hq_nl d_Mod_nextFrom_64
      · have e1 := lowS_s (B := B) (f := f) (i := 1) (j := 0) e0 u1 (Nat.not_le.mp (fun z => v1 ((nI_leI (by omega) (by omega)).mpr z)))
        refine lv_iload_n hx hb d_Mod_nextFrom_51 rfl (lv_at hl 1 rfl) ?_
        refine lv_goto (tgt := 56) hx hb d_Mod_nextFrom_52 (by decide) ?_
        refine lv_istore_n (lv' := [(2, .int 1), (4, .int 1), (3, .int 1), (0, .ref (a 0)), (1, .int (nI f))]) hx hb d_Mod_nextFrom_56 rfl hl (by decide) rfl (fun ls hl => ?_)
        refine lv_iinc (k := 2) (v := 2) (lv' := [(3, .int 2), (2, .int 1), (4, .int 1), (0, .ref (a 0)), (1, .int (nI f))]) hx hb d_Mod_nextFrom_57 hl rfl (by decide) (by decide) rfl (fun ls hl => ?_)
        refine lv_goto (tgt := 4) hx hb d_Mod_nextFrom_60 (by decide) ?_
        refine lv_iload_n hx hb d_Mod_nextFrom_4 rfl (lv_at hl 0 rfl) ?_
        refine lv_iconst (v := 3) hx hb d_Mod_nextFrom_5 (by decide) ?_
        refine lvF_icmp_ge (tgt := 63) hx hb d_Mod_nextFrom_6 (by decide) (by decide) ?_
        refine lv_aload_n hx hb d_Mod_nextFrom_9 rfl (lv_at hl 3 rfl) ?_
        refine mg_base X hK hP d_Mod_nextFrom_10 ?_
        refine lv_iload_n hx hb d_Mod_nextFrom_13 rfl (lv_at hl 0 rfl) ?_
        refine ml_B X hK hP (i := 2) (by decide) d_Mod_nextFrom_14 ?_
        refine lv_iload_n hx hb d_Mod_nextFrom_15 rfl (lv_at hl 4 rfl) ?_
        refine lv_icmp_lt (tgt := 23) hx hb d_Mod_nextFrom_16 (by decide) (fun g2 => ?_) (fun g2 => ?_)
        · have e2 := lowS_n (B := B) (f := f) (i := 2) (r := (some 1)) e1 (fun z => absurd ((nI_ltI (by omega) (by omega)).mp g2) (by omega))
          refine lv_iconst (v := 0) hx hb d_Mod_nextFrom_23 (by decide) ?_
          refine lv_istore (lv' := [(4, .int 0), (3, .int 2), (2, .int 1), (0, .ref (a 0)), (1, .int (nI f))]) hx hb d_Mod_nextFrom_24 hl (by decide) rfl (fun ls hl => ?_)
          refine lv_iload hx hb d_Mod_nextFrom_26 (lv_at hl 0 rfl) ?_
          refine lvT_if_eq (tgt := 55) hx hb d_Mod_nextFrom_28 (by decide) (rfl) ?_
          refine lv_iload_n hx hb d_Mod_nextFrom_55 rfl (lv_at hl 2 rfl) ?_
          refine lv_istore_n (lv' := [(2, .int 1), (4, .int 0), (3, .int 2), (0, .ref (a 0)), (1, .int (nI f))]) hx hb d_Mod_nextFrom_56 rfl hl (by decide) rfl (fun ls hl => ?_)
          refine lv_iinc (k := 2) (v := 3) (lv' := [(3, .int 3), (2, .int 1), (4, .int 0), (0, .ref (a 0)), (1, .int (nI f))]) hx hb d_Mod_nextFrom_57 hl rfl (by decide) (by decide) rfl (fun ls hl => ?_)
          refine lv_goto (tgt := 4) hx hb d_Mod_nextFrom_60 (by decide) ?_
          refine lv_iload_n hx hb d_Mod_nextFrom_4 rfl (lv_at hl 0 rfl) ?_
          refine lv_iconst (v := 3) hx hb d_Mod_nextFrom_5 (by decide) ?_
          refine lvT_icmp_ge (tgt := 63) hx hb d_Mod_nextFrom_6 (by decide) (by decide) ?_
          refine lv_iload_n hx hb d_Mod_nextFrom_63 rfl (lv_at hl 1 rfl) ?_
          exact W.iret (v := nI 1) hx hb hr (fun t ht hW => ⟨by rw [show lowS B f 3 = _ from e2]; rfl, ht⟩) hq_nl d_Mod_nextFrom_64
        · have u2 : f ≤ B 2 := Nat.not_lt.mp (fun z => g2 ((nI_ltI (by omega) (by omega)).mpr z))
          refine lv_iconst (v := 1) hx hb d_Mod_nextFrom_19 (by decide) ?_
          refine lv_goto (tgt := 24) hx hb d_Mod_nextFrom_20 (by decide) ?_
          refine lv_istore (lv' := [(4, .int 1), (3, .int 2), (2, .int 1), (0, .ref (a 0)), (1, .int (nI f))]) hx hb d_Mod_nextFrom_24 hl (by decide) rfl (fun ls hl => ?_)
          refine lv_iload hx hb d_Mod_nextFrom_26 (lv_at hl 0 rfl) ?_
          refine lvF_if_eq (tgt := 55) hx hb d_Mod_nextFrom_28 (by decide) (by decide) ?_
          refine lv_iload_n hx hb d_Mod_nextFrom_31 rfl (lv_at hl 2 rfl) ?_
          refine lv_iconst (v := -1) hx hb d_Mod_nextFrom_32 (by decide) ?_
          refine lvF_icmp_eq (tgt := 51) hx hb d_Mod_nextFrom_33 (by decide) (by decide) ?_
          refine lv_aload_n hx hb d_Mod_nextFrom_36 rfl (lv_at hl 3 rfl) ?_
          refine mg_base X hK hP d_Mod_nextFrom_37 ?_
          refine lv_iload_n hx hb d_Mod_nextFrom_40 rfl (lv_at hl 1 rfl) ?_
          refine ml_B X hK hP (i := 2) (by decide) d_Mod_nextFrom_41 ?_
          refine lv_aload_n hx hb d_Mod_nextFrom_42 rfl (lv_at hl 3 rfl) ?_
          refine mg_base X hK hP d_Mod_nextFrom_43 ?_
          refine lv_iload_n hx hb d_Mod_nextFrom_46 rfl (lv_at hl 2 rfl) ?_
          refine ml_B X hK hP (i := 1) (by decide) d_Mod_nextFrom_47 ?_
          refine lv_icmp_ge (tgt := 55) hx hb d_Mod_nextFrom_48 (by decide) (fun v2 => ?_) (fun v2 => ?_)
          · have e2 := lowS_k (B := B) (f := f) (i := 2) (j := 1) e1 (fun z => absurd ((nI_leI (by omega) (by omega)).mp v2) (by omega))
            refine lv_iload_n hx hb d_Mod_nextFrom_55 rfl (lv_at hl 2 rfl) ?_
            refine lv_istore_n (lv' := [(2, .int 1), (4, .int 1), (3, .int 2), (0, .ref (a 0)), (1, .int (nI f))]) hx hb d_Mod_nextFrom_56 rfl hl (by decide) rfl (fun ls hl => ?_)
            refine lv_iinc (k := 2) (v := 3) (lv' := [(3, .int 3), (2, .int 1), (4, .int 1), (0, .ref (a 0)), (1, .int (nI f))]) hx hb d_Mod_nextFrom_57 hl rfl (by decide) (by decide) rfl (fun ls hl => ?_)
            refine lv_goto (tgt := 4) hx hb d_Mod_nextFrom_60 (by decide) ?_
            refine lv_iload_n hx hb d_Mod_nextFrom_4 rfl (lv_at hl 0 rfl) ?_
            refine lv_iconst (v := 3) hx hb d_Mod_nextFrom_5 (by decide) ?_
            refine lvT_icmp_ge (tgt := 63) hx hb d_Mod_nextFrom_6 (by decide) (by decide) ?_
            refine lv_iload_n hx hb d_Mod_nextFrom_63 rfl (lv_at hl 1 rfl) ?_
            exact W.iret (v := nI 1) hx hb hr (fun t ht hW => ⟨by rw [show lowS B f 3 = _ from e2]; rfl, ht⟩) hq_nl d_Mod_nextFrom_64
          · have e2 := lowS_s (B := B) (f := f) (i := 2) (j := 1) e1 u2 (Nat.not_le.mp (fun z => v2 ((nI_leI (by omega) (by omega)).mpr z)))
            refine lv_iload_n hx hb d_Mod_nextFrom_51 rfl (lv_at hl 1 rfl) ?_
            refine lv_goto (tgt := 56) hx hb d_Mod_nextFrom_52 (by decide) ?_
            refine lv_istore_n (lv' := [(2, .int 2), (4, .int 1), (3, .int 2), (0, .ref (a 0)), (1, .int (nI f))]) hx hb d_Mod_nextFrom_56 rfl hl (by decide) rfl (fun ls hl => ?_)
            refine lv_iinc (k := 2) (v := 3) (lv' := [(3, .int 3), (2, .int 2), (4, .int 1), (0, .ref (a 0)), (1, .int (nI f))]) hx hb d_Mod_nextFrom_57 hl rfl (by decide) (by decide) rfl (fun ls hl => ?_)
            refine lv_goto (tgt := 4) hx hb d_Mod_nextFrom_60 (by decide) ?_
            refine lv_iload_n hx hb d_Mod_nextFrom_4 rfl (lv_at hl 0 rfl) ?_
            refine lv_iconst (v := 3) hx hb d_Mod_nextFrom_5 (by decide) ?_
            refine lvT_icmp_ge (tgt := 63) hx hb d_Mod_nextFrom_6 (by decide) (by decide) ?_
            refine lv_iload_n hx hb d_Mod_nextFrom_63 rfl (lv_at hl 1 rfl) ?_
            exact W.iret (v := nI 2) hx hb hr (fun t ht hW => ⟨by rw [show lowS B f 3 = _ from e2]; rfl, ht⟩) hq_nl d_Mod_nextFrom_64
section MKB
variable {p : Program} {l : Launch} {e : Env} {R : Room} {s : State} {m0 : MethodId} {args : Array Value} {below : List Frame} {meth : Method} {c : Code} {H : Heap} {locs : List Loc} {cells slots : Nat} {Q : State → Prop}
variable {cc : ByteArray} {pc nL : Nat} {ls : Array Slot} {rest st0 : List Value} {D : va_G} {A : Nat → Prop} {H0 : Heap} {tys : List (ClassId × FieldType)} {ca a : Nat → Nat} {z : Int32} {F : BT} {K V : IT} {P B : Nat → Nat} {S C : IT} {N : Nat} {HK HV : IT} {OF : BT} {OK OV : IT}
theorem km_endOf (X : CallFix p m0 c cc nL s args wsA R_Mod) (hK : va_K D mCl (tyM ca) s) (hP : va_P D mCl (wM ca a z F K V P B S C N HK HV OF OK OV) H) (hsz : ls.size = nL) {m g cz : Nat} (hm : m < 3) (hg : g < 3) (hrm : (rest.map fun v => v.category).sum ≤ 8) (hf : cells ≤ R.cells ∧ slots ≤ R.slots) (hR : 1 ≤ R.frames ∧ 30 ≤ R.locals) (d : decode cc pc = .ok (.invokevirtual 74, 3)) (kk9 : W p l e R s m0 args below meth c H locs cells slots Q (F0 m0 (pc + 3) ls (.int (nI (B m + va_up P g cz m)) :: rest))) : W p l e R s m0 args below meth c H locs cells slots Q (F0 m0 pc ls (.int (nI cz) :: .int (nI g) :: .int (nI m) :: .ref (a 0) :: rest)) :=
  hr_V (As := [.int (nI m), .int (nI g), .int (nI cz)]) (v := some (.int (nI (B m + va_up P g cz m)))) (C := R_Mod) X (c_Mod_endOf l D ca a z F K V P B S C N HK HV OF OK OV m hm g cz hg) (cwV 3 X.2.2.2.2 g_Mod_endOf rfl rfl rfl (by decide +kernel) ⟨by show 0 + 1 ≤ _; omega, by show 8 + (4 + 11) + 30 * 0 ≤ _; omega⟩) hP hK (va_recv (q0 := 0) (ci := 2) (q := (R_Mod, F_Mod, 14)) hK hP rfl rfl) rfl hsz rfl hrm hf d kk9
theorem km_nextFrom (X : CallFix p m0 c cc nL s args wsA R_Mod) (hK : va_K D mCl (tyM ca) s) (hP : va_P D mCl (wM ca a z F K V P B S C N HK HV OF OK OV) H) (hsz : ls.size = nL) {f : Nat} (hf9 : f < 65536) (hb0 : B 0 ≤ 256) (hb1 : B 1 ≤ 256) (hb2 : B 2 ≤ 256) (hrm : (rest.map fun v => v.category).sum ≤ 8) (hf : cells ≤ R.cells ∧ slots ≤ R.slots) (hR : 1 ≤ R.frames ∧ 30 ≤ R.locals) (d : decode cc pc = .ok (.invokevirtual 77, 3)) (kk9 : W p l e R s m0 args below meth c H locs cells slots Q (F0 m0 (pc + 3) ls (.int (oI (lowS B f 3)) :: rest))) : W p l e R s m0 args below meth c H locs cells slots Q (F0 m0 pc ls (.int (nI f) :: .ref (a 0) :: rest)) :=
  hr_V (As := [.int (nI f)]) (v := some (.int (oI (lowS B f 3)))) (C := R_Mod) X (c_Mod_nextFrom l D ca a z F K V P B S C N HK HV OF OK OV f hf9 hb0 hb1 hb2) (cwV 1 X.2.2.2.2 g_Mod_nextFrom rfl rfl rfl (by decide +kernel) ⟨by show 0 + 1 ≤ _; omega, by show 8 + (5 + 11) + 30 * 0 ≤ _; omega⟩) hP hK (va_recv (q0 := 0) (ci := 2) (q := (R_Mod, F_Mod, 14)) hK hP rfl rfl) rfl hsz rfl hrm hf d kk9
theorem km_hold (X : CallFix p m0 c cc nL s args wsA R_Mod) (hK : va_K D mCl (tyM ca) s) (hP : va_P D mCl (wM ca a z F K V P B S C N HK HV OF OK OV) H) (hD : va_D A (wM ca a z F K V P B S C N HK HV OF OK OV)) (hS : va_S A H0 H locs) (hsz : ls.size = nL) {m : Nat} (hm : m < 3) (hp9 : P m ≤ 128) (hrm : (rest.map fun v => v.category).sum ≤ 8) (hf : cells ≤ R.cells ∧ slots ≤ R.slots) (hR : 1 ≤ R.frames ∧ 30 ≤ R.locals) (d : decode cc pc = .ok (.invokevirtual 107, 3)) (kk9 : ∀ (H1 : Heap) (locs1 : List Loc), va_P D mCl (wM ca a z F K V P B S C (hld F K V HK HV (128 * m) (P m) 128).1 (hld F K V HK HV (128 * m) (P m) 128).2.1 (hld F K V HK HV (128 * m) (P m) 128).2.2 (cpLB OF F (128 * m) 128) (cpL OK K (128 * m) 128) (cpL OV V (128 * m) 128)) H1 → va_D A (wM ca a z F K V P B S C (hld F K V HK HV (128 * m) (P m) 128).1 (hld F K V HK HV (128 * m) (P m) 128).2.1 (hld F K V HK HV (128 * m) (P m) 128).2.2 (cpLB OF F (128 * m) 128) (cpL OK K (128 * m) 128) (cpL OV V (128 * m) 128)) → va_S A H0 H1 locs1 → W p l e R s m0 args below meth c H1 locs1 cells slots Q (F0 m0 (pc + 3) ls (rest))) : W p l e R s m0 args below meth c H locs cells slots Q (F0 m0 pc ls (.int (nI m) :: .ref (a 0) :: rest)) :=
  hw_V (As := [.int (nI m)]) (v := none) (C := R_Mod) X (c_Mod_hold l D ca a z F K V P B S C N HK HV OF OK OV m hm hp9) (cwV 1 X.2.2.2.2 g_Mod_hold rfl rfl rfl (by decide +kernel) ⟨by show 0 + 1 ≤ _; omega, by show 8 + (3 + 11) + 30 * 0 ≤ _; omega⟩) hP hK hD hS wM_a (va_recv (q0 := 0) (ci := 2) (q := (R_Mod, F_Mod, 14)) hK hP rfl rfl) rfl hsz rfl hrm hf d kk9
theorem km_putBack (X : CallFix p m0 c cc nL s args wsA R_Mod) (hK : va_K D mCl (tyM ca) s) (hP : va_P D mCl (wM ca a z F K V P B S C N HK HV OF OK OV) H) (hD : va_D A (wM ca a z F K V P B S C N HK HV OF OK OV)) (hS : va_S A H0 H locs) (hsz : ls.size = nL) {m cz : Nat} {sd : Int32} (hm : m < 3) (hrm : (rest.map fun v => v.category).sum ≤ 8) (hf : cells ≤ R.cells ∧ slots ≤ R.slots) (hR : 1 ≤ R.frames ∧ 30 ≤ R.locals) (d : decode cc pc = .ok (.invokevirtual 97, 3)) (kk9 : ∀ (H1 : Heap) (locs1 : List Loc), va_P D mCl (wM ca a z (pbB F OF (128 * m) 128) (pbL K OK (128 * m) 128) (pbL V OV (128 * m) 128) (va_up P m cz) B (upd S m sd) C N HK HV OF OK OV) H1 → va_D A (wM ca a z (pbB F OF (128 * m) 128) (pbL K OK (128 * m) 128) (pbL V OV (128 * m) 128) (va_up P m cz) B (upd S m sd) C N HK HV OF OK OV) → va_S A H0 H1 locs1 → W p l e R s m0 args below meth c H1 locs1 cells slots Q (F0 m0 (pc + 3) ls (rest))) : W p l e R s m0 args below meth c H locs cells slots Q (F0 m0 pc ls (.int sd :: .int (nI cz) :: .int (nI m) :: .ref (a 0) :: rest)) :=
  hw_V (As := [.int (nI m), .int (nI cz), .int sd]) (v := none) (C := R_Mod) X (c_Mod_putBack l D ca a z F K V P B S C N HK HV OF OK OV m hm cz sd) (cwV 3 X.2.2.2.2 g_Mod_putBack rfl rfl rfl (by decide +kernel) ⟨by show 0 + 1 ≤ _; omega, by show 8 + (5 + 11) + 30 * 0 ≤ _; omega⟩) hP hK hD hS wM_a (va_recv (q0 := 0) (ci := 2) (q := (R_Mod, F_Mod, 14)) hK hP rfl rfl) rfl hsz rfl hrm hf d kk9
end MKB
