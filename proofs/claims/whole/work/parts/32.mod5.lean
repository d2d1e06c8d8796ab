def insA (o c : Nat) (s : Int32) (HK HV : IT) : Nat → Nat → XS → Bool × XS
  | 0, _, X => (true, X)
  | n + 1, k, X => if (ins o c s (HK k) (HV k) X).1 = true then insA o c s HK HV n (k + 1) (ins o c s (HK k) (HV k) X).2 else (false, (ins o c s (HK k) (HV k) X).2)
theorem insA_t {o c : Nat} {s : Int32} {HK HV : IT} {n k : Nat} {X : XS} (h : (ins o c s (HK k) (HV k) X).1 = true) : insA o c s HK HV (n + 1) k X = insA o c s HK HV n (k + 1) (ins o c s (HK k) (HV k) X).2 := if_pos h
theorem insA_f {o c : Nat} {s : Int32} {HK HV : IT} {n k : Nat} {X : XS} (h : (ins o c s (HK k) (HV k) X).1 = false) : insA o c s HK HV (n + 1) k X = (false, (ins o c s (HK k) (HV k) X).2) := if_neg (by rw [h]; decide)
def pshB (Q B : Nat → Nat) : Nat → Nat := (psh Q 3 0 ((fun _ => 0), (fun _ => 0), (fun _ => false), B)).2.2.2
def lyB (cp : Nat) (Q B : Nat → Nat) (C : IT) : (Nat → Nat) × IT := if 256 < lastE B Q + cp then (pshB Q B, upd C 2 (C 2 + 1)) else (B, C)
def grM1 (m cp : Nat) (Q : Nat → Nat) (Z : HS) : HS := (Z.1, Z.2.1, clr Z.2.2.1 (128 * m) 128, upd (lyB cp Q Z.2.2.2.2.1 Z.2.2.2.1).2 1 ((lyB cp Q Z.2.2.2.2.1 Z.2.2.2.1).2 1 + 1), (lyB cp Q Z.2.2.2.2.1 Z.2.2.2.1).1, va_up Z.2.2.2.2.2.1 m cp, upd Z.2.2.2.2.2.2 m (Z.2.2.2.2.2.2 m * 1664525 + 1013904223))
def grM3 (k : HS → Bool × HS) (m : Nat) (Q : Nat → Nat) (Z : HS) (r : Bool × XS) : Bool × HS := if r.1 = true then (true, (r.2.1, r.2.2.1, r.2.2.2.1, r.2.2.2.2, va_up Z.2.2.2.2.1 m (lastE Z.2.2.2.2.1 Q), Z.2.2.2.2.2.1, Z.2.2.2.2.2.2)) else k (wX Z r.2)
def grM2 (k : HS → Bool × HS) (m N : Nat) (HK HV : IT) (Q : Nat → Nat) (Z : HS) : Bool × HS := grM3 k m Q Z (insA (128 * m) (Z.2.2.2.2.2.1 m) (Z.2.2.2.2.2.2 m) HK HV N 0 (Z.1, Z.2.1, Z.2.2.1, Z.2.2.2.1))
def grM (m c0 sum N : Nat) (HK HV : IT) (Q : Nat → Nat) : Nat → Nat → HS → Bool × HS
  | 0, _, Z => (false, Z)
  | n + 1, d, Z => if 128 < c0 * 2 ^ d ∨ 256 < sum + c0 * 2 ^ d then (false, Z) else grM2 (fun Z => grM m c0 sum N HK HV Q n (d + 1) Z) m N HK HV Q (grM1 m (c0 * 2 ^ d) Q Z)
theorem grM_n {m c0 sum N : Nat} {HK HV : IT} {Q : Nat → Nat} {n d : Nat} {Z : HS} (h : 128 < c0 * 2 ^ d ∨ 256 < sum + c0 * 2 ^ d) : grM m c0 sum N HK HV Q n d Z = (false, Z) := by
  cases n with
  | zero => rfl
  | succ n => exact if_pos h
theorem grM_s {m c0 sum N : Nat} {HK HV : IT} {Q : Nat → Nat} {n d : Nat} {Z : HS} (h : ¬ (128 < c0 * 2 ^ d ∨ 256 < sum + c0 * 2 ^ d)) : grM m c0 sum N HK HV Q (n + 1) d Z = grM2 (fun Z => grM m c0 sum N HK HV Q n (d + 1) Z) m N HK HV Q (grM1 m (c0 * 2 ^ d) Q Z) := if_neg h
def gM (ca a : Nat → Nat) (z : Int32) (N : Nat) (HK HV : IT) (OF : BT) (OK OV : IT) (m c0 : Nat) (s0 : Int32) (r : Bool × HS) : va_W := if r.1 = true then wM ca a z r.2.2.2.1 r.2.1 r.2.2.1 r.2.2.2.2.2.2.1 r.2.2.2.2.2.1 r.2.2.2.2.2.2.2 r.2.2.2.2.1 N HK HV OF OK OV
  else wM ca a z (pbB r.2.2.2.1 OF (128 * m) 128) (pbL r.2.1 OK (128 * m) 128) (pbL r.2.2.1 OV (128 * m) 128) (va_up r.2.2.2.2.2.2.1 m c0) r.2.2.2.2.2.1 (upd r.2.2.2.2.2.2.2 m s0) r.2.2.2.2.1 N HK HV OF OK OV
theorem gM_a {ca a : Nat → Nat} {z : Int32} {N : Nat} {HK HV : IT} {OF : BT} {OK OV : IT} {m c0 : Nat} {s0 : Int32} {r : Bool × HS} {F : BT} {K V : IT} {P B : Nat → Nat} {S C : IT} : (wM ca a z F K V P B S C N HK HV OF OK OV).map (fun x => x.1) = (gM ca a z N HK HV OF OK OV m c0 s0 r).map (fun x => x.1) := by
  unfold gM
  by_cases h : r.1 = true
  · rw [if_pos h]; rfl
  · rw [if_neg h]; rfl
theorem up_up {P : Nat → Nat} {m x y : Nat} : va_up (va_up P m x) m y = va_up P m y := by
  funext i
  unfold va_up
  by_cases h : i = m
  · rw [if_pos h, if_pos h]
  · rw [if_neg h, if_neg h, if_neg h]
theorem up_id {P : Nat → Nat} {m : Nat} : va_up P m (P m) = P := by
  funext i
  unfold va_up
  by_cases h : i = m
  · rw [if_pos h, h]
  · rw [if_neg h]
theorem lyB_inv {cp sum c0 m : Nat} {Q B : Nat → Nat} {C : IT} (hG : GI sum c0 m B Q) : GI sum c0 m (lyB cp Q B C).1 Q := by
  unfold lyB
  by_cases h : 256 < lastE B Q + cp
  · rw [if_pos h]
    obtain ⟨h1, h2, h3, h4, h5⟩ := hG
    exact ⟨psh_bd 3 0 (_, _, _, B) h1, (psh_pack h3 h2).2, h3, h4, h5⟩
  · rw [if_neg h]
    exact hG
set_option maxHeartbeats 4000000 in
set_option maxRecDepth 100000 in
/-- endOfAll -/
theorem c_Mod_endOfAll (l : Launch) (D : va_G) (ca a : Nat → Nat) (z : Int32) (F : BT) (K V : IT) (P B : Nat → Nat) (S C : IT) (N : Nat) (HK HV : IT) (OF : BT) (OK OV : IT) (g cz : Nat) (hg : g < 3) (hQ : ∀ i, i < 3 → B i + (va_up P g cz) i ≤ 256) : Met l y_Mod_endOfAll w_Mod_endOfAll (rmD 1 0 0) (va_Pc [.ref (a 0), .int (nI g), .int (nI cz)] (hb_R D mCl (wM ca a z F K V P B S C N HK HV OF OK OV) (tyM ca))) (hq_R (some (.int (nI (lastE B (va_up P g cz)))))) 0 0 hq_no := by
  refine Met.ofW (cc := b_Mod_endOfAll) (maxL := 6) (ret := some .int) (by decide) rfl ?_
  intro p e s m0 args below meth c0 s₁ B0 hml hv
  obtain ⟨rfl, hP, hK⟩ := hv
  have hx := B0.exec
  have hb := B0.bytes
  have hr := B0.returns
  have hts := atoms_spec (ws := w_Mod_endOfAll) B0.pre
  have hown : s.vm.findClass R_Mod = some m0.cls := findClass_of_methodNamed B0.named
  have hlocks := B0.notSynchronized
  have hwA : ∀ w ∈ wsA, w.before ([.ref (a 0), .int (nI g), .int (nI cz)] : List Value).toArray s = true := fun w h => hts w (List.mem_cons_of_mem _ h)
  have X : CallFix p m0 c0 b_Mod_endOfAll 6 s ([.ref (a 0), .int (nI g), .int (nI cz)] : List Value).toArray wsA R_Mod := ⟨hx, hb, hml, hown, hwA⟩
  have hl := lv_entry ([.ref (a 0), .int (nI g), .int (nI cz)]) (n := 6) (Nat.le_of_ble_eq_true rfl)
  rw [lg_entry_eq]
  generalize (lg_sl ([.ref (a 0), .int (nI g), .int (nI cz)]) ++ List.replicate (6 - (lg_sl ([.ref (a 0), .int (nI g), .int (nI cz)])).length) Slot.unset).toArray = ls at hl ⊢
  have hl : lv_has ls 6 [(0, .ref (a 0)), (1, .int (nI g)), (2, .int (nI cz))] := hl
  have loop : ∀ (n i : Nat) (ls : Array Slot), i + n = 3 → lv_has ls 6 [(4, .int (nI i)), (3, .int (nI (mxE B (va_up P g cz) i))), (0, .ref (a 0)), (1, .int (nI g)), (2, .int (nI cz))] → W p l e (headSpec w_Mod_endOfAll (rmD 1 0 0)).room s m0 ([.ref (a 0), .int (nI g), .int (nI cz)] : List Value).toArray below meth c0 s.heap [] 0 0 (MQ below (hq_R (some (.int (nI (lastE B (va_up P g cz)))))) ([.ref (a 0), .int (nI g), .int (nI cz)] : List Value).toArray s 0 0 hq_no) (F0 m0 5 ls []) := by
    intro n
    induction n with
    | zero =>
      intro i ls hi hl
      have hi3 : i = 3 := by omega
      refine lv_iload hx hb d_Mod_endOfAll_5 (lv_at hl 0 rfl) ?_
      refine lv_iconst (v := 3) hx hb d_Mod_endOfAll_7 (by decide) ?_
      refine lvT_icmp_ge (tgt := 40) hx hb d_Mod_endOfAll_8 (by decide) (nI_le (a := 3) (b := i) (by omega) (by omega)) ?_
      refine lv_iload_n hx hb d_Mod_endOfAll_40 rfl (lv_at hl 1 rfl) ?_
      exact W.iret (v := nI (mxE B (va_up P g cz) i)) hx hb hr (fun t ht hW => ⟨by rw [hi3]; rfl, ht⟩) hq_nl d_Mod_endOfAll_41
    | succ n ih =>
      intro i ls hi hl
      have hm3 := mxE_bd hQ i (by omega)
      have hq3 := hQ i (by omega)
      refine lv_iload hx hb d_Mod_endOfAll_5 (lv_at hl 0 rfl) ?_
      refine lv_iconst (v := 3) hx hb d_Mod_endOfAll_7 (by decide) ?_
      refine lvF_icmp_ge (tgt := 40) hx hb d_Mod_endOfAll_8 (by decide) (nI_ge (a := i) (b := 3) (by omega) (by omega)) ?_
      refine lv_aload_n hx hb d_Mod_endOfAll_11 rfl (lv_at hl 2 rfl) ?_
      refine lv_iload hx hb d_Mod_endOfAll_12 (lv_at hl 0 rfl) ?_
      refine lv_iload_n hx hb d_Mod_endOfAll_14 rfl (lv_at hl 3 rfl) ?_
      refine lv_iload_n hx hb d_Mod_endOfAll_15 rfl (lv_at hl 4 rfl) ?_
      refine km_endOf X hK hP hl.1 (m := i) (g := g) (cz := cz) (by omega) (by omega) (Nat.le_of_ble_eq_true rfl) ⟨Nat.zero_le _, Nat.zero_le _⟩ ⟨Nat.le_of_ble_eq_true rfl, Nat.le_of_ble_eq_true rfl⟩ d_Mod_endOfAll_16 ?_
      refine lv_istore (lv' := [(5, .int (nI (B i + va_up P g cz i))), (4, .int (nI i)), (3, .int (nI (mxE B (va_up P g cz) i))), (0, .ref (a 0)), (1, .int (nI g)), (2, .int (nI cz))]) hx hb d_Mod_endOfAll_19 hl (by decide) rfl (fun ls hl => ?_)
      refine lv_iload hx hb d_Mod_endOfAll_21 (lv_at hl 0 rfl) ?_
      refine lv_iload_n hx hb d_Mod_endOfAll_23 rfl (lv_at hl 2 rfl) ?_
      refine lv_icmp_le (tgt := 32) hx hb d_Mod_endOfAll_24 (by decide) (fun h1 => ?_) (fun h1 => ?_)
      · have e1 : mxE B (va_up P g cz) (i + 1) = mxE B (va_up P g cz) i := Nat.max_eq_left ((nI_leI (by omega) (by omega)).mp h1)
        refine lv_iload_n hx hb d_Mod_endOfAll_32 rfl (lv_at hl 2 rfl) ?_
        refine lv_istore_n (lv' := [(3, .int (nI (mxE B (va_up P g cz) i))), (5, .int (nI (B i + va_up P g cz i))), (4, .int (nI i)), (0, .ref (a 0)), (1, .int (nI g)), (2, .int (nI cz))]) hx hb d_Mod_endOfAll_33 rfl hl (by decide) rfl (fun ls hl => ?_)
        refine lv_iinc (k := 2) (v := nI (i + 1)) (lv' := [(4, .int (nI (i + 1))), (3, .int (nI (mxE B (va_up P g cz) i))), (5, .int (nI (B i + va_up P g cz i))), (0, .ref (a 0)), (1, .int (nI g)), (2, .int (nI cz))]) hx hb d_Mod_endOfAll_34 hl rfl (inc1 i) (by decide) rfl (fun ls hl => ?_)
        refine lv_goto (tgt := 5) hx hb d_Mod_endOfAll_37 (by decide) ?_
        exact ih (i + 1) ls (by omega) (by rw [e1]; exact lv_sub hl [0, 1, 3, 4, 5] rfl)
      · have e1 : mxE B (va_up P g cz) (i + 1) = B i + va_up P g cz i := Nat.max_eq_right (by have z := Nat.not_le.mp (fun z => h1 ((nI_leI (by omega) (by omega)).mpr z)); omega)
        refine lv_iload hx hb d_Mod_endOfAll_27 (lv_at hl 0 rfl) ?_
        refine lv_goto (tgt := 33) hx hb d_Mod_endOfAll_29 (by decide) ?_
        refine lv_istore_n (lv' := [(3, .int (nI (B i + va_up P g cz i))), (5, .int (nI (B i + va_up P g cz i))), (4, .int (nI i)), (0, .ref (a 0)), (1, .int (nI g)), (2, .int (nI cz))]) hx hb d_Mod_endOfAll_33 rfl hl (by decide) rfl (fun ls hl => ?_)
        refine lv_iinc (k := 2) (v := nI (i + 1)) (lv' := [(4, .int (nI (i + 1))), (3, .int (nI (B i + va_up P g cz i))), (5, .int (nI (B i + va_up P g cz i))), (0, .ref (a 0)), (1, .int (nI g)), (2, .int (nI cz))]) hx hb d_Mod_endOfAll_34 hl rfl (inc1 i) (by decide) rfl (fun ls hl => ?_)
        refine lv_goto (tgt := 5) hx hb d_Mod_endOfAll_37 (by decide) ?_
        exact ih (i + 1) ls (by omega) (by rw [e1]; exact lv_sub hl [0, 1, 3, 4, 5] rfl)
  refine lv_iconst (v := 0) hx hb d_Mod_endOfAll_0 (by decide) ?_
  refine lv_istore_n (lv' := [(3, .int 0), (0, .ref (a 0)), (1, .int (nI g)), (2, .int (nI cz))]) hx hb d_Mod_endOfAll_1 rfl hl (by decide) rfl (fun ls hl => ?_)
  refine lv_iconst (v := 0) hx hb d_Mod_endOfAll_2 (by decide) ?_
  refine lv_istore (lv' := [(4, .int 0), (3, .int 0), (0, .ref (a 0)), (1, .int (nI g)), (2, .int (nI cz))]) hx hb d_Mod_endOfAll_3 hl (by decide) rfl (fun ls hl => ?_)
  exact loop 3 0 ls rfl (lv_sub hl [0, 1, 2, 3, 4] rfl)
set_option maxHeartbeats 4000000 in
set_option maxRecDepth 100000 in
/-- pushTogether -/
theorem c_Mod_pushTogether (l : Launch) (D : va_G) (ca a : Nat → Nat) (z : Int32) (F : BT) (K V : IT) (P B : Nat → Nat) (S C : IT) (N : Nat) (HK HV : IT) (OF : BT) (OK OV : IT) (g cz x y z0 : Nat) (hg : g < 3) (hQ : ∀ i, i < 3 → B i + (va_up P g cz) i ≤ 256) (ho : Ord B (va_up P g cz) x y z0) : Met l y_Mod_pushTogether w_Mod_pushTogether (rmD 1 0 0) (va_Pc [.ref (a 0), .int (nI g), .int (nI cz)] (hb_W D mCl (wM ca a z F K V P B S C N HK HV OF OK OV) (tyM ca))) (hq_W (none) D mCl (wM ca a z F K V P (pB B (va_up P g cz) x y z0) S (upd C 2 (C 2 + 1)) N HK HV OF OK OV) (hA (wM ca a z F K V P B S C N HK HV OF OK OV))) 0 0 (hA (wM ca a z F K V P B S C N HK HV OF OK OV)) := by
  refine Met.ofW (cc := b_Mod_pushTogether) (maxL := 7) (ret := none) (by decide) rfl ?_
  intro p e s m0 args below meth c0 s₁ B0 hml hv
  obtain ⟨rfl, hP, hK, hD0⟩ := hv
  have hx := B0.exec
  have hb := B0.bytes
  have hr := B0.returns
  have hts := atoms_spec (ws := w_Mod_pushTogether) B0.pre
  have hown : s.vm.findClass R_Mod = some m0.cls := findClass_of_methodNamed B0.named
  have hlocks := B0.notSynchronized
  have hwA : ∀ w ∈ wsA, w.before ([.ref (a 0), .int (nI g), .int (nI cz)] : List Value).toArray s = true := fun w h => hts w (List.mem_cons_of_mem _ h)
  have X : CallFix p m0 c0 b_Mod_pushTogether 7 s ([.ref (a 0), .int (nI g), .int (nI cz)] : List Value).toArray wsA R_Mod := ⟨hx, hb, hml, hown, hwA⟩
  have hD := hA_D hD0
  have hS : va_S (hA (wM ca a z F K V P B S C N HK HV OF OK OV)) s.heap s.heap [] := va_S.rf
  have hl := lv_entry ([.ref (a 0), .int (nI g), .int (nI cz)]) (n := 7) (Nat.le_of_ble_eq_true rfl)
  rw [lg_entry_eq]
  generalize (lg_sl ([.ref (a 0), .int (nI g), .int (nI cz)]) ++ List.replicate (7 - (lg_sl ([.ref (a 0), .int (nI g), .int (nI cz)])).length) Slot.unset).toArray = ls at hl ⊢
  have hl : lv_has ls 7 [(0, .ref (a 0)), (1, .int (nI g)), (2, .int (nI cz))] := hl
  have o1 := Ord_1 ho
  have o2 := Ord_2 ho
  have o3 := Ord_3 ho
  obtain ⟨hx3, hy3, hz3, hxy, hxz, hyz, px, py, pz, h12, h23⟩ := ho
  have qx := hQ x hx3
  have qy := hQ y hy3
  have qz := hQ z0 hz3
  have bb : ∀ i, i < 3 → B i ≤ 256 := fun i hi => Nat.le_trans (Nat.le_add_right _ _) (hQ i hi)
  have b1 : ∀ i, i < 3 → va_up B x 0 i ≤ 256 := fun i hi => by
    unfold va_up
    by_cases e : i = x
    · rw [if_pos e]; omega
    · rw [if_neg e]; exact bb i hi
  have b2 : ∀ i, i < 3 → va_up (va_up B x 0) y (0 + (va_up P g cz) x) i ≤ 256 := fun i hi => by
    by_cases e : i = y
    · rw [e, va_up_self]; omega
    · rw [va_up_ne _ _ e]; exact b1 i hi
  refine lv_iconst (v := 0) hx hb d_Mod_pushTogether_0 (by decide) ?_
  refine lv_istore_n (lv' := [(3, .int 0), (0, .ref (a 0)), (1, .int (nI g)), (2, .int (nI cz))]) hx hb d_Mod_pushTogether_1 rfl hl (by decide) rfl (fun ls hl => ?_)
  refine lv_iconst (v := 0) hx hb d_Mod_pushTogether_2 (by decide) ?_
  refine lv_istore (lv' := [(4, .int 0), (3, .int 0), (0, .ref (a 0)), (1, .int (nI g)), (2, .int (nI cz))]) hx hb d_Mod_pushTogether_3 hl (by decide) rfl (fun ls hl => ?_)
  refine lv_iconst (v := 0) hx hb d_Mod_pushTogether_5 (by decide) ?_
  refine lv_istore (lv' := [(5, .int 0), (4, .int 0), (3, .int 0), (0, .ref (a 0)), (1, .int (nI g)), (2, .int (nI cz))]) hx hb d_Mod_pushTogether_6 hl (by decide) rfl (fun ls hl => ?_)
  refine lv_iload hx hb d_Mod_pushTogether_8 (lv_at hl 0 rfl) ?_
  refine lv_iconst (v := 3) hx hb d_Mod_pushTogether_10 (by decide) ?_
  refine lvF_icmp_ge (tgt := 55) hx hb d_Mod_pushTogether_11 (by decide) (by decide) ?_
  refine lv_aload_n hx hb d_Mod_pushTogether_14 rfl (lv_at hl 3 rfl) ?_
  refine lv_iload hx hb d_Mod_pushTogether_15 (lv_at hl 1 rfl) ?_
  refine km_nextFrom X hK hP hl.1 (f := 0) (by omega) (bb 0 (by decide)) (bb 1 (by decide)) (bb 2 (by decide)) (Nat.le_of_ble_eq_true rfl) ⟨Nat.zero_le _, Nat.zero_le _⟩ ⟨Nat.le_of_ble_eq_true rfl, Nat.le_of_ble_eq_true rfl⟩ d_Mod_pushTogether_17 ?_
  refine lv_tope (y := nI x) (by rw [o1]; rfl) ?_
  refine lv_istore (lv' := [(6, .int (nI x)), (5, .int 0), (4, .int 0), (3, .int 0), (0, .ref (a 0)), (1, .int (nI g)), (2, .int (nI cz))]) hx hb d_Mod_pushTogether_20 hl (by decide) rfl (fun ls hl => ?_)
  refine lv_aload_n hx hb d_Mod_pushTogether_22 rfl (lv_at hl 4 rfl) ?_
  refine lv_iload hx hb d_Mod_pushTogether_23 (lv_at hl 0 rfl) ?_
  refine lv_iload_n hx hb d_Mod_pushTogether_25 rfl (lv_at hl 5 rfl) ?_
  refine lv_iload_n hx hb d_Mod_pushTogether_26 rfl (lv_at hl 6 rfl) ?_
  refine km_endOf X hK hP hl.1 (m := x) (g := g) (cz := cz) (hx3) (by omega) (Nat.le_of_ble_eq_true rfl) ⟨Nat.zero_le _, Nat.zero_le _⟩ ⟨Nat.le_of_ble_eq_true rfl, Nat.le_of_ble_eq_true rfl⟩ d_Mod_pushTogether_27 ?_
  refine lv_istore (lv' := [(4, .int (nI (B x + va_up P g cz x))), (6, .int (nI x)), (5, .int 0), (3, .int 0), (0, .ref (a 0)), (1, .int (nI g)), (2, .int (nI cz))]) hx hb d_Mod_pushTogether_30 hl (by decide) rfl (fun ls hl => ?_)
  refine lv_aload_n hx hb d_Mod_pushTogether_32 rfl (lv_at hl 4 rfl) ?_
  refine mg_base X hK hP d_Mod_pushTogether_33 ?_
  refine lv_iload hx hb d_Mod_pushTogether_36 (lv_at hl 1 rfl) ?_
  refine lv_iload_n hx hb d_Mod_pushTogether_38 rfl (lv_at hl 3 rfl) ?_
  refine ms_B X hK hP hD hS (i := x) (x := 0) (hx3) d_Mod_pushTogether_39 (fun H locs hP hD hS => ?_)
  refine lv_aload_n hx hb d_Mod_pushTogether_40 rfl (lv_at hl 4 rfl) ?_
  refine lv_iload hx hb d_Mod_pushTogether_41 (lv_at hl 1 rfl) ?_
  refine lv_iload_n hx hb d_Mod_pushTogether_43 rfl (lv_at hl 5 rfl) ?_
  refine lv_iload_n hx hb d_Mod_pushTogether_44 rfl (lv_at hl 6 rfl) ?_
  refine km_endOf X hK hP hl.1 (m := x) (g := g) (cz := cz) (hx3) (by omega) (Nat.le_of_ble_eq_true rfl) ⟨Nat.zero_le _, Nat.zero_le _⟩ ⟨Nat.le_of_ble_eq_true rfl, Nat.le_of_ble_eq_true rfl⟩ d_Mod_pushTogether_45 ?_
  refine lv_tope (y := nI (0 + (va_up P g cz) x)) (by rw [va_up_self]) ?_
  refine lv_istore_n (lv' := [(3, .int (nI (0 + (va_up P g cz) x))), (4, .int (nI (B x + va_up P g cz x))), (6, .int (nI x)), (5, .int 0), (0, .ref (a 0)), (1, .int (nI g)), (2, .int (nI cz))]) hx hb d_Mod_pushTogether_48 rfl hl (by decide) rfl (fun ls hl => ?_)
  refine lv_iinc (k := 3) (v := 1) (lv' := [(5, .int 1), (3, .int (nI (0 + (va_up P g cz) x))), (4, .int (nI (B x + va_up P g cz x))), (6, .int (nI x)), (0, .ref (a 0)), (1, .int (nI g)), (2, .int (nI cz))]) hx hb d_Mod_pushTogether_49 hl rfl (by decide) (by decide) rfl (fun ls hl => ?_)
  refine lv_goto (tgt := 8) hx hb d_Mod_pushTogether_52 (by decide) ?_
  refine lv_iload hx hb d_Mod_pushTogether_8 (lv_at hl 0 rfl) ?_
  refine lv_iconst (v := 3) hx hb d_Mod_pushTogether_10 (by decide) ?_
  refine lvF_icmp_ge (tgt := 55) hx hb d_Mod_pushTogether_11 (by decide) (by decide) ?_
  refine lv_aload_n hx hb d_Mod_pushTogether_14 rfl (lv_at hl 4 rfl) ?_
  refine lv_iload hx hb d_Mod_pushTogether_15 (lv_at hl 2 rfl) ?_
  refine km_nextFrom X hK hP hl.1 (f := B x + va_up P g cz x) (by omega) (b1 0 (by decide)) (b1 1 (by decide)) (b1 2 (by decide)) (Nat.le_of_ble_eq_true rfl) ⟨Nat.zero_le _, Nat.zero_le _⟩ ⟨Nat.le_of_ble_eq_true rfl, Nat.le_of_ble_eq_true rfl⟩ d_Mod_pushTogether_17 ?_
  refine lv_tope (y := nI y) (by rw [o2]; rfl) ?_
  refine lv_istore (lv' := [(6, .int (nI y)), (5, .int 1), (3, .int (nI (0 + (va_up P g cz) x))), (4, .int (nI (B x + va_up P g cz x))), (0, .ref (a 0)), (1, .int (nI g)), (2, .int (nI cz))]) hx hb d_Mod_pushTogether_20 hl (by decide) rfl (fun ls hl => ?_)
  refine lv_aload_n hx hb d_Mod_pushTogether_22 rfl (lv_at hl 4 rfl) ?_
  refine lv_iload hx hb d_Mod_pushTogether_23 (lv_at hl 0 rfl) ?_
  refine lv_iload_n hx hb d_Mod_pushTogether_25 rfl (lv_at hl 5 rfl) ?_
  refine lv_iload_n hx hb d_Mod_pushTogether_26 rfl (lv_at hl 6 rfl) ?_
  refine km_endOf X hK hP hl.1 (m := y) (g := g) (cz := cz) (hy3) (by omega) (Nat.le_of_ble_eq_true rfl) ⟨Nat.zero_le _, Nat.zero_le _⟩ ⟨Nat.le_of_ble_eq_true rfl, Nat.le_of_ble_eq_true rfl⟩ d_Mod_pushTogether_27 ?_
  refine lv_tope (y := nI (B y + (va_up P g cz) y)) (by rw [va_up_ne _ _ (Ne.symm hxy)]) ?_
  refine lv_istore (lv' := [(4, .int (nI (B y + (va_up P g cz) y))), (6, .int (nI y)), (5, .int 1), (3, .int (nI (0 + (va_up P g cz) x))), (0, .ref (a 0)), (1, .int (nI g)), (2, .int (nI cz))]) hx hb d_Mod_pushTogether_30 hl (by decide) rfl (fun ls hl => ?_)
  refine lv_aload_n hx hb d_Mod_pushTogether_32 rfl (lv_at hl 4 rfl) ?_
  refine mg_base X hK hP d_Mod_pushTogether_33 ?_
  refine lv_iload hx hb d_Mod_pushTogether_36 (lv_at hl 1 rfl) ?_
  refine lv_iload_n hx hb d_Mod_pushTogether_38 rfl (lv_at hl 3 rfl) ?_
  refine ms_B X hK hP hD hS (i := y) (x := 0 + (va_up P g cz) x) (hy3) d_Mod_pushTogether_39 (fun H locs hP hD hS => ?_)
  refine lv_aload_n hx hb d_Mod_pushTogether_40 rfl (lv_at hl 4 rfl) ?_
  refine lv_iload hx hb d_Mod_pushTogether_41 (lv_at hl 1 rfl) ?_
  refine lv_iload_n hx hb d_Mod_pushTogether_43 rfl (lv_at hl 5 rfl) ?_
  refine lv_iload_n hx hb d_Mod_pushTogether_44 rfl (lv_at hl 6 rfl) ?_
  refine km_endOf X hK hP hl.1 (m := y) (g := g) (cz := cz) (hy3) (by omega) (Nat.le_of_ble_eq_true rfl) ⟨Nat.zero_le _, Nat.zero_le _⟩ ⟨Nat.le_of_ble_eq_true rfl, Nat.le_of_ble_eq_true rfl⟩ d_Mod_pushTogether_45 ?_
  refine lv_tope (y := nI (0 + (va_up P g cz) x + (va_up P g cz) y)) (by rw [va_up_self]) ?_
  refine lv_istore_n (lv' := [(3, .int (nI (0 + (va_up P g cz) x + (va_up P g cz) y))), (4, .int (nI (B y + (va_up P g cz) y))), (6, .int (nI y)), (5, .int 1), (0, .ref (a 0)), (1, .int (nI g)), (2, .int (nI cz))]) hx hb d_Mod_pushTogether_48 rfl hl (by decide) rfl (fun ls hl => ?_)
  refine lv_iinc (k := 3) (v := 2) (lv' := [(5, .int 2), (3, .int (nI (0 + (va_up P g cz) x + (va_up P g cz) y))), (4, .int (nI (B y + (va_up P g cz) y))), (6, .int (nI y)), (0, .ref (a 0)), (1, .int (nI g)), (2, .int (nI cz))]) hx hb d_Mod_pushTogether_49 hl rfl (by decide) (by decide) rfl (fun ls hl => ?_)
  refine lv_goto (tgt := 8) hx hb d_Mod_pushTogether_52 (by decide) ?_
  refine lv_iload hx hb d_Mod_pushTogether_8 (lv_at hl 0 rfl) ?_
  refine lv_iconst (v := 3) hx hb d_Mod_pushTogether_10 (by decide) ?_
  refine lvF_icmp_ge (tgt := 55) hx hb d_Mod_pushTogether_11 (by decide) (by decide) ?_
  refine lv_aload_n hx hb d_Mod_pushTogether_14 rfl (lv_at hl 4 rfl) ?_
  refine lv_iload hx hb d_Mod_pushTogether_15 (lv_at hl 2 rfl) ?_
  refine km_nextFrom X hK hP hl.1 (f := B y + (va_up P g cz) y) (by omega) (b2 0 (by decide)) (b2 1 (by decide)) (b2 2 (by decide)) (Nat.le_of_ble_eq_true rfl) ⟨Nat.zero_le _, Nat.zero_le _⟩ ⟨Nat.le_of_ble_eq_true rfl, Nat.le_of_ble_eq_true rfl⟩ d_Mod_pushTogether_17 ?_
  refine lv_tope (y := nI z0) (by rw [o3]; rfl) ?_
  refine lv_istore (lv' := [(6, .int (nI z0)), (5, .int 2), (3, .int (nI (0 + (va_up P g cz) x + (va_up P g cz) y))), (4, .int (nI (B y + (va_up P g cz) y))), (0, .ref (a 0)), (1, .int (nI g)), (2, .int (nI cz))]) hx hb d_Mod_pushTogether_20 hl (by decide) rfl (fun ls hl => ?_)
  refine lv_aload_n hx hb d_Mod_pushTogether_22 rfl (lv_at hl 4 rfl) ?_
  refine lv_iload hx hb d_Mod_pushTogether_23 (lv_at hl 0 rfl) ?_
  refine lv_iload_n hx hb d_Mod_pushTogether_25 rfl (lv_at hl 5 rfl) ?_
  refine lv_iload_n hx hb d_Mod_pushTogether_26 rfl (lv_at hl 6 rfl) ?_
  refine km_endOf X hK hP hl.1 (m := z0) (g := g) (cz := cz) (hz3) (by omega) (Nat.le_of_ble_eq_true rfl) ⟨Nat.zero_le _, Nat.zero_le _⟩ ⟨Nat.le_of_ble_eq_true rfl, Nat.le_of_ble_eq_true rfl⟩ d_Mod_pushTogether_27 ?_
  refine lv_istore (lv' := [(4, .int (nI ((va_up (va_up B x 0) y (0 + (va_up P g cz) x)) z0 + va_up P g cz z0))), (6, .int (nI z0)), (5, .int 2), (3, .int (nI (0 + (va_up P g cz) x + (va_up P g cz) y))), (0, .ref (a 0)), (1, .int (nI g)), (2, .int (nI cz))]) hx hb d_Mod_pushTogether_30 hl (by decide) rfl (fun ls hl => ?_)
  refine lv_aload_n hx hb d_Mod_pushTogether_32 rfl (lv_at hl 4 rfl) ?_
  refine mg_base X hK hP d_Mod_pushTogether_33 ?_
  refine lv_iload hx hb d_Mod_pushTogether_36 (lv_at hl 1 rfl) ?_
  refine lv_iload_n hx hb d_Mod_pushTogether_38 rfl (lv_at hl 3 rfl) ?_
  refine ms_B X hK hP hD hS (i := z0) (x := 0 + (va_up P g cz) x + (va_up P g cz) y) (hz3) d_Mod_pushTogether_39 (fun H locs hP hD hS => ?_)
  refine lv_aload_n hx hb d_Mod_pushTogether_40 rfl (lv_at hl 4 rfl) ?_
  refine lv_iload hx hb d_Mod_pushTogether_41 (lv_at hl 1 rfl) ?_
  refine lv_iload_n hx hb d_Mod_pushTogether_43 rfl (lv_at hl 5 rfl) ?_
  refine lv_iload_n hx hb d_Mod_pushTogether_44 rfl (lv_at hl 6 rfl) ?_
  refine km_endOf X hK hP hl.1 (m := z0) (g := g) (cz := cz) (hz3) (by omega) (Nat.le_of_ble_eq_true rfl) ⟨Nat.zero_le _, Nat.zero_le _⟩ ⟨Nat.le_of_ble_eq_true rfl, Nat.le_of_ble_eq_true rfl⟩ d_Mod_pushTogether_45 ?_
  refine lv_istore_n (lv' := [(3, .int (nI ((va_up (va_up (va_up B x 0) y (0 + (va_up P g cz) x)) z0 (0 + (va_up P g cz) x + (va_up P g cz) y)) z0 + va_up P g cz z0))), (4, .int (nI ((va_up (va_up B x 0) y (0 + (va_up P g cz) x)) z0 + va_up P g cz z0))), (6, .int (nI z0)), (5, .int 2), (0, .ref (a 0)), (1, .int (nI g)), (2, .int (nI cz))]) hx hb d_Mod_pushTogether_48 rfl hl (by decide) rfl (fun ls hl => ?_)
  refine lv_iinc (k := 3) (v := 3) (lv' := [(5, .int 3), (3, .int (nI ((va_up (va_up (va_up B x 0) y (0 + (va_up P g cz) x)) z0 (0 + (va_up P g cz) x + (va_up P g cz) y)) z0 + va_up P g cz z0))), (4, .int (nI ((va_up (va_up B x 0) y (0 + (va_up P g cz) x)) z0 + va_up P g cz z0))), (6, .int (nI z0)), (0, .ref (a 0)), (1, .int (nI g)), (2, .int (nI cz))]) hx hb d_Mod_pushTogether_49 hl rfl (by decide) (by decide) rfl (fun ls hl => ?_)
  refine lv_goto (tgt := 8) hx hb d_Mod_pushTogether_52 (by decide) ?_
  refine lv_iload hx hb d_Mod_pushTogether_8 (lv_at hl 0 rfl) ?_
  refine lv_iconst (v := 3) hx hb d_Mod_pushTogether_10 (by decide) ?_
  refine lvT_icmp_ge (tgt := 55) hx hb d_Mod_pushTogether_11 (by decide) (by decide) ?_
  refine lv_aload_n hx hb d_Mod_pushTogether_55 rfl (lv_at hl 4 rfl) ?_
  refine mg_counts X hK hP d_Mod_pushTogether_56 ?_
  refine lv_iconst (v := 2) hx hb d_Mod_pushTogether_59 (by decide) ?_
  refine lv_aload_n hx hb d_Mod_pushTogether_60 rfl (lv_at hl 4 rfl) ?_
  refine mg_counts X hK hP d_Mod_pushTogether_61 ?_
  refine lv_iconst (v := 2) hx hb d_Mod_pushTogether_64 (by decide) ?_
  refine ml_C X hK hP (i := 2) (by omega) d_Mod_pushTogether_65 ?_
  refine lv_iconst (v := 1) hx hb d_Mod_pushTogether_66 (by decide) ?_
  refine lv_iadd hx hb d_Mod_pushTogether_67 ?_
  refine ms_C X hK hP hD hS (i := 2) (x := (C 2) + (1)) (by omega) d_Mod_pushTogether_68 (fun H locs hP hD hS => ?_)
  exact W.vret hx hb hr (fun t ht hW => ⟨rfl, by rw [ht]; exact hP, hS.F ht⟩) hS.2.2 d_Mod_pushTogether_69
section MKB
variable {p : Program} {l : Launch} {e : Env} {R : Room} {s : State} {m0 : MethodId} {args : Array Value} {below : List Frame} {meth : Method} {c : Code} {H : Heap} {locs : List Loc} {cells slots : Nat} {Q : State → Prop}
variable {cc : ByteArray} {pc nL : Nat} {ls : Array Slot} {rest st0 : List Value} {D : va_G} {A : Nat → Prop} {H0 : Heap} {tys : List (ClassId × FieldType)} {ca a : Nat → Nat} {z : Int32} {F : BT} {K V : IT} {P B : Nat → Nat} {S C : IT} {N : Nat} {HK HV : IT} {OF : BT} {OK OV : IT}
theorem km_endOfAll (X : CallFix p m0 c cc nL s args wsA R_Mod) (hK : va_K D mCl (tyM ca) s) (hP : va_P D mCl (wM ca a z F K V P B S C N HK HV OF OK OV) H) (hsz : ls.size = nL) {g cz : Nat} (hg : g < 3) (hQ : ∀ i, i < 3 → B i + (va_up P g cz) i ≤ 256) (hrm : (rest.map fun v => v.category).sum ≤ 8) (hf : cells ≤ R.cells ∧ slots ≤ R.slots) (hR : 2 ≤ R.frames ∧ 60 ≤ R.locals) (d : decode cc pc = .ok (.invokevirtual 81, 3)) (kk9 : W p l e R s m0 args below meth c H locs cells slots Q (F0 m0 (pc + 3) ls (.int (nI (lastE B (va_up P g cz))) :: rest))) : W p l e R s m0 args below meth c H locs cells slots Q (F0 m0 pc ls (.int (nI cz) :: .int (nI g) :: .ref (a 0) :: rest)) :=
  hr_V (As := [.int (nI g), .int (nI cz)]) (v := some (.int (nI (lastE B (va_up P g cz))))) (C := R_Mod) X (c_Mod_endOfAll l D ca a z F K V P B S C N HK HV OF OK OV g cz hg hQ) (cwV 2 X.2.2.2.2 g_Mod_endOfAll rfl rfl rfl (by decide +kernel) ⟨by show 1 + 1 ≤ _; omega, by show 8 + (6 + 11) + 30 * 1 ≤ _; omega⟩) hP hK (va_recv (q0 := 0) (ci := 2) (q := (R_Mod, F_Mod, 14)) hK hP rfl rfl) rfl hsz rfl hrm hf d kk9
theorem km_pushTogether (X : CallFix p m0 c cc nL s args wsA R_Mod) (hK : va_K D mCl (tyM ca) s) (hP : va_P D mCl (wM ca a z F K V P B S C N HK HV OF OK OV) H) (hD : va_D A (wM ca a z F K V P B S C N HK HV OF OK OV)) (hS : va_S A H0 H locs) (hsz : ls.size = nL) {g cz x y z0 : Nat} (hg : g < 3) (hQ : ∀ i, i < 3 → B i + (va_up P g cz) i ≤ 256) (ho : Ord B (va_up P g cz) x y z0) (hrm : (rest.map fun v => v.category).sum ≤ 8) (hf : cells ≤ R.cells ∧ slots ≤ R.slots) (hR : 2 ≤ R.frames ∧ 60 ≤ R.locals) (d : decode cc pc = .ok (.invokevirtual 84, 3)) (kk9 : ∀ (H1 : Heap) (locs1 : List Loc), va_P D mCl (wM ca a z F K V P (pB B (va_up P g cz) x y z0) S (upd C 2 (C 2 + 1)) N HK HV OF OK OV) H1 → va_D A (wM ca a z F K V P (pB B (va_up P g cz) x y z0) S (upd C 2 (C 2 + 1)) N HK HV OF OK OV) → va_S A H0 H1 locs1 → W p l e R s m0 args below meth c H1 locs1 cells slots Q (F0 m0 (pc + 3) ls (rest))) : W p l e R s m0 args below meth c H locs cells slots Q (F0 m0 pc ls (.int (nI cz) :: .int (nI g) :: .ref (a 0) :: rest)) :=
  hw_V (As := [.int (nI g), .int (nI cz)]) (v := none) (C := R_Mod) X (c_Mod_pushTogether l D ca a z F K V P B S C N HK HV OF OK OV g cz x y z0 hg hQ ho) (cwV 2 X.2.2.2.2 g_Mod_pushTogether rfl rfl rfl (by decide +kernel) ⟨by show 1 + 1 ≤ _; omega, by show 8 + (7 + 11) + 30 * 1 ≤ _; omega⟩) hP hK hD hS wM_a (va_recv (q0 := 0) (ci := 2) (q := (R_Mod, F_Mod, 14)) hK hP rfl rfl) rfl hsz rfl hrm hf d kk9
end MKB
