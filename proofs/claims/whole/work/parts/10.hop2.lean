set_option maxHeartbeats 4000000 in
set_option maxRecDepth 100000 in
/-- copySlot: what is at g comes to f -/
theorem c_Hop_copySlot (l : Launch) (D : va_G) (ca a q : Nat → Nat) (K V : IT) (T : BT) (C : IT) (B P : Nat → Nat) (S : IT) (g f : Nat) (hg : g < 256) (hf : f < 256) : Met l y_Hop_copySlot w_Hop_copySlot (rmD 0 0 0) (va_Pc [.ref (a 0), .int (nI g), .int (nI f)] (hb_W D hCl (wH ca a q K V T C B P S) (tyH ca))) (hq_W (none) D hCl (wH ca a q (upd K f (K g)) (upd V f (V g)) (va_up T f (T g)) C B P S) (hA (wH ca a q K V T C B P S))) 0 0 (hA (wH ca a q K V T C B P S)) := by
  refine Met.ofW (cc := b_Hop_copySlot) (maxL := 3) (ret := none) (by decide) rfl ?_
  intro p e s m args below meth c0 s₁ B0 hml hv
  obtain ⟨rfl, hP, hK, hD0⟩ := hv
  have hx := B0.exec
  have hb := B0.bytes
  have hr := B0.returns
  have hts := atoms_spec (ws := w_Hop_copySlot) B0.pre
  have hown : s.vm.findClass R_Hop = some m.cls := findClass_of_methodNamed B0.named
  have hlocks := B0.notSynchronized
  have hwA : ∀ w ∈ wsA, w.before ([.ref (a 0), .int (nI g), .int (nI f)] : List Value).toArray s = true := fun w h => hts w (List.mem_cons_of_mem _ h)
  have X : CallFix p m c0 b_Hop_copySlot 3 s ([.ref (a 0), .int (nI g), .int (nI f)] : List Value).toArray wsA R_Hop := ⟨hx, hb, hml, hown, hwA⟩
  have hD := hA_D hD0
  have hS : va_S (hA (wH ca a q K V T C B P S)) s.heap s.heap [] := va_S.rf
  have hl := lv_entry ([.ref (a 0), .int (nI g), .int (nI f)]) (n := 3) (Nat.le_of_ble_eq_true rfl)
  rw [lg_entry_eq]
  generalize (lg_sl ([.ref (a 0), .int (nI g), .int (nI f)]) ++ List.replicate (3 - (lg_sl ([.ref (a 0), .int (nI g), .int (nI f)])).length) Slot.unset).toArray = ls at hl ⊢
  have hl : lv_has ls 3 [(0, .ref (a 0)), (1, .int (nI g)), (2, .int (nI f))] := hl
  refine lv_aload_n hx hb d_Hop_copySlot_0 rfl (lv_at hl 0 rfl) ?_
  refine hg_keys X hK hP d_Hop_copySlot_1 ?_
  refine lv_iload_n hx hb d_Hop_copySlot_4 rfl (lv_at hl 2 rfl) ?_
  refine lv_aload_n hx hb d_Hop_copySlot_5 rfl (lv_at hl 0 rfl) ?_
  refine hg_keys X hK hP d_Hop_copySlot_6 ?_
  refine lv_iload_n hx hb d_Hop_copySlot_9 rfl (lv_at hl 1 rfl) ?_
  refine hl_K X hK hP (i := g) (hg) d_Hop_copySlot_10 ?_
  refine hs_K X hK hP hD hS (i := f) (x := K (g)) (hf) d_Hop_copySlot_11 (fun H locs hP hD hS => ?_)
  refine lv_aload_n hx hb d_Hop_copySlot_12 rfl (lv_at hl 0 rfl) ?_
  refine hg_values X hK hP d_Hop_copySlot_13 ?_
  refine lv_iload_n hx hb d_Hop_copySlot_16 rfl (lv_at hl 2 rfl) ?_
  refine lv_aload_n hx hb d_Hop_copySlot_17 rfl (lv_at hl 0 rfl) ?_
  refine hg_values X hK hP d_Hop_copySlot_18 ?_
  refine lv_iload_n hx hb d_Hop_copySlot_21 rfl (lv_at hl 1 rfl) ?_
  refine hl_V X hK hP (i := g) (hg) d_Hop_copySlot_22 ?_
  refine hs_V X hK hP hD hS (i := f) (x := V (g)) (hf) d_Hop_copySlot_23 (fun H locs hP hD hS => ?_)
  refine lv_aload_n hx hb d_Hop_copySlot_24 rfl (lv_at hl 0 rfl) ?_
  refine hg_taken X hK hP d_Hop_copySlot_25 ?_
  refine lv_iload_n hx hb d_Hop_copySlot_28 rfl (lv_at hl 2 rfl) ?_
  refine lv_aload_n hx hb d_Hop_copySlot_29 rfl (lv_at hl 0 rfl) ?_
  refine hg_taken X hK hP d_Hop_copySlot_30 ?_
  refine lv_iload_n hx hb d_Hop_copySlot_33 rfl (lv_at hl 1 rfl) ?_
  refine hl_T X hK hP (i := g) (hg) d_Hop_copySlot_34 ?_
  refine hs_T X hK hP hD hS (i := f) (x := (T (g))) (hf) d_Hop_copySlot_35 (fun H locs hP hD hS => ?_)
  exact W.vret hx hb hr (fun t ht hW => ⟨rfl, by rw [ht]; exact hP, hS.F ht⟩) hS.2.2 d_Hop_copySlot_36
set_option maxHeartbeats 4000000 in
set_option maxRecDepth 100000 in
/-- freeAll: all places of a part are free -/
theorem c_Hop_freeAll (l : Launch) (D : va_G) (ca a q : Nat → Nat) (K V : IT) (T : BT) (C : IT) (B P : Nat → Nat) (S : IT) (j : Nat) (hj : j < 4) (hbd : B j + P j ≤ 256) : Met l y_Hop_freeAll w_Hop_freeAll (rmD 1 0 0) (va_Pc [.ref (a 0), .ref (q j)] (hb_W D hCl (wH ca a q K V T C B P S) (tyH ca))) (hq_W (none) D hCl (wH ca a q K V (clr T (B j) (P j)) C B P S) (hA (wH ca a q K V T C B P S))) 0 0 (hA (wH ca a q K V T C B P S)) := by
  refine Met.ofW (cc := b_Hop_freeAll) (maxL := 3) (ret := none) (by decide) rfl ?_
  intro p e s m args below meth c0 s₁ B0 hml hv
  obtain ⟨rfl, hP, hK, hD0⟩ := hv
  have hx := B0.exec
  have hb := B0.bytes
  have hr := B0.returns
  have hts := atoms_spec (ws := w_Hop_freeAll) B0.pre
  have hown : s.vm.findClass R_Hop = some m.cls := findClass_of_methodNamed B0.named
  have hlocks := B0.notSynchronized
  have hwA : ∀ w ∈ wsA, w.before ([.ref (a 0), .ref (q j)] : List Value).toArray s = true := fun w h => hts w (List.mem_cons_of_mem _ h)
  have X : CallFix p m c0 b_Hop_freeAll 3 s ([.ref (a 0), .ref (q j)] : List Value).toArray wsA R_Hop := ⟨hx, hb, hml, hown, hwA⟩
  have hD := hA_D hD0
  have hS : va_S (hA (wH ca a q K V T C B P S)) s.heap s.heap [] := va_S.rf
  have hl := lv_entry ([.ref (a 0), .ref (q j)]) (n := 3) (Nat.le_of_ble_eq_true rfl)
  rw [lg_entry_eq]
  generalize (lg_sl ([.ref (a 0), .ref (q j)]) ++ List.replicate (3 - (lg_sl ([.ref (a 0), .ref (q j)])).length) Slot.unset).toArray = ls at hl ⊢
  have hl : lv_has ls 3 [(0, .ref (a 0)), (1, .ref (q j))] := hl
  have loop : ∀ (n i : Nat) (ls : Array Slot) (H : Heap) (locs : List Loc), i + n = P j → va_P D hCl (wH ca a q K V (clr T (B j) i) C B P S) H → va_D (hA (wH ca a q K V T C B P S)) (wH ca a q K V (clr T (B j) i) C B P S) → va_S (hA (wH ca a q K V T C B P S)) s.heap H locs → lv_has ls 3 [(2, .int (nI (B j + i))), (0, .ref (a 0)), (1, .ref (q j))] → W p l e (headSpec w_Hop_freeAll (rmD 1 0 0)).room s m ([.ref (a 0), .ref (q j)] : List Value).toArray below meth c0 H locs 0 0 (MQ below (hq_W (none) D hCl (wH ca a q K V (clr T (B j) (P j)) C B P S) (hA (wH ca a q K V T C B P S))) ([.ref (a 0), .ref (q j)] : List Value).toArray s 0 0 (hA (wH ca a q K V T C B P S))) (F0 m 5 ls []) := by
    intro n
    induction n with
    | zero =>
      intro i ls H locs hi hP hD hS hl
      have hiP : i = P j := by omega
      rw [hiP] at hP
      refine lv_iload_n hx hb d_Hop_freeAll_5 rfl (lv_at hl 0 rfl) ?_
      refine lv_aload_n hx hb d_Hop_freeAll_6 rfl (lv_at hl 2 rfl) ?_
      refine k_end X hK hP hl.1 hj (Nat.le_of_ble_eq_true rfl) ⟨Nat.zero_le _, Nat.zero_le _⟩ ⟨Nat.le_of_ble_eq_true rfl, Nat.le_of_ble_eq_true rfl⟩ d_Hop_freeAll_7 ?_
      refine lvT_icmp_ge (tgt := 26) hx hb d_Hop_freeAll_10 (by decide) (nI_le (a := B j + P j) (b := B j + i) (by omega) (by omega)) ?_
      exact W.vret hx hb hr (fun t ht hW => ⟨rfl, by rw [ht]; exact hP, hS.F ht⟩) hS.2.2 d_Hop_freeAll_26
    | succ n ih =>
      intro i ls H locs hi hP hD hS hl
      refine lv_iload_n hx hb d_Hop_freeAll_5 rfl (lv_at hl 0 rfl) ?_
      refine lv_aload_n hx hb d_Hop_freeAll_6 rfl (lv_at hl 2 rfl) ?_
      refine k_end X hK hP hl.1 hj (Nat.le_of_ble_eq_true rfl) ⟨Nat.zero_le _, Nat.zero_le _⟩ ⟨Nat.le_of_ble_eq_true rfl, Nat.le_of_ble_eq_true rfl⟩ d_Hop_freeAll_7 ?_
      refine lvF_icmp_ge (tgt := 26) hx hb d_Hop_freeAll_10 (by decide) (nI_ge (a := B j + i) (b := B j + P j) (by omega) (by omega)) ?_
      refine lv_aload_n hx hb d_Hop_freeAll_13 rfl (lv_at hl 1 rfl) ?_
      refine hg_taken X hK hP d_Hop_freeAll_14 ?_
      refine lv_iload_n hx hb d_Hop_freeAll_17 rfl (lv_at hl 0 rfl) ?_
      refine lv_iconst (v := 0) hx hb d_Hop_freeAll_18 (by decide) ?_
      refine hs_T X hK hP hD hS (i := B j + i) (x := false) (by omega) d_Hop_freeAll_19 (fun H locs hP hD hS => ?_)
      rw [clr_s] at hP hD
      refine lv_iinc (k := 0) (v := nI (B j + i + 1)) (lv' := [(2, .int (nI (B j + i + 1))), (0, .ref (a 0)), (1, .ref (q j))]) hx hb d_Hop_freeAll_20 hl rfl (inc1 (B j + i)) (by decide) rfl (fun ls hl => ?_)
      refine lv_goto (tgt := 5) hx hb d_Hop_freeAll_23 (by decide) ?_
      exact ih (i + 1) ls H locs (by omega) hP hD hS hl
  refine lv_aload_n hx hb d_Hop_freeAll_0 rfl (lv_at hl 1 rfl) ?_
  refine hg_base X hK hP hj d_Hop_freeAll_1 ?_
  refine lv_istore_n (lv' := [(2, .int (nI (B j))), (0, .ref (a 0)), (1, .ref (q j))]) hx hb d_Hop_freeAll_4 rfl hl (by decide) rfl (fun ls hl => ?_)
  exact loop (P j) 0 ls s.heap [] (by omega) (by rw [clr_0]; exact hP) (by rw [clr_0]; exact hD) hS hl
section HKB
variable {p : Program} {l : Launch} {e : Env} {R : Room} {s : State} {m : MethodId} {args : Array Value} {below : List Frame} {meth : Method} {c : Code} {H : Heap} {locs : List Loc} {cells slots : Nat} {Q : State → Prop}
variable {cc : ByteArray} {pc nL : Nat} {ls : Array Slot} {rest st0 : List Value} {D : va_G} {A : Nat → Prop} {H0 : Heap} {ca a q : Nat → Nat} {K V : IT} {T : BT} {C : IT} {B P : Nat → Nat} {S : IT}
theorem k_slotOrNone (X : CallFix p m c cc nL s args wsA R_Hop) (hK : va_K D hCl (tyH ca) s) (hP : va_P D hCl (wH ca a q K V T C B P S) H) (hsz : ls.size = nL) {j : Nat} {key : Int32} (hj : j < 4) (hc : pw (P j)) (hbd : B j + P j ≤ 256) (hrm : (rest.map fun v => v.category).sum ≤ 8) (hf : cells ≤ R.cells ∧ slots ≤ R.slots) (hR : 2 ≤ R.frames ∧ 60 ≤ R.locals) (d : decode cc pc = .ok (.invokevirtual 40, 3)) (k : W p l e R s m args below meth c H locs cells slots Q (F0 m (pc + 3) ls (.int (oI (fnd T K (B j) (P j) (hom key (S j) (P j)) key 0 8)) :: rest))) : W p l e R s m args below meth c H locs cells slots Q (F0 m pc ls (.int key :: .ref (q j) :: .ref (a 0) :: rest)) :=
  hr_V (As := [.ref (q j), .int key]) (v := some (.int (oI (fnd T K (B j) (P j) (hom key (S j) (P j)) key 0 8)))) (C := R_Hop) X (c_Hop_slotOrNone l D ca a q K V T C B P S j key hj hc hbd) (cwV 2 X.2.2.2.2 g_Hop_slotOrNone rfl rfl rfl (by decide +kernel) ⟨by show 1 + 1 ≤ _; omega, by show 8 + (6 + 11) + 30 * 1 ≤ _; omega⟩) hP hK (va_recv (q0 := 0) (ci := 0) (q := (R_Hop, F_Hop, 6)) hK hP rfl rfl) rfl hsz rfl hrm hf d k
theorem k_keysIn (X : CallFix p m c cc nL s args wsA R_Hop) (hK : va_K D hCl (tyH ca) s) (hP : va_P D hCl (wH ca a q K V T C B P S) H) (hsz : ls.size = nL) {j : Nat} (hj : j < 4) (hbd : B j + P j ≤ 256) (hrm : (rest.map fun v => v.category).sum ≤ 8) (hf : cells ≤ R.cells ∧ slots ≤ R.slots) (hR : 2 ≤ R.frames ∧ 60 ≤ R.locals) (d : decode cc pc = .ok (.invokevirtual 62, 3)) (k : W p l e R s m args below meth c H locs cells slots Q (F0 m (pc + 3) ls (.int (nI (cnt T (B j) (P j))) :: rest))) : W p l e R s m args below meth c H locs cells slots Q (F0 m pc ls (.ref (q j) :: .ref (a 0) :: rest)) :=
  hr_V (As := [.ref (q j)]) (v := some (.int (nI (cnt T (B j) (P j))))) (C := R_Hop) X (c_Hop_keysIn l D ca a q K V T C B P S j hj hbd) (cwV 1 X.2.2.2.2 g_Hop_keysIn rfl rfl rfl (by decide +kernel) ⟨by show 1 + 1 ≤ _; omega, by show 8 + (4 + 11) + 30 * 1 ≤ _; omega⟩) hP hK (va_recv (q0 := 0) (ci := 0) (q := (R_Hop, F_Hop, 6)) hK hP rfl rfl) rfl hsz rfl hrm hf d k
theorem k_isBitSet (X : CallFix p m c cc nL s args wsA R_Hop) (hK : va_K D hCl (tyH ca) s) (hP : va_P D hCl (wH ca a q K V T C B P S) H) (hsz : ls.size = nL) {j h i : Nat} (hj : j < 4) (hc : pw (P j)) (hbd : B j + P j ≤ 256) (hh : h < 65536) (hi : i < 65536) (hrm : (rest.map fun v => v.category).sum ≤ 8) (hf : cells ≤ R.cells ∧ slots ≤ R.slots) (hR : 2 ≤ R.frames ∧ 60 ≤ R.locals) (d : decode cc pc = .ok (.invokevirtual 96, 3)) (k : W p l e R s m args below meth c H locs cells slots Q (F0 m (pc + 3) ls (.int (bI (bit T K (B j) (P j) (S j) h i)) :: rest))) : W p l e R s m args below meth c H locs cells slots Q (F0 m pc ls (.int (nI i) :: .int (nI h) :: .ref (q j) :: .ref (a 0) :: rest)) :=
  hr_V (As := [.ref (q j), .int (nI h), .int (nI i)]) (v := some (.int (bI (bit T K (B j) (P j) (S j) h i)))) (C := R_Hop) X (c_Hop_isBitSet l D ca a q K V T C B P S j hj h i hc hbd hh hi) (cwV 3 X.2.2.2.2 g_Hop_isBitSet rfl rfl rfl (by decide +kernel) ⟨by show 1 + 1 ≤ _; omega, by show 8 + (5 + 11) + 30 * 1 ≤ _; omega⟩) hP hK (va_recv (q0 := 0) (ci := 0) (q := (R_Hop, F_Hop, 6)) hK hP rfl rfl) rfl hsz rfl hrm hf d k
theorem k_stepsToFree (X : CallFix p m c cc nL s args wsA R_Hop) (hK : va_K D hCl (tyH ca) s) (hP : va_P D hCl (wH ca a q K V T C B P S) H) (hsz : ls.size = nL) {j h : Nat} (hj : j < 4) (hc : pw (P j)) (hbd : B j + P j ≤ 256) (hh : h < 65536) (hrm : (rest.map fun v => v.category).sum ≤ 8) (hf : cells ≤ R.cells ∧ slots ≤ R.slots) (hR : 2 ≤ R.frames ∧ 60 ≤ R.locals) (d : decode cc pc = .ok (.invokevirtual 126, 3)) (k : W p l e R s m args below meth c H locs cells slots Q (F0 m (pc + 3) ls (.int (oI (stp T (B j) (P j) h 0 (P j))) :: rest))) : W p l e R s m args below meth c H locs cells slots Q (F0 m pc ls (.int (nI h) :: .ref (q j) :: .ref (a 0) :: rest)) :=
  hr_V (As := [.ref (q j), .int (nI h)]) (v := some (.int (oI (stp T (B j) (P j) h 0 (P j))))) (C := R_Hop) X (c_Hop_stepsToFree l D ca a q K V T C B P S j hj h hc hbd hh) (cwV 2 X.2.2.2.2 g_Hop_stepsToFree rfl rfl rfl (by decide +kernel) ⟨by show 1 + 1 ≤ _; omega, by show 8 + (4 + 11) + 30 * 1 ≤ _; omega⟩) hP hK (va_recv (q0 := 0) (ci := 0) (q := (R_Hop, F_Hop, 6)) hK hP rfl rfl) rfl hsz rfl hrm hf d k
theorem k_copySlot (X : CallFix p m c cc nL s args wsA R_Hop) (hK : va_K D hCl (tyH ca) s) (hP : va_P D hCl (wH ca a q K V T C B P S) H) (hD : va_D A (wH ca a q K V T C B P S)) (hS : va_S A H0 H locs) (hsz : ls.size = nL) {g f : Nat} (hg : g < 256) (hf9 : f < 256) (hrm : (rest.map fun v => v.category).sum ≤ 8) (hf : cells ≤ R.cells ∧ slots ≤ R.slots) (hR : 1 ≤ R.frames ∧ 30 ≤ R.locals) (d : decode cc pc = .ok (.invokevirtual 132, 3)) (k : ∀ (H1 : Heap) (locs1 : List Loc), va_P D hCl (wH ca a q (upd K f (K g)) (upd V f (V g)) (va_up T f (T g)) C B P S) H1 → va_D A (wH ca a q (upd K f (K g)) (upd V f (V g)) (va_up T f (T g)) C B P S) → va_S A H0 H1 locs1 → W p l e R s m args below meth c H1 locs1 cells slots Q (F0 m (pc + 3) ls (rest))) : W p l e R s m args below meth c H locs cells slots Q (F0 m pc ls (.int (nI f) :: .int (nI g) :: .ref (a 0) :: rest)) :=
  hw_V (As := [.int (nI g), .int (nI f)]) (v := none) (C := R_Hop) X (c_Hop_copySlot l D ca a q K V T C B P S g f hg hf9) (cwV 2 X.2.2.2.2 g_Hop_copySlot rfl rfl rfl (by decide +kernel) ⟨by show 0 + 1 ≤ _; omega, by show 8 + (3 + 11) + 30 * 0 ≤ _; omega⟩) hP hK hD hS wH_a (va_recv (q0 := 0) (ci := 0) (q := (R_Hop, F_Hop, 6)) hK hP rfl rfl) rfl hsz rfl hrm hf d k
theorem k_freeAll (X : CallFix p m c cc nL s args wsA R_Hop) (hK : va_K D hCl (tyH ca) s) (hP : va_P D hCl (wH ca a q K V T C B P S) H) (hD : va_D A (wH ca a q K V T C B P S)) (hS : va_S A H0 H locs) (hsz : ls.size = nL) {j : Nat} (hj : j < 4) (hbd : B j + P j ≤ 256) (hrm : (rest.map fun v => v.category).sum ≤ 8) (hf : cells ≤ R.cells ∧ slots ≤ R.slots) (hR : 2 ≤ R.frames ∧ 60 ≤ R.locals) (d : decode cc pc = .ok (.invokevirtual 70, 3)) (k : ∀ (H1 : Heap) (locs1 : List Loc), va_P D hCl (wH ca a q K V (clr T (B j) (P j)) C B P S) H1 → va_D A (wH ca a q K V (clr T (B j) (P j)) C B P S) → va_S A H0 H1 locs1 → W p l e R s m args below meth c H1 locs1 cells slots Q (F0 m (pc + 3) ls (rest))) : W p l e R s m args below meth c H locs cells slots Q (F0 m pc ls (.ref (q j) :: .ref (a 0) :: rest)) :=
  hw_V (As := [.ref (q j)]) (v := none) (C := R_Hop) X (c_Hop_freeAll l D ca a q K V T C B P S j hj hbd) (cwV 1 X.2.2.2.2 g_Hop_freeAll rfl rfl rfl (by decide +kernel) ⟨by show 1 + 1 ≤ _; omega, by show 8 + (3 + 11) + 30 * 1 ≤ _; omega⟩) hP hK hD hS wH_a (va_recv (q0 := 0) (ci := 0) (q := (R_Hop, F_Hop, 6)) hK hP rfl rfl) rfl hsz rfl hrm hf d k
end HKB
