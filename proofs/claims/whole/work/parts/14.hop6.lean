set_option maxHeartbeats 4000000 in
set_option maxRecDepth 100000 in
/-- insertAnew -/
theorem c_Hop_insertAnew (l : Launch) (D : va_G) (ca a q : Nat → Nat) (K V : IT) (T : BT) (C : IT) (B P : Nat → Nat) (S : IT) (j k : Nat) (hj : j < 4) (hk : k < 4) (hbj : B j + P j ≤ 256) (hck : pw (P k)) (hbk : B k + P k ≤ 256) : Met l y_Hop_insertAnew w_Hop_insertAnew (rmD 4 0 0) (va_Pc [.ref (a 0), .ref (q j), .ref (q k)] (hb_W D hCl (wH ca a q K V T C B P S) (tyH ca))) (hq_W (some (.int (bI (anw (B k) (P k) (S k) (B j) (P j) (K, V, T, C)).1))) D hCl (wH ca a q (anw (B k) (P k) (S k) (B j) (P j) (K, V, T, C)).2.1 (anw (B k) (P k) (S k) (B j) (P j) (K, V, T, C)).2.2.1 (anw (B k) (P k) (S k) (B j) (P j) (K, V, T, C)).2.2.2.1 (anw (B k) (P k) (S k) (B j) (P j) (K, V, T, C)).2.2.2.2 B P S) (hA (wH ca a q K V T C B P S))) 0 0 (hA (wH ca a q K V T C B P S)) := by
  refine Met.ofW (cc := b_Hop_insertAnew) (maxL := 4) (ret := some .boolean) (by decide) rfl ?_
  intro p e s m args below meth c0 s₁ B0 hml hv
  obtain ⟨rfl, hP, hK, hD0⟩ := hv
  have hx := B0.exec
  have hb := B0.bytes
  have hr := B0.returns
  have hts := atoms_spec (ws := w_Hop_insertAnew) B0.pre
  have hown : s.vm.findClass R_Hop = some m.cls := findClass_of_methodNamed B0.named
  have hlocks := B0.notSynchronized
  have hwA : ∀ w ∈ wsA, w.before ([.ref (a 0), .ref (q j), .ref (q k)] : List Value).toArray s = true := fun w h => hts w (List.mem_cons_of_mem _ h)
  have X : CallFix p m c0 b_Hop_insertAnew 4 s ([.ref (a 0), .ref (q j), .ref (q k)] : List Value).toArray wsA R_Hop := ⟨hx, hb, hml, hown, hwA⟩
  have hD := hA_D hD0
  have hS : va_S (hA (wH ca a q K V T C B P S)) s.heap s.heap [] := va_S.rf
  have hl := lv_entry ([.ref (a 0), .ref (q j), .ref (q k)]) (n := 4) (Nat.le_of_ble_eq_true rfl)
  rw [lg_entry_eq]
  generalize (lg_sl ([.ref (a 0), .ref (q j), .ref (q k)]) ++ List.replicate (4 - (lg_sl ([.ref (a 0), .ref (q j), .ref (q k)])).length) Slot.unset).toArray = ls at hl ⊢
  have hl : lv_has ls 4 [(0, .ref (a 0)), (1, .ref (q j)), (2, .ref (q k))] := hl
  have loop : ∀ (n i : Nat) (ls : Array Slot) (H : Heap) (locs : List Loc) (K' V' : IT) (T' : BT) (C' : IT), i + n = P j → anw (B k) (P k) (S k) (B j + i) n (K', V', T', C') = (anw (B k) (P k) (S k) (B j) (P j) (K, V, T, C)) → va_P D hCl (wH ca a q K' V' T' C' B P S) H → va_D (hA (wH ca a q K V T C B P S)) (wH ca a q K' V' T' C' B P S) → va_S (hA (wH ca a q K V T C B P S)) s.heap H locs → lv_has ls 4 [(3, .int (nI (B j + i))), (0, .ref (a 0)), (1, .ref (q j)), (2, .ref (q k))] → W p l e (headSpec w_Hop_insertAnew (rmD 4 0 0)).room s m ([.ref (a 0), .ref (q j), .ref (q k)] : List Value).toArray below meth c0 H locs 0 0 (MQ below (hq_W (some (.int (bI (anw (B k) (P k) (S k) (B j) (P j) (K, V, T, C)).1))) D hCl (wH ca a q (anw (B k) (P k) (S k) (B j) (P j) (K, V, T, C)).2.1 (anw (B k) (P k) (S k) (B j) (P j) (K, V, T, C)).2.2.1 (anw (B k) (P k) (S k) (B j) (P j) (K, V, T, C)).2.2.2.1 (anw (B k) (P k) (S k) (B j) (P j) (K, V, T, C)).2.2.2.2 B P S) (hA (wH ca a q K V T C B P S))) ([.ref (a 0), .ref (q j), .ref (q k)] : List Value).toArray s 0 0 (hA (wH ca a q K V T C B P S))) (F0 m 5 ls []) := by
    intro n
    induction n with
    | zero =>
      intro i ls H locs K' V' T' C' hi hR hP hD hS hl
      refine lv_iload_n hx hb d_Hop_insertAnew_5 rfl (lv_at hl 0 rfl) ?_
      refine lv_aload_n hx hb d_Hop_insertAnew_6 rfl (lv_at hl 2 rfl) ?_
      refine k_end X hK hP hl.1 hj (Nat.le_of_ble_eq_true rfl) ⟨Nat.zero_le _, Nat.zero_le _⟩ ⟨Nat.le_of_ble_eq_true rfl, Nat.le_of_ble_eq_true rfl⟩ d_Hop_insertAnew_7 ?_
      refine lvT_icmp_ge (tgt := 50) hx hb d_Hop_insertAnew_10 (by decide) (nI_le (a := B j + P j) (b := B j + i) (by omega) (by omega)) ?_
      refine lv_iconst (v := 1) hx hb d_Hop_insertAnew_50 (by decide) ?_
      have hR1 : (anw (B k) (P k) (S k) (B j) (P j) (K, V, T, C)) = (true, K', V', T', C') := hR.symm
      exact W.zret (v := 1) hx hb hr rfl (fun t ht hW => ⟨by rw [hR1]; rfl, by rw [ht, hR1]; exact hP, hS.F ht⟩) hS.2.2 d_Hop_insertAnew_51
    | succ n ih =>
      intro i ls H locs K' V' T' C' hi hR hP hD hS hl
      refine lv_iload_n hx hb d_Hop_insertAnew_5 rfl (lv_at hl 0 rfl) ?_
      refine lv_aload_n hx hb d_Hop_insertAnew_6 rfl (lv_at hl 2 rfl) ?_
      refine k_end X hK hP hl.1 hj (Nat.le_of_ble_eq_true rfl) ⟨Nat.zero_le _, Nat.zero_le _⟩ ⟨Nat.le_of_ble_eq_true rfl, Nat.le_of_ble_eq_true rfl⟩ d_Hop_insertAnew_7 ?_
      refine lvF_icmp_ge (tgt := 50) hx hb d_Hop_insertAnew_10 (by decide) (nI_ge (a := B j + i) (b := B j + P j) (by omega) (by omega)) ?_
      refine lv_aload_n hx hb d_Hop_insertAnew_13 rfl (lv_at hl 1 rfl) ?_
      refine hg_taken X hK hP d_Hop_insertAnew_14 ?_
      refine lv_iload_n hx hb d_Hop_insertAnew_17 rfl (lv_at hl 0 rfl) ?_
      refine hl_T X hK hP (i := B j + i) (by omega) d_Hop_insertAnew_18 ?_
      refine lv_if_eq (tgt := 44) hx hb d_Hop_insertAnew_19 (by decide) (fun h1 => ?_) (fun h1 => ?_)
      · refine lv_iinc (k := 0) (v := nI (B j + i + 1)) (lv' := [(3, .int (nI (B j + i + 1))), (0, .ref (a 0)), (1, .ref (q j)), (2, .ref (q k))]) hx hb d_Hop_insertAnew_44 hl rfl (inc1 (B j + i)) (by decide) rfl (fun ls hl => ?_)
        refine lv_goto (tgt := 5) hx hb d_Hop_insertAnew_47 (by decide) ?_
        exact ih (i + 1) ls H locs _ _ _ _ (by omega) ((anw_f (X := (K', V', T', C')) (bI_0.mp h1)).symm.trans hR) hP hD hS hl
      · refine lv_aload_n hx hb d_Hop_insertAnew_22 rfl (lv_at hl 1 rfl) ?_
        refine lv_aload_n hx hb d_Hop_insertAnew_23 rfl (lv_at hl 3 rfl) ?_
        refine lv_aload_n hx hb d_Hop_insertAnew_24 rfl (lv_at hl 1 rfl) ?_
        refine hg_keys X hK hP d_Hop_insertAnew_25 ?_
        refine lv_iload_n hx hb d_Hop_insertAnew_28 rfl (lv_at hl 0 rfl) ?_
        refine hl_K X hK hP (i := B j + i) (by omega) d_Hop_insertAnew_29 ?_
        refine lv_aload_n hx hb d_Hop_insertAnew_30 rfl (lv_at hl 1 rfl) ?_
        refine hg_values X hK hP d_Hop_insertAnew_31 ?_
        refine lv_iload_n hx hb d_Hop_insertAnew_34 rfl (lv_at hl 0 rfl) ?_
        refine hl_V X hK hP (i := B j + i) (by omega) d_Hop_insertAnew_35 ?_
        refine k_insert X hK hP hD hS hl.1 (key := K' (B j + i)) (val := V' (B j + i)) hk hck hbk (Nat.le_of_ble_eq_true rfl) ⟨Nat.zero_le _, Nat.zero_le _⟩ ⟨Nat.le_of_ble_eq_true rfl, Nat.le_of_ble_eq_true rfl⟩ d_Hop_insertAnew_36 (fun H locs hP hD hS => ?_)
        refine lv_if_ne (tgt := 44) hx hb d_Hop_insertAnew_39 (by decide) (fun h2 => ?_) (fun h2 => ?_)
        · refine lv_iinc (k := 0) (v := nI (B j + i + 1)) (lv' := [(3, .int (nI (B j + i + 1))), (0, .ref (a 0)), (1, .ref (q j)), (2, .ref (q k))]) hx hb d_Hop_insertAnew_44 hl rfl (inc1 (B j + i)) (by decide) rfl (fun ls hl => ?_)
          refine lv_goto (tgt := 5) hx hb d_Hop_insertAnew_47 (by decide) ?_
          exact ih (i + 1) ls H locs _ _ _ _ (by omega) ((anw_t (X := (K', V', T', C')) (bI_n0.mp h1) (bI_n0.mp h2)).symm.trans hR) hP hD hS hl
        · refine lv_iconst (v := 0) hx hb d_Hop_insertAnew_42 (by decide) ?_
          have hR1 : (anw (B k) (P k) (S k) (B j) (P j) (K, V, T, C)) = (false, (ins (B k) (P k) (S k) (K' (B j + i)) (V' (B j + i)) (K', V', T', C')).2) := hR.symm.trans (anw_n (X := (K', V', T', C')) (bI_n0.mp h1) (bI_0.mp (h2)))
          exact W.zret (v := 0) hx hb hr rfl (fun t ht hW => ⟨by rw [hR1]; rfl, by rw [ht, hR1]; exact hP, hS.F ht⟩) hS.2.2 d_Hop_insertAnew_43
  refine lv_aload_n hx hb d_Hop_insertAnew_0 rfl (lv_at hl 1 rfl) ?_
  refine hg_base X hK hP hj d_Hop_insertAnew_1 ?_
  refine lv_istore_n (lv' := [(3, .int (nI (B j))), (0, .ref (a 0)), (1, .ref (q j)), (2, .ref (q k))]) hx hb d_Hop_insertAnew_4 rfl hl (by decide) rfl (fun ls hl => ?_)
  exact loop (P j) 0 ls s.heap [] K V T C (by omega) rfl hP hD hS hl
section HKB
variable {p : Program} {l : Launch} {e : Env} {R : Room} {s : State} {m : MethodId} {args : Array Value} {below : List Frame} {meth : Method} {c : Code} {H : Heap} {locs : List Loc} {cells slots : Nat} {Q : State → Prop}
variable {cc : ByteArray} {pc nL : Nat} {ls : Array Slot} {rest st0 : List Value} {D : va_G} {A : Nat → Prop} {H0 : Heap} {ca a q : Nat → Nat} {K V : IT} {T : BT} {C : IT} {B P : Nat → Nat} {S : IT}
theorem k_sumOfCapacities (X : CallFix p m c cc nL s args wsA R_Hop) (hK : va_K D hCl (tyH ca) s) (hP : va_P D hCl (wH ca a q K V T C B P S) H) (hsz : ls.size = nL)  (hrm : (rest.map fun v => v.category).sum ≤ 8) (hf : cells ≤ R.cells ∧ slots ≤ R.slots) (hR : 1 ≤ R.frames ∧ 30 ≤ R.locals) (d : decode cc pc = .ok (.invokevirtual 136, 3)) (k : W p l e R s m args below meth c H locs cells slots Q (F0 m (pc + 3) ls (.int (nI (P 0 + P 1 + P 2)) :: rest))) : W p l e R s m args below meth c H locs cells slots Q (F0 m pc ls (.ref (a 0) :: rest)) :=
  hr_V (As := []) (v := some (.int (nI (P 0 + P 1 + P 2)))) (C := R_Hop) X (c_Hop_sumOfCapacities l D ca a q K V T C B P S ) (cwV 0 X.2.2.2.2 g_Hop_sumOfCapacities rfl rfl rfl (by decide +kernel) ⟨by show 0 + 1 ≤ _; omega, by show 8 + (3 + 11) + 30 * 0 ≤ _; omega⟩) hP hK (va_recv (q0 := 0) (ci := 0) (q := (R_Hop, F_Hop, 6)) hK hP rfl rfl) rfl hsz rfl hrm hf d k
theorem k_lastEnd (X : CallFix p m c cc nL s args wsA R_Hop) (hK : va_K D hCl (tyH ca) s) (hP : va_P D hCl (wH ca a q K V T C B P S) H) (hsz : ls.size = nL) (hb0 : B 0 + P 0 ≤ 256) (hb1 : B 1 + P 1 ≤ 256) (hb2 : B 2 + P 2 ≤ 256) (hrm : (rest.map fun v => v.category).sum ≤ 8) (hf : cells ≤ R.cells ∧ slots ≤ R.slots) (hR : 2 ≤ R.frames ∧ 60 ≤ R.locals) (d : decode cc pc = .ok (.invokevirtual 149, 3)) (k : W p l e R s m args below meth c H locs cells slots Q (F0 m (pc + 3) ls (.int (nI (lastE B P)) :: rest))) : W p l e R s m args below meth c H locs cells slots Q (F0 m pc ls (.ref (a 0) :: rest)) :=
  hr_V (As := []) (v := some (.int (nI (lastE B P)))) (C := R_Hop) X (c_Hop_lastEnd l D ca a q K V T C B P S hb0 hb1 hb2) (cwV 0 X.2.2.2.2 g_Hop_lastEnd rfl rfl rfl (by decide +kernel) ⟨by show 1 + 1 ≤ _; omega, by show 8 + (3 + 11) + 30 * 1 ≤ _; omega⟩) hP hK (va_recv (q0 := 0) (ci := 0) (q := (R_Hop, F_Hop, 6)) hK hP rfl rfl) rfl hsz rfl hrm hf d k
theorem k_lowestFrom (X : CallFix p m c cc nL s args wsA R_Hop) (hK : va_K D hCl (tyH ca) s) (hP : va_P D hCl (wH ca a q K V T C B P S) H) (hsz : ls.size = nL) {f : Nat} (hf9 : f < 65536) (hb0 : B 0 + P 0 ≤ 256) (hb1 : B 1 + P 1 ≤ 256) (hb2 : B 2 + P 2 ≤ 256) (hrm : (rest.map fun v => v.category).sum ≤ 8) (hf : cells ≤ R.cells ∧ slots ≤ R.slots) (hR : 1 ≤ R.frames ∧ 30 ≤ R.locals) (d : decode cc pc = .ok (.invokevirtual 161, 3)) (k : W p l e R s m args below meth c H locs cells slots Q (F0 m (pc + 3) ls (rQ q (lowS B f 3) :: rest))) : W p l e R s m args below meth c H locs cells slots Q (F0 m pc ls (.int (nI f) :: .ref (a 0) :: rest)) :=
  hr_V (As := [.int (nI f)]) (v := some (rQ q (lowS B f 3))) (C := R_Hop) X (c_Hop_lowestFrom l D ca a q K V T C B P S f hf9 hb0 hb1 hb2) (cwV 1 X.2.2.2.2 g_Hop_lowestFrom rfl rfl rfl (by decide +kernel) ⟨by show 0 + 1 ≤ _; omega, by show 8 + (5 + 11) + 30 * 0 ≤ _; omega⟩) hP hK (va_recv (q0 := 0) (ci := 0) (q := (R_Hop, F_Hop, 6)) hK hP rfl rfl) rfl hsz rfl hrm hf d k
theorem k_moveDown (X : CallFix p m c cc nL s args wsA R_Hop) (hK : va_K D hCl (tyH ca) s) (hP : va_P D hCl (wH ca a q K V T C B P S) H) (hD : va_D A (wH ca a q K V T C B P S)) (hS : va_S A H0 H locs) (hsz : ls.size = nL) {j f : Nat} (hj : j < 4) (hbd : B j + P j ≤ 256) (hf9 : f ≤ B j) (hrm : (rest.map fun v => v.category).sum ≤ 8) (hf : cells ≤ R.cells ∧ slots ≤ R.slots) (hR : 2 ≤ R.frames ∧ 60 ≤ R.locals) (d : decode cc pc = .ok (.invokevirtual 164, 3)) (k : ∀ (H1 : Heap) (locs1 : List Loc), va_P D hCl (wH ca a q (cpyI K (B j) f (P j)) (cpyI V (B j) f (P j)) (cpyB T (B j) f (P j)) C (va_up B j f) P S) H1 → va_D A (wH ca a q (cpyI K (B j) f (P j)) (cpyI V (B j) f (P j)) (cpyB T (B j) f (P j)) C (va_up B j f) P S) → va_S A H0 H1 locs1 → W p l e R s m args below meth c H1 locs1 cells slots Q (F0 m (pc + 3) ls (rest))) : W p l e R s m args below meth c H locs cells slots Q (F0 m pc ls (.int (nI f) :: .ref (q j) :: .ref (a 0) :: rest)) :=
  hw_V (As := [.ref (q j), .int (nI f)]) (v := none) (C := R_Hop) X (c_Hop_moveDown l D ca a q K V T C B P S j hj f hbd hf9) (cwV 2 X.2.2.2.2 g_Hop_moveDown rfl rfl rfl (by decide +kernel) ⟨by show 1 + 1 ≤ _; omega, by show 8 + (4 + 11) + 30 * 1 ≤ _; omega⟩) hP hK hD hS wH_a (va_recv (q0 := 0) (ci := 0) (q := (R_Hop, F_Hop, 6)) hK hP rfl rfl) rfl hsz rfl hrm hf d k
theorem k_insertAnew (X : CallFix p m c cc nL s args wsA R_Hop) (hK : va_K D hCl (tyH ca) s) (hP : va_P D hCl (wH ca a q K V T C B P S) H) (hD : va_D A (wH ca a q K V T C B P S)) (hS : va_S A H0 H locs) (hsz : ls.size = nL) {j k0 : Nat} (hj : j < 4) (hk : k0 < 4) (hbj : B j + P j ≤ 256) (hck : pw (P k0)) (hbk : B k0 + P k0 ≤ 256) (hrm : (rest.map fun v => v.category).sum ≤ 8) (hf : cells ≤ R.cells ∧ slots ≤ R.slots) (hR : 5 ≤ R.frames ∧ 150 ≤ R.locals) (d : decode cc pc = .ok (.invokevirtual 145, 3)) (k : ∀ (H1 : Heap) (locs1 : List Loc), va_P D hCl (wH ca a q (anw (B k0) (P k0) (S k0) (B j) (P j) (K, V, T, C)).2.1 (anw (B k0) (P k0) (S k0) (B j) (P j) (K, V, T, C)).2.2.1 (anw (B k0) (P k0) (S k0) (B j) (P j) (K, V, T, C)).2.2.2.1 (anw (B k0) (P k0) (S k0) (B j) (P j) (K, V, T, C)).2.2.2.2 B P S) H1 → va_D A (wH ca a q (anw (B k0) (P k0) (S k0) (B j) (P j) (K, V, T, C)).2.1 (anw (B k0) (P k0) (S k0) (B j) (P j) (K, V, T, C)).2.2.1 (anw (B k0) (P k0) (S k0) (B j) (P j) (K, V, T, C)).2.2.2.1 (anw (B k0) (P k0) (S k0) (B j) (P j) (K, V, T, C)).2.2.2.2 B P S) → va_S A H0 H1 locs1 → W p l e R s m args below meth c H1 locs1 cells slots Q (F0 m (pc + 3) ls (.int (bI (anw (B k0) (P k0) (S k0) (B j) (P j) (K, V, T, C)).1) :: rest))) : W p l e R s m args below meth c H locs cells slots Q (F0 m pc ls (.ref (q k0) :: .ref (q j) :: .ref (a 0) :: rest)) :=
  hw_V (As := [.ref (q j), .ref (q k0)]) (v := some (.int (bI (anw (B k0) (P k0) (S k0) (B j) (P j) (K, V, T, C)).1))) (C := R_Hop) X (c_Hop_insertAnew l D ca a q K V T C B P S j k0 hj hk hbj hck hbk) (cwV 2 X.2.2.2.2 g_Hop_insertAnew rfl rfl rfl (by decide +kernel) ⟨by show 4 + 1 ≤ _; omega, by show 8 + (4 + 11) + 30 * 4 ≤ _; omega⟩) hP hK hD hS wH_a (va_recv (q0 := 0) (ci := 0) (q := (R_Hop, F_Hop, 6)) hK hP rfl rfl) rfl hsz rfl hrm hf d k
end HKB
