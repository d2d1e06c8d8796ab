set_option maxHeartbeats 4000000 in
set_option maxRecDepth 100000 in
/-- pushTogether -/
theorem c_Hop_pushTogether (l : Launch) (D : va_G) (ca a q : Nat → Nat) (K V : IT) (T : BT) (C : IT) (B P : Nat → Nat) (S : IT) (hb0 : B 0 + P 0 ≤ 256) (hb1 : B 1 + P 1 ≤ 256) (hb2 : B 2 + P 2 ≤ 256) : Met l y_Hop_pushTogether w_Hop_pushTogether (rmD 2 0 0) (va_Pc [.ref (a 0)] (hb_W D hCl (wH ca a q K V T C B P S) (tyH ca))) (hq_W (none) D hCl (wH ca a q (psh P 3 0 (K, V, T, B)).1 (psh P 3 0 (K, V, T, B)).2.1 (psh P 3 0 (K, V, T, B)).2.2.1 (upd C 2 (C 2 + 1)) (psh P 3 0 (K, V, T, B)).2.2.2 P S) (hA (wH ca a q K V T C B P S))) 0 0 (hA (wH ca a q K V T C B P S)) := by
  refine Met.ofW (cc := b_Hop_pushTogether) (maxL := 4) (ret := none) (by decide) rfl ?_
  intro p e s m args below meth c0 s₁ B0 hml hv
  obtain ⟨rfl, hP, hK, hD0⟩ := hv
  have hx := B0.exec
  have hb := B0.bytes
  have hr := B0.returns
  have hts := atoms_spec (ws := w_Hop_pushTogether) B0.pre
  have hown : s.vm.findClass R_Hop = some m.cls := findClass_of_methodNamed B0.named
  have hlocks := B0.notSynchronized
  have hwA : ∀ w ∈ wsA, w.before ([.ref (a 0)] : List Value).toArray s = true := fun w h => hts w (List.mem_cons_of_mem _ h)
  have X : CallFix p m c0 b_Hop_pushTogether 4 s ([.ref (a 0)] : List Value).toArray wsA R_Hop := ⟨hx, hb, hml, hown, hwA⟩
  have hD := hA_D hD0
  have hS : va_S (hA (wH ca a q K V T C B P S)) s.heap s.heap [] := va_S.rf
  have hl := lv_entry ([.ref (a 0)]) (n := 4) (Nat.le_of_ble_eq_true rfl)
  rw [lg_entry_eq]
  generalize (lg_sl ([.ref (a 0)]) ++ List.replicate (4 - (lg_sl ([.ref (a 0)])).length) Slot.unset).toArray = ls at hl ⊢
  have hl : lv_has ls 4 [(0, .ref (a 0))] := hl
  have loop : ∀ (n i f : Nat) (ls : Array Slot) (H : Heap) (locs : List Loc) (K' V' : IT) (T' : BT) (B' : Nat → Nat), i + n = 3 → f ≤ 256 → (∀ i, i < 3 → B' i + P i ≤ 256) → psh P n f (K', V', T', B') = (psh P 3 0 (K, V, T, B)) → va_P D hCl (wH ca a q K' V' T' C B' P S) H → va_D (hA (wH ca a q K V T C B P S)) (wH ca a q K' V' T' C B' P S) → va_S (hA (wH ca a q K V T C B P S)) s.heap H locs → lv_has ls 4 [(2, .int (nI i)), (1, .int (nI f)), (0, .ref (a 0))] → W p l e (headSpec w_Hop_pushTogether (rmD 2 0 0)).room s m ([.ref (a 0)] : List Value).toArray below meth c0 H locs 0 0 (MQ below (hq_W (none) D hCl (wH ca a q (psh P 3 0 (K, V, T, B)).1 (psh P 3 0 (K, V, T, B)).2.1 (psh P 3 0 (K, V, T, B)).2.2.1 (upd C 2 (C 2 + 1)) (psh P 3 0 (K, V, T, B)).2.2.2 P S) (hA (wH ca a q K V T C B P S))) ([.ref (a 0)] : List Value).toArray s 0 0 (hA (wH ca a q K V T C B P S))) (F0 m 4 ls []) := by
    intro n
    induction n with
    | zero =>
      intro i f ls H locs K' V' T' B' hi hf hb3 hR hP hD hS hl
      skip
      refine lv_iload_n hx hb d_Hop_pushTogether_4 rfl (lv_at hl 0 rfl) ?_
      refine lv_iconst (v := 3) hx hb d_Hop_pushTogether_5 (by decide) ?_
      refine lvT_icmp_ge (tgt := 36) hx hb d_Hop_pushTogether_6 (by decide) (nI_le (a := 3) (b := i) (by omega) (by omega)) ?_
      refine lv_aload_n hx hb d_Hop_pushTogether_36 rfl (lv_at hl 2 rfl) ?_
      refine hg_counts X hK hP d_Hop_pushTogether_37 ?_
      refine lv_iconst (v := 2) hx hb d_Hop_pushTogether_40 (by decide) ?_
      refine lv_dup2_11 hx hb d_Hop_pushTogether_41 rfl rfl ?_
      refine hl_C X hK hP (i := 2) (by decide) d_Hop_pushTogether_42 ?_
      refine lv_iconst (v := 1) hx hb d_Hop_pushTogether_43 (by decide) ?_
      refine lv_iadd hx hb d_Hop_pushTogether_44 ?_
      refine hs_C X hK hP hD hS (i := 2) (x := (C (2)) + (1)) (by decide) d_Hop_pushTogether_45 (fun H locs hP hD hS => ?_)
      have hR1 : (psh P 3 0 (K, V, T, B)) = (K', V', T', B') := hR.symm
      exact W.vret hx hb hr (fun t ht hW => ⟨rfl, by rw [ht, hR1]; exact hP, hS.F ht⟩) hS.2.2 d_Hop_pushTogether_46
    | succ n ih =>
      intro i f ls H locs K' V' T' B' hi hf hb3 hR hP hD hS hl
      skip
      refine lv_iload_n hx hb d_Hop_pushTogether_4 rfl (lv_at hl 0 rfl) ?_
      refine lv_iconst (v := 3) hx hb d_Hop_pushTogether_5 (by decide) ?_
      refine lvF_icmp_ge (tgt := 36) hx hb d_Hop_pushTogether_6 (by decide) (nI_ge (a := i) (b := 3) (by omega) (by omega)) ?_
      refine lv_aload_n hx hb d_Hop_pushTogether_9 rfl (lv_at hl 2 rfl) ?_
      refine lv_iload_n hx hb d_Hop_pushTogether_10 rfl (lv_at hl 1 rfl) ?_
      refine k_lowestFrom X hK hP hl.1 (f := f) (by omega) (hb3 0 (by decide)) (hb3 1 (by decide)) (hb3 2 (by decide)) (Nat.le_of_ble_eq_true rfl) ⟨Nat.zero_le _, Nat.zero_le _⟩ ⟨Nat.le_of_ble_eq_true rfl, Nat.le_of_ble_eq_true rfl⟩ d_Hop_pushTogether_11 ?_
      cases hq : lowS B' f 3 with
      | none =>
        refine lv_topv (v' := .null) rfl ?_
        refine lv_astore_nN (lv' := [(3, .null), (2, .int (nI i)), (1, .int (nI f)), (0, .ref (a 0))]) hx hb d_Hop_pushTogether_14 rfl hl (by decide) rfl (fun ls hl => ?_)
        refine lv_aload_nN hx hb d_Hop_pushTogether_15 rfl (lv_at hl 0 rfl) ?_
        refine lv_ifnullN (tgt := 30) hx hb d_Hop_pushTogether_16 (by decide) ?_
        refine lv_iinc (k := 1) (v := nI (i + 1)) (lv' := [(2, .int (nI (i + 1))), (3, .null), (1, .int (nI f)), (0, .ref (a 0))]) hx hb d_Hop_pushTogether_30 hl rfl (inc1 i) (by decide) rfl (fun ls hl => ?_)
        refine lv_goto (tgt := 4) hx hb d_Hop_pushTogether_33 (by decide) ?_
        exact ih (i + 1) f ls H locs _ _ _ _ (by omega) hf hb3 ((psh_n (Y := (K', V', T', B')) hq).symm.trans hR) hP hD hS (lv_sub hl [0, 2, 3] rfl)
      | some r =>
        have hr3 := lowS_lt _ _ hq
        have hbr := hb3 r hr3.1
        refine lv_topv (v' := .ref (q r)) rfl ?_
        refine lv_astore_n (lv' := [(3, .ref (q r)), (2, .int (nI i)), (1, .int (nI f)), (0, .ref (a 0))]) hx hb d_Hop_pushTogether_14 rfl hl (by decide) rfl (fun ls hl => ?_)
        refine lv_aload_n hx hb d_Hop_pushTogether_15 rfl (lv_at hl 0 rfl) ?_
        refine lv_ifnull hx hb d_Hop_pushTogether_16 ?_
        refine lv_aload_n hx hb d_Hop_pushTogether_19 rfl (lv_at hl 3 rfl) ?_
        refine lv_aload_n hx hb d_Hop_pushTogether_20 rfl (lv_at hl 0 rfl) ?_
        refine lv_iload_n hx hb d_Hop_pushTogether_21 rfl (lv_at hl 2 rfl) ?_
        refine k_moveDown X hK hP hD hS hl.1 (f := f) (by omega) (hbr) (hr3.2) (Nat.le_of_ble_eq_true rfl) ⟨Nat.zero_le _, Nat.zero_le _⟩ ⟨Nat.le_of_ble_eq_true rfl, Nat.le_of_ble_eq_true rfl⟩ d_Hop_pushTogether_22 (fun H locs hP hD hS => ?_)
        refine lv_aload_n hx hb d_Hop_pushTogether_25 rfl (lv_at hl 0 rfl) ?_
        refine k_end X hK hP hl.1 (by omega) (Nat.le_of_ble_eq_true rfl) ⟨Nat.zero_le _, Nat.zero_le _⟩ ⟨Nat.le_of_ble_eq_true rfl, Nat.le_of_ble_eq_true rfl⟩ d_Hop_pushTogether_26 ?_
        refine lv_tope (y := nI (f + P r)) (by rw [va_up_self]) ?_
        refine lv_istore_n (lv' := [(1, .int (nI (f + P r))), (3, .ref (q r)), (2, .int (nI i)), (0, .ref (a 0))]) hx hb d_Hop_pushTogether_29 rfl hl (by decide) rfl (fun ls hl => ?_)
        refine lv_iinc (k := 2) (v := nI (i + 1)) (lv' := [(2, .int (nI (i + 1))), (1, .int (nI (f + P r))), (3, .ref (q r)), (0, .ref (a 0))]) hx hb d_Hop_pushTogether_30 hl rfl (inc1 i) (by decide) rfl (fun ls hl => ?_)
        refine lv_goto (tgt := 4) hx hb d_Hop_pushTogether_33 (by decide) ?_
        exact ih (i + 1) (f + P r) ls H locs _ _ _ _ (by omega) (by omega) (up_bd hb3 hr3.2 hr3.1) ((psh_s (Y := (K', V', T', B')) hq).symm.trans hR) hP hD hS (lv_sub hl [0, 1, 3] rfl)
  refine lv_iconst (v := 0) hx hb d_Hop_pushTogether_0 (by decide) ?_
  refine lv_istore_n (lv' := [(1, .int 0), (0, .ref (a 0))]) hx hb d_Hop_pushTogether_1 rfl hl (by decide) rfl (fun ls hl => ?_)
  refine lv_iconst (v := 0) hx hb d_Hop_pushTogether_2 (by decide) ?_
  refine lv_istore_n (lv' := [(2, .int 0), (1, .int 0), (0, .ref (a 0))]) hx hb d_Hop_pushTogether_3 rfl hl (by decide) rfl (fun ls hl => ?_)
  exact loop 3 0 0 ls s.heap [] K V T B (by omega) (by omega) (fun i hi => by rcases (show i = 0 ∨ i = 1 ∨ i = 2 by omega) with rfl | rfl | rfl <;> assumption) rfl hP hD hS hl
section HKB
variable {p : Program} {l : Launch} {e : Env} {R : Room} {s : State} {m : MethodId} {args : Array Value} {below : List Frame} {meth : Method} {c : Code} {H : Heap} {locs : List Loc} {cells slots : Nat} {Q : State → Prop}
variable {cc : ByteArray} {pc nL : Nat} {ls : Array Slot} {rest st0 : List Value} {D : va_G} {A : Nat → Prop} {H0 : Heap} {ca a q : Nat → Nat} {K V : IT} {T : BT} {C : IT} {B P : Nat → Nat} {S : IT}
theorem k_pushTogether (X : CallFix p m c cc nL s args wsA R_Hop) (hK : va_K D hCl (tyH ca) s) (hP : va_P D hCl (wH ca a q K V T C B P S) H) (hD : va_D A (wH ca a q K V T C B P S)) (hS : va_S A H0 H locs) (hsz : ls.size = nL) (hb0 : B 0 + P 0 ≤ 256) (hb1 : B 1 + P 1 ≤ 256) (hb2 : B 2 + P 2 ≤ 256) (hrm : (rest.map fun v => v.category).sum ≤ 8) (hf : cells ≤ R.cells ∧ slots ≤ R.slots) (hR : 3 ≤ R.frames ∧ 90 ≤ R.locals) (d : decode cc pc = .ok (.invokevirtual 152, 3)) (k : ∀ (H1 : Heap) (locs1 : List Loc), va_P D hCl (wH ca a q (psh P 3 0 (K, V, T, B)).1 (psh P 3 0 (K, V, T, B)).2.1 (psh P 3 0 (K, V, T, B)).2.2.1 (upd C 2 (C 2 + 1)) (psh P 3 0 (K, V, T, B)).2.2.2 P S) H1 → va_D A (wH ca a q (psh P 3 0 (K, V, T, B)).1 (psh P 3 0 (K, V, T, B)).2.1 (psh P 3 0 (K, V, T, B)).2.2.1 (upd C 2 (C 2 + 1)) (psh P 3 0 (K, V, T, B)).2.2.2 P S) → va_S A H0 H1 locs1 → W p l e R s m args below meth c H1 locs1 cells slots Q (F0 m (pc + 3) ls (rest))) : W p l e R s m args below meth c H locs cells slots Q (F0 m pc ls (.ref (a 0) :: rest)) :=
  hw_V (As := []) (v := none) (C := R_Hop) X (c_Hop_pushTogether l D ca a q K V T C B P S hb0 hb1 hb2) (cwV 0 X.2.2.2.2 g_Hop_pushTogether rfl rfl rfl (by decide +kernel) ⟨by show 2 + 1 ≤ _; omega, by show 8 + (4 + 11) + 30 * 2 ≤ _; omega⟩) hP hK hD hS wH_a (va_recv (q0 := 0) (ci := 0) (q := (R_Hop, F_Hop, 6)) hK hP rfl rfl) rfl hsz rfl hrm hf d k
end HKB
