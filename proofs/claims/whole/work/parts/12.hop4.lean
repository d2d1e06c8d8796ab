set_option maxHeartbeats 4000000 in
set_option maxRecDepth 100000 in
/-- hopNearer: the first key that can move comes to f -/
theorem c_Hop_hopNearer (l : Launch) (D : va_G) (ca a q : Nat → Nat) (K V : IT) (T : BT) (C : IT) (B P : Nat → Nat) (S : IT) (j : Nat) (hj : j < 4) (f : Nat) (hc : pw (P j)) (hbd : B j + P j ≤ 256) (hf8 : 8 ≤ f) (hf : f < 32768) : Met l y_Hop_hopNearer w_Hop_hopNearer (rmD 2 0 0) (va_Pc [.ref (a 0), .ref (q j), .int (nI f)] (hb_W D hCl (wH ca a q K V T C B P S) (tyH ca))) (hq_W (some (.int (hopV (hpD T K (B j) (P j) (S j) f 7)))) D hCl (wH ca a q (hopX (B j) (P j) f (hpD T K (B j) (P j) (S j) f 7) (K, V, T, C)).1 (hopX (B j) (P j) f (hpD T K (B j) (P j) (S j) f 7) (K, V, T, C)).2.1 (hopX (B j) (P j) f (hpD T K (B j) (P j) (S j) f 7) (K, V, T, C)).2.2.1 (hopX (B j) (P j) f (hpD T K (B j) (P j) (S j) f 7) (K, V, T, C)).2.2.2 B P S) (hA (wH ca a q K V T C B P S))) 0 0 (hA (wH ca a q K V T C B P S)) := by
  refine Met.ofW (cc := b_Hop_hopNearer) (maxL := 7) (ret := some .int) (by decide) rfl ?_
  intro p e s m args below meth c0 s₁ B0 hml hv
  obtain ⟨rfl, hP, hK, hD0⟩ := hv
  have hx := B0.exec
  have hb := B0.bytes
  have hr := B0.returns
  have hts := atoms_spec (ws := w_Hop_hopNearer) B0.pre
  have hown : s.vm.findClass R_Hop = some m.cls := findClass_of_methodNamed B0.named
  have hlocks := B0.notSynchronized
  have hwA : ∀ w ∈ wsA, w.before ([.ref (a 0), .ref (q j), .int (nI f)] : List Value).toArray s = true := fun w h => hts w (List.mem_cons_of_mem _ h)
  have X : CallFix p m c0 b_Hop_hopNearer 7 s ([.ref (a 0), .ref (q j), .int (nI f)] : List Value).toArray wsA R_Hop := ⟨hx, hb, hml, hown, hwA⟩
  have hD := hA_D hD0
  have hS : va_S (hA (wH ca a q K V T C B P S)) s.heap s.heap [] := va_S.rf
  have hl := lv_entry ([.ref (a 0), .ref (q j), .int (nI f)]) (n := 7) (Nat.le_of_ble_eq_true rfl)
  rw [lg_entry_eq]
  generalize (lg_sl ([.ref (a 0), .ref (q j), .int (nI f)]) ++ List.replicate (7 - (lg_sl ([.ref (a 0), .ref (q j), .int (nI f)])).length) Slot.unset).toArray = ls at hl ⊢
  have hl : lv_has ls 7 [(0, .ref (a 0)), (1, .ref (q j)), (2, .int (nI f))] := hl
  have hP8 := pw_le hc
  have hP0 := pw_pos hc
  have loop : ∀ (d : Nat) (ls : Array Slot), d ≤ 7 → hpD T K (B j) (P j) (S j) f d = hpD T K (B j) (P j) (S j) f 7 → lv_has ls 7 [(3, .int (nI d)), (0, .ref (a 0)), (1, .ref (q j)), (2, .int (nI f))] → W p l e (headSpec w_Hop_hopNearer (rmD 2 0 0)).room s m ([.ref (a 0), .ref (q j), .int (nI f)] : List Value).toArray below meth c0 s.heap [] 0 0 (MQ below (hq_W (some (.int (hopV (hpD T K (B j) (P j) (S j) f 7)))) D hCl (wH ca a q (hopX (B j) (P j) f (hpD T K (B j) (P j) (S j) f 7) (K, V, T, C)).1 (hopX (B j) (P j) f (hpD T K (B j) (P j) (S j) f 7) (K, V, T, C)).2.1 (hopX (B j) (P j) f (hpD T K (B j) (P j) (S j) f 7) (K, V, T, C)).2.2.1 (hopX (B j) (P j) f (hpD T K (B j) (P j) (S j) f 7) (K, V, T, C)).2.2.2 B P S) (hA (wH ca a q K V T C B P S))) ([.ref (a 0), .ref (q j), .int (nI f)] : List Value).toArray s 0 0 (hA (wH ca a q K V T C B P S))) (F0 m 3 ls []) := by
    intro d
    induction d with
    | zero =>
      intro ls hd hr0 hl
      have hr0 : hpD T K (B j) (P j) (S j) f 7 = none := hr0.symm
      refine lv_iload_n hx hb d_Hop_hopNearer_3 rfl (lv_at hl 0 rfl) ?_
      refine lv_iconst (v := 1) hx hb d_Hop_hopNearer_4 (by decide) ?_
      refine lvT_icmp_lt (tgt := 95) hx hb d_Hop_hopNearer_5 (by decide) (by show nI 0 < nI 1; exact nI_lt (by omega) (by omega)) ?_
      refine lv_iconst (v := 0) hx hb d_Hop_hopNearer_95 (by decide) ?_
      exact W.iret (v := 0) hx hb hr (fun t ht hW => ⟨by rw [hr0]; rfl, by rw [ht, hr0]; exact hP, hS.F ht⟩) hS.2.2 d_Hop_hopNearer_96
    | succ d ihd =>
      intro ls hd hr0 hl
      have hhlt : (f + P j - (d + 1)) % P j < P j := Nat.mod_lt _ hP0
      have inner : ∀ (n i : Nat) (ls : Array Slot), i + n = d + 1 → hpI T K (B j) (P j) (S j) ((f + P j - (d + 1)) % P j) i n = hpI T K (B j) (P j) (S j) ((f + P j - (d + 1)) % P j) 0 (d + 1) → lv_has ls 7 [(5, .int (nI i)), (4, .int (nI ((f + P j - (d + 1)) % P j))), (3, .int (nI (d + 1))), (0, .ref (a 0)), (1, .ref (q j)), (2, .int (nI f))] → W p l e (headSpec w_Hop_hopNearer (rmD 2 0 0)).room s m ([.ref (a 0), .ref (q j), .int (nI f)] : List Value).toArray below meth c0 s.heap [] 0 0 (MQ below (hq_W (some (.int (hopV (hpD T K (B j) (P j) (S j) f 7)))) D hCl (wH ca a q (hopX (B j) (P j) f (hpD T K (B j) (P j) (S j) f 7) (K, V, T, C)).1 (hopX (B j) (P j) f (hpD T K (B j) (P j) (S j) f 7) (K, V, T, C)).2.1 (hopX (B j) (P j) f (hpD T K (B j) (P j) (S j) f 7) (K, V, T, C)).2.2.1 (hopX (B j) (P j) f (hpD T K (B j) (P j) (S j) f 7) (K, V, T, C)).2.2.2 B P S) (hA (wH ca a q K V T C B P S))) ([.ref (a 0), .ref (q j), .int (nI f)] : List Value).toArray s 0 0 (hA (wH ca a q K V T C B P S))) (F0 m 20 ls []) := by
        intro n
        induction n with
        | zero =>
          intro i ls hi hq hl
          refine lv_iload hx hb d_Hop_hopNearer_20 (lv_at hl 0 rfl) ?_
          refine lv_iload_n hx hb d_Hop_hopNearer_22 rfl (lv_at hl 2 rfl) ?_
          refine lvT_icmp_ge (tgt := 89) hx hb d_Hop_hopNearer_23 (by decide) (nI_le (a := d + 1) (b := i) (by omega) (by omega)) ?_
          refine lv_iinc (k := 2) (v := nI d) (lv' := [(3, .int (nI d)), (5, .int (nI i)), (4, .int (nI ((f + P j - (d + 1)) % P j))), (0, .ref (a 0)), (1, .ref (q j)), (2, .int (nI f))]) hx hb d_Hop_hopNearer_89 hl rfl (dec1 d) (by decide) rfl (fun ls hl => ?_)
          refine lv_goto (tgt := 3) hx hb d_Hop_hopNearer_92 (by decide) ?_
          exact ihd ls (by omega) (by rw [← hr0]; exact (hpD_n hq.symm).symm) (lv_sub hl [0, 3, 4, 5] rfl)
        | succ n ih =>
          intro i ls hi hq hl
          refine lv_iload hx hb d_Hop_hopNearer_20 (lv_at hl 0 rfl) ?_
          refine lv_iload_n hx hb d_Hop_hopNearer_22 rfl (lv_at hl 2 rfl) ?_
          refine lvF_icmp_ge (tgt := 89) hx hb d_Hop_hopNearer_23 (by decide) (nI_ge (a := i) (b := d + 1) (by omega) (by omega)) ?_
          refine lv_aload_n hx hb d_Hop_hopNearer_26 rfl (lv_at hl 3 rfl) ?_
          refine lv_aload_n hx hb d_Hop_hopNearer_27 rfl (lv_at hl 4 rfl) ?_
          refine lv_iload hx hb d_Hop_hopNearer_28 (lv_at hl 1 rfl) ?_
          refine lv_iload hx hb d_Hop_hopNearer_30 (lv_at hl 0 rfl) ?_
          refine k_isBitSet X hK hP hl.1 (h := (f + P j - (d + 1)) % P j) (i := i) hj hc hbd (by omega) (by omega) (Nat.le_of_ble_eq_true rfl) ⟨Nat.zero_le _, Nat.zero_le _⟩ ⟨Nat.le_of_ble_eq_true rfl, Nat.le_of_ble_eq_true rfl⟩ d_Hop_hopNearer_32 ?_
          refine lv_if_eq (tgt := 83) hx hb d_Hop_hopNearer_35 (by decide) (fun h1 => ?_) (fun h1 => ?_)
          · refine lv_iinc (k := 0) (v := nI (i + 1)) (lv' := [(5, .int (nI (i + 1))), (4, .int (nI ((f + P j - (d + 1)) % P j))), (3, .int (nI (d + 1))), (0, .ref (a 0)), (1, .ref (q j)), (2, .int (nI f))]) hx hb d_Hop_hopNearer_83 hl rfl (inc1 i) (by decide) rfl (fun ls hl => ?_)
            refine lv_goto (tgt := 20) hx hb d_Hop_hopNearer_86 (by decide) ?_
            exact ih (i + 1) ls (by omega) (by rw [← hq]; exact (if_neg (by rw [bI_0.mp h1]; decide)).symm) hl
          · have hr1 : hpD T K (B j) (P j) (S j) f 7 = some (d + 1, i) := by rw [← hr0]; exact hpD_s (by rw [← hq]; exact if_pos (bI_n0.mp h1))
            refine lv_aload_n hx hb d_Hop_hopNearer_38 rfl (lv_at hl 4 rfl) ?_
            refine lv_iload hx hb d_Hop_hopNearer_39 (lv_at hl 1 rfl) ?_
            refine lv_iload hx hb d_Hop_hopNearer_41 (lv_at hl 0 rfl) ?_
            refine lv_iadd hx hb d_Hop_hopNearer_43 ?_
            refine lv_tope (y := nI ((f + P j - (d + 1)) % P j + i)) (nI_add _ _) ?_
            refine k_slotOf X hK hP hl.1 (x := (f + P j - (d + 1)) % P j + i) hc (by omega) hj (Nat.le_of_ble_eq_true rfl) ⟨Nat.zero_le _, Nat.zero_le _⟩ ⟨Nat.le_of_ble_eq_true rfl, Nat.le_of_ble_eq_true rfl⟩ d_Hop_hopNearer_44 ?_
            refine lv_istore (lv' := [(6, .int (nI (B j + ((f + P j - (d + 1)) % P j + i) % P j))), (5, .int (nI i)), (4, .int (nI ((f + P j - (d + 1)) % P j))), (3, .int (nI (d + 1))), (0, .ref (a 0)), (1, .ref (q j)), (2, .int (nI f))]) hx hb d_Hop_hopNearer_47 hl (by decide) rfl (fun ls hl => ?_)
            refine lv_aload_n hx hb d_Hop_hopNearer_49 rfl (lv_at hl 4 rfl) ?_
            refine lv_iload hx hb d_Hop_hopNearer_50 (lv_at hl 0 rfl) ?_
            refine lv_aload_n hx hb d_Hop_hopNearer_52 rfl (lv_at hl 5 rfl) ?_
            refine lv_iload_n hx hb d_Hop_hopNearer_53 rfl (lv_at hl 6 rfl) ?_
            refine k_slotOf X hK hP hl.1 (x := f) hc (by omega) hj (Nat.le_of_ble_eq_true rfl) ⟨Nat.zero_le _, Nat.zero_le _⟩ ⟨Nat.le_of_ble_eq_true rfl, Nat.le_of_ble_eq_true rfl⟩ d_Hop_hopNearer_54 ?_
            refine k_copySlot X hK hP hD hS hl.1 (g := B j + ((f + P j - (d + 1)) % P j + i) % P j) (f := B j + (f) % P j) (sl_lt hc hbd) (sl_lt hc hbd) (Nat.le_of_ble_eq_true rfl) ⟨Nat.zero_le _, Nat.zero_le _⟩ ⟨Nat.le_of_ble_eq_true rfl, Nat.le_of_ble_eq_true rfl⟩ d_Hop_hopNearer_57 (fun H locs hP hD hS => ?_)
            refine lv_aload_n hx hb d_Hop_hopNearer_60 rfl (lv_at hl 4 rfl) ?_
            refine hg_taken X hK hP d_Hop_hopNearer_61 ?_
            refine lv_iload hx hb d_Hop_hopNearer_64 (lv_at hl 0 rfl) ?_
            refine lv_iconst (v := 0) hx hb d_Hop_hopNearer_66 (by decide) ?_
            refine hs_T X hK hP hD hS (i := B j + ((f + P j - (d + 1)) % P j + i) % P j) (x := false) (sl_lt hc hbd) d_Hop_hopNearer_67 (fun H locs hP hD hS => ?_)
            refine lv_aload_n hx hb d_Hop_hopNearer_68 rfl (lv_at hl 4 rfl) ?_
            refine hg_counts X hK hP d_Hop_hopNearer_69 ?_
            refine lv_iconst (v := 0) hx hb d_Hop_hopNearer_72 (by decide) ?_
            refine lv_dup2_11 hx hb d_Hop_hopNearer_73 rfl rfl ?_
            refine hl_C X hK hP (i := 0) (by decide) d_Hop_hopNearer_74 ?_
            refine lv_iconst (v := 1) hx hb d_Hop_hopNearer_75 (by decide) ?_
            refine lv_iadd hx hb d_Hop_hopNearer_76 ?_
            refine hs_C X hK hP hD hS (i := 0) (x := (C (0)) + (1)) (by decide) d_Hop_hopNearer_77 (fun H locs hP hD hS => ?_)
            refine lv_iload_n hx hb d_Hop_hopNearer_78 rfl (lv_at hl 3 rfl) ?_
            refine lv_iload hx hb d_Hop_hopNearer_79 (lv_at hl 1 rfl) ?_
            refine lv_isub hx hb d_Hop_hopNearer_81 ?_
            refine lv_tope (y := nI (d + 1 - i)) (pk_sub (by omega)) ?_
            exact W.iret (v := nI (d + 1 - i)) hx hb hr (fun t ht hW => ⟨by rw [hr1]; rfl, by rw [ht, hr1]; exact hP, hS.F ht⟩) hS.2.2 d_Hop_hopNearer_82
      refine lv_iload_n hx hb d_Hop_hopNearer_3 rfl (lv_at hl 0 rfl) ?_
      refine lv_iconst (v := 1) hx hb d_Hop_hopNearer_4 (by decide) ?_
      refine lvF_icmp_lt (tgt := 95) hx hb d_Hop_hopNearer_5 (by decide) (by show ¬ nI (d + 1) < nI 1; exact nI_nlt (by omega) (by omega)) ?_
      refine lv_aload_n hx hb d_Hop_hopNearer_8 rfl (lv_at hl 2 rfl) ?_
      refine lv_iload_n hx hb d_Hop_hopNearer_9 rfl (lv_at hl 3 rfl) ?_
      refine lv_iload_n hx hb d_Hop_hopNearer_10 rfl (lv_at hl 0 rfl) ?_
      refine lv_isub hx hb d_Hop_hopNearer_11 ?_
      refine lv_tope (y := nI (f - (d + 1))) (pk_sub (by omega)) ?_
      refine k_around X hK hP hl.1 (x := f - (d + 1)) hc (by omega) hj (Nat.le_of_ble_eq_true rfl) ⟨Nat.zero_le _, Nat.zero_le _⟩ ⟨Nat.le_of_ble_eq_true rfl, Nat.le_of_ble_eq_true rfl⟩ d_Hop_hopNearer_12 ?_
      refine lv_tope (y := nI ((f + P j - (d + 1)) % P j)) (by rw [sub_md (by omega)]) ?_
      refine lv_istore (lv' := [(4, .int (nI ((f + P j - (d + 1)) % P j))), (3, .int (nI (d + 1))), (0, .ref (a 0)), (1, .ref (q j)), (2, .int (nI f))]) hx hb d_Hop_hopNearer_15 hl (by decide) rfl (fun ls hl => ?_)
      refine lv_iconst (v := 0) hx hb d_Hop_hopNearer_17 (by decide) ?_
      refine lv_istore (lv' := [(5, .int 0), (4, .int (nI ((f + P j - (d + 1)) % P j))), (3, .int (nI (d + 1))), (0, .ref (a 0)), (1, .ref (q j)), (2, .int (nI f))]) hx hb d_Hop_hopNearer_18 hl (by decide) rfl (fun ls hl => ?_)
      exact inner (d + 1) 0 ls (by omega) rfl hl
  refine lv_bipush (v := 7) hx hb d_Hop_hopNearer_0 (by decide) ?_
  refine lv_istore_n (lv' := [(3, .int 7), (0, .ref (a 0)), (1, .ref (q j)), (2, .int (nI f))]) hx hb d_Hop_hopNearer_2 rfl hl (by decide) rfl (fun ls hl => ?_)
  exact loop 7 ls (by omega) rfl hl
section HKB
variable {p : Program} {l : Launch} {e : Env} {R : Room} {s : State} {m : MethodId} {args : Array Value} {below : List Frame} {meth : Method} {c : Code} {H : Heap} {locs : List Loc} {cells slots : Nat} {Q : State → Prop}
variable {cc : ByteArray} {pc nL : Nat} {ls : Array Slot} {rest st0 : List Value} {D : va_G} {A : Nat → Prop} {H0 : Heap} {ca a q : Nat → Nat} {K V : IT} {T : BT} {C : IT} {B P : Nat → Nat} {S : IT}
theorem k_hopNearer (X : CallFix p m c cc nL s args wsA R_Hop) (hK : va_K D hCl (tyH ca) s) (hP : va_P D hCl (wH ca a q K V T C B P S) H) (hD : va_D A (wH ca a q K V T C B P S)) (hS : va_S A H0 H locs) (hsz : ls.size = nL) {j f : Nat} (hj : j < 4) (hc : pw (P j)) (hbd : B j + P j ≤ 256) (hf8 : 8 ≤ f) (hf9 : f < 32768) (hrm : (rest.map fun v => v.category).sum ≤ 8) (hf : cells ≤ R.cells ∧ slots ≤ R.slots) (hR : 3 ≤ R.frames ∧ 90 ≤ R.locals) (d : decode cc pc = .ok (.invokevirtual 129, 3)) (k : ∀ (H1 : Heap) (locs1 : List Loc), va_P D hCl (wH ca a q (hopX (B j) (P j) f (hpD T K (B j) (P j) (S j) f 7) (K, V, T, C)).1 (hopX (B j) (P j) f (hpD T K (B j) (P j) (S j) f 7) (K, V, T, C)).2.1 (hopX (B j) (P j) f (hpD T K (B j) (P j) (S j) f 7) (K, V, T, C)).2.2.1 (hopX (B j) (P j) f (hpD T K (B j) (P j) (S j) f 7) (K, V, T, C)).2.2.2 B P S) H1 → va_D A (wH ca a q (hopX (B j) (P j) f (hpD T K (B j) (P j) (S j) f 7) (K, V, T, C)).1 (hopX (B j) (P j) f (hpD T K (B j) (P j) (S j) f 7) (K, V, T, C)).2.1 (hopX (B j) (P j) f (hpD T K (B j) (P j) (S j) f 7) (K, V, T, C)).2.2.1 (hopX (B j) (P j) f (hpD T K (B j) (P j) (S j) f 7) (K, V, T, C)).2.2.2 B P S) → va_S A H0 H1 locs1 → W p l e R s m args below meth c H1 locs1 cells slots Q (F0 m (pc + 3) ls (.int (hopV (hpD T K (B j) (P j) (S j) f 7)) :: rest))) : W p l e R s m args below meth c H locs cells slots Q (F0 m pc ls (.int (nI f) :: .ref (q j) :: .ref (a 0) :: rest)) :=
  hw_V (As := [.ref (q j), .int (nI f)]) (v := some (.int (hopV (hpD T K (B j) (P j) (S j) f 7)))) (C := R_Hop) X (c_Hop_hopNearer l D ca a q K V T C B P S j hj f hc hbd hf8 hf9) (cwV 2 X.2.2.2.2 g_Hop_hopNearer rfl rfl rfl (by decide +kernel) ⟨by show 2 + 1 ≤ _; omega, by show 8 + (7 + 11) + 30 * 2 ≤ _; omega⟩) hP hK hD hS wH_a (va_recv (q0 := 0) (ci := 0) (q := (R_Hop, F_Hop, 6)) hK hP rfl rfl) rfl hsz rfl hrm hf d k
end HKB
