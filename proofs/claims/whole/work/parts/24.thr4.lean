set_option maxHeartbeats 4000000 in
set_option maxRecDepth 100000 in
/-- put -/
theorem c_Hop_put_old (l : Launch) (hlt : l.stackTraces = false) (D : va_G) (ca a q : Nat → Nat) (K V : IT) (T : BT) (C : IT) (B P : Nat → Nat) (S : IT) (sa : Nat → Nat) (j : Nat) (hj : j < 3) (hc : pw (P j)) (hbd : B j + P j ≤ 256) (key val : Int32) (k : Nat) (hk : k < 256) (hfd : fnd T K (B j) (P j) (hom key (S j) (P j)) key 0 8 = some k) : vx_Met l y_Hop_put w_Hop_put (rmD 7 2 12) (va_Pc [.ref (a 0), .int (nI j), .int key, .int val] (hb_X D hCl (wH ca a q K V T C B P S) (tyH ca) sa)) (hX_Q (.inl (some (.int 1))) D hCl (wH ca a q K (upd V k val) T C B P S) (hA (wH ca a q K V T C B P S))) (hX_X (.inl (some (.int 1))) D hCl (wH ca a q K (upd V k val) T C B P S) (hA (wH ca a q K V T C B P S))) 2 12 (hA (wH ca a q K V T C B P S)) := by
  refine vx_ofW (cc := b_Hop_put) (maxL := 6) (ret := some .boolean) (by decide) rfl ?_
  intro p e s m args below meth c0 s₁ B0 hml hnt hv
  obtain ⟨rfl, hP, hK, hD0, hF, hZ⟩ := hv
  have hx := B0.exec
  have hb := B0.bytes
  have hr := B0.returns
  have hts := atoms_spec (ws := w_Hop_put) B0.pre
  have hown : s.vm.findClass R_Hop = some m.cls := findClass_of_methodNamed B0.named
  have hlocks := B0.notSynchronized
  have hwA : ∀ w ∈ wsA, w.before ([.ref (a 0), .int (nI j), .int key, .int val] : List Value).toArray s = true := fun w h => hts w (List.mem_cons_of_mem _ h)
  have X : CallFix p m c0 b_Hop_put 6 s ([.ref (a 0), .int (nI j), .int key, .int val] : List Value).toArray wsA R_Hop := ⟨hx, hb, hml, hown, hwA⟩
  have hD := hA_D hD0
  have hS : va_S (hA (wH ca a q K V T C B P S)) s.heap s.heap [] := va_S.rf
  have hl := lv_entry ([.ref (a 0), .int (nI j), .int key, .int val]) (n := 6) (Nat.le_of_ble_eq_true rfl)
  rw [lg_entry_eq]
  generalize (lg_sl ([.ref (a 0), .int (nI j), .int key, .int val]) ++ List.replicate (6 - (lg_sl ([.ref (a 0), .int (nI j), .int key, .int val])).length) Slot.unset).toArray = ls at hl ⊢
  have hl : lv_has ls 6 [(0, .ref (a 0)), (1, .int (nI j)), (2, .int key), (3, .int val)] := hl
  have hj4 : j < 4 := by omega
  refine lv_aload_n hx hb d_Hop_put_0 rfl (lv_at hl 0 rfl) ?_
  refine lv_iload_n hx hb d_Hop_put_1 rfl (lv_at hl 1 rfl) ?_
  refine k_partOf X hlt hK hP hD hS hF hZ hl.1 hj (Nat.le_of_ble_eq_true rfl) ⟨Nat.le_of_ble_eq_true rfl, Nat.le_of_ble_eq_true rfl⟩ ⟨Nat.le_of_ble_eq_true rfl, Nat.le_of_ble_eq_true rfl⟩ d_Hop_put_2 (fun H locs hP hD hS => ?_)
  refine lv_astore (lv' := [(4, .ref (q j)), (0, .ref (a 0)), (1, .int (nI j)), (2, .int key), (3, .int val)]) hx hb d_Hop_put_5 hl (by decide) rfl (fun ls hl => ?_)
  refine lv_aload_n hx hb d_Hop_put_7 rfl (lv_at hl 1 rfl) ?_
  refine lv_aload hx hb d_Hop_put_8 (lv_at hl 0 rfl) ?_
  refine lv_iload_n hx hb d_Hop_put_10 rfl (lv_at hl 3 rfl) ?_
  refine k_slotOrNone X hK hP hl.1 hj4 hc hbd (Nat.le_of_ble_eq_true rfl) ⟨Nat.le_of_ble_eq_true rfl, Nat.le_of_ble_eq_true rfl⟩ ⟨Nat.le_of_ble_eq_true rfl, Nat.le_of_ble_eq_true rfl⟩ d_Hop_put_11 ?_
  rw [hfd]
  refine lv_tope (y := nI k) rfl ?_
  refine lv_istore (lv' := [(5, .int (nI k)), (4, .ref (q j)), (0, .ref (a 0)), (1, .int (nI j)), (2, .int key), (3, .int val)]) hx hb d_Hop_put_14 hl (by decide) rfl (fun ls hl => ?_)
  refine lv_iload hx hb d_Hop_put_16 (lv_at hl 0 rfl) ?_
  refine lv_iconst (v := -1) hx hb d_Hop_put_18 (by decide) ?_
  refine lvF_icmp_eq (tgt := 32) hx hb d_Hop_put_19 (by decide) (nI_m1 (by omega)) ?_
  refine lv_aload_n hx hb d_Hop_put_22 rfl (lv_at hl 2 rfl) ?_
  refine hg_values X hK hP d_Hop_put_23 ?_
  refine lv_iload hx hb d_Hop_put_26 (lv_at hl 0 rfl) ?_
  refine lv_iload_n hx hb d_Hop_put_28 rfl (lv_at hl 5 rfl) ?_
  refine hs_V X hK hP hD hS (i := k) (x := val) (hk) d_Hop_put_29 (fun H locs hP hD hS => ?_)
  refine lv_iconst (v := 1) hx hb d_Hop_put_30 (by decide) ?_
  refine W.widen (k := 2) (n := 12) (Nat.le_of_ble_eq_true rfl) (Nat.le_of_ble_eq_true rfl) ?_
  exact vx_ret (W.zret (v := 1) hx hb hr rfl (fun t ht hW => ⟨_, rfl, rfl, by rw [ht]; exact hP, hS.F ht⟩) hS.2.2 d_Hop_put_31)
set_option maxHeartbeats 4000000 in
set_option maxRecDepth 100000 in
/-- put -/
theorem c_Hop_put_ins (l : Launch) (hlt : l.stackTraces = false) (D : va_G) (ca a q : Nat → Nat) (K V : IT) (T : BT) (C : IT) (B P : Nat → Nat) (S : IT) (sa : Nat → Nat) (j : Nat) (hj : j < 3) (hc : pw (P j)) (hbd : B j + P j ≤ 256) (key val : Int32) (hfd : fnd T K (B j) (P j) (hom key (S j) (P j)) key 0 8 = none) (hi : (ins (B j) (P j) (S j) key val (K, V, T, C)).1 = true) : vx_Met l y_Hop_put w_Hop_put (rmD 7 2 12) (va_Pc [.ref (a 0), .int (nI j), .int key, .int val] (hb_X D hCl (wH ca a q K V T C B P S) (tyH ca) sa)) (hX_Q (.inl (some (.int 0))) D hCl (wH ca a q (ins (B j) (P j) (S j) key val (K, V, T, C)).2.1 (ins (B j) (P j) (S j) key val (K, V, T, C)).2.2.1 (ins (B j) (P j) (S j) key val (K, V, T, C)).2.2.2.1 (ins (B j) (P j) (S j) key val (K, V, T, C)).2.2.2.2 B P S) (hA (wH ca a q K V T C B P S))) (hX_X (.inl (some (.int 0))) D hCl (wH ca a q (ins (B j) (P j) (S j) key val (K, V, T, C)).2.1 (ins (B j) (P j) (S j) key val (K, V, T, C)).2.2.1 (ins (B j) (P j) (S j) key val (K, V, T, C)).2.2.2.1 (ins (B j) (P j) (S j) key val (K, V, T, C)).2.2.2.2 B P S) (hA (wH ca a q K V T C B P S))) 2 12 (hA (wH ca a q K V T C B P S)) := by
  refine vx_ofW (cc := b_Hop_put) (maxL := 6) (ret := some .boolean) (by decide) rfl ?_
  intro p e s m args below meth c0 s₁ B0 hml hnt hv
  obtain ⟨rfl, hP, hK, hD0, hF, hZ⟩ := hv
  have hx := B0.exec
  have hb := B0.bytes
  have hr := B0.returns
  have hts := atoms_spec (ws := w_Hop_put) B0.pre
  have hown : s.vm.findClass R_Hop = some m.cls := findClass_of_methodNamed B0.named
  have hlocks := B0.notSynchronized
  have hwA : ∀ w ∈ wsA, w.before ([.ref (a 0), .int (nI j), .int key, .int val] : List Value).toArray s = true := fun w h => hts w (List.mem_cons_of_mem _ h)
  have X : CallFix p m c0 b_Hop_put 6 s ([.ref (a 0), .int (nI j), .int key, .int val] : List Value).toArray wsA R_Hop := ⟨hx, hb, hml, hown, hwA⟩
  have hD := hA_D hD0
  have hS : va_S (hA (wH ca a q K V T C B P S)) s.heap s.heap [] := va_S.rf
  have hl := lv_entry ([.ref (a 0), .int (nI j), .int key, .int val]) (n := 6) (Nat.le_of_ble_eq_true rfl)
  rw [lg_entry_eq]
  generalize (lg_sl ([.ref (a 0), .int (nI j), .int key, .int val]) ++ List.replicate (6 - (lg_sl ([.ref (a 0), .int (nI j), .int key, .int val])).length) Slot.unset).toArray = ls at hl ⊢
  have hl : lv_has ls 6 [(0, .ref (a 0)), (1, .int (nI j)), (2, .int key), (3, .int val)] := hl
  have hj4 : j < 4 := by omega
  refine lv_aload_n hx hb d_Hop_put_0 rfl (lv_at hl 0 rfl) ?_
  refine lv_iload_n hx hb d_Hop_put_1 rfl (lv_at hl 1 rfl) ?_
  refine k_partOf X hlt hK hP hD hS hF hZ hl.1 hj (Nat.le_of_ble_eq_true rfl) ⟨Nat.le_of_ble_eq_true rfl, Nat.le_of_ble_eq_true rfl⟩ ⟨Nat.le_of_ble_eq_true rfl, Nat.le_of_ble_eq_true rfl⟩ d_Hop_put_2 (fun H locs hP hD hS => ?_)
  refine lv_astore (lv' := [(4, .ref (q j)), (0, .ref (a 0)), (1, .int (nI j)), (2, .int key), (3, .int val)]) hx hb d_Hop_put_5 hl (by decide) rfl (fun ls hl => ?_)
  refine lv_aload_n hx hb d_Hop_put_7 rfl (lv_at hl 1 rfl) ?_
  refine lv_aload hx hb d_Hop_put_8 (lv_at hl 0 rfl) ?_
  refine lv_iload_n hx hb d_Hop_put_10 rfl (lv_at hl 3 rfl) ?_
  refine k_slotOrNone X hK hP hl.1 hj4 hc hbd (Nat.le_of_ble_eq_true rfl) ⟨Nat.le_of_ble_eq_true rfl, Nat.le_of_ble_eq_true rfl⟩ ⟨Nat.le_of_ble_eq_true rfl, Nat.le_of_ble_eq_true rfl⟩ d_Hop_put_11 ?_
  rw [hfd]
  refine lv_tope (y := -1) rfl ?_
  refine lv_istore (lv' := [(5, .int (-1)), (4, .ref (q j)), (0, .ref (a 0)), (1, .int (nI j)), (2, .int key), (3, .int val)]) hx hb d_Hop_put_14 hl (by decide) rfl (fun ls hl => ?_)
  refine lv_iload hx hb d_Hop_put_16 (lv_at hl 0 rfl) ?_
  refine lv_iconst (v := -1) hx hb d_Hop_put_18 (by decide) ?_
  refine lvT_icmp_eq (tgt := 32) hx hb d_Hop_put_19 (by decide) (rfl) ?_
  refine lv_aload_n hx hb d_Hop_put_32 rfl (lv_at hl 2 rfl) ?_
  refine lv_aload hx hb d_Hop_put_33 (lv_at hl 1 rfl) ?_
  refine lv_iload_n hx hb d_Hop_put_35 rfl (lv_at hl 4 rfl) ?_
  refine lv_iload_n hx hb d_Hop_put_36 rfl (lv_at hl 5 rfl) ?_
  refine k_insert X hK hP hD hS hl.1 (key := key) (val := val) hj4 hc hbd (Nat.le_of_ble_eq_true rfl) ⟨Nat.le_of_ble_eq_true rfl, Nat.le_of_ble_eq_true rfl⟩ ⟨Nat.le_of_ble_eq_true rfl, Nat.le_of_ble_eq_true rfl⟩ d_Hop_put_37 (fun H locs hP hD hS => ?_)
  refine lvT_if_ne (tgt := 63) hx hb d_Hop_put_40 (by decide) (bI_n0.mpr hi) ?_
  refine lv_iconst (v := 0) hx hb d_Hop_put_63 (by decide) ?_
  refine W.widen (k := 2) (n := 12) (Nat.le_of_ble_eq_true rfl) (Nat.le_of_ble_eq_true rfl) ?_
  exact vx_ret (W.zret (v := 0) hx hb hr rfl (fun t ht hW => ⟨_, rfl, rfl, by rw [ht]; exact hP, hS.F ht⟩) hS.2.2 d_Hop_put_64)
set_option maxHeartbeats 4000000 in
set_option maxRecDepth 100000 in
/-- put -/
theorem c_Hop_put_grow (l : Launch) (hlt : l.stackTraces = false) (D : va_G) (ca a q : Nat → Nat) (K V : IT) (T : BT) (C : IT) (B P : Nat → Nat) (S : IT) (sa : Nat → Nat) (j : Nat) (hj : j < 3) (hc : pw (P j)) (hbd : B j + P j ≤ 256) (key val : Int32) (hfd : fnd T K (B j) (P j) (hom key (S j) (P j)) key 0 8 = none) (hi : (ins (B j) (P j) (S j) key val (K, V, T, C)).1 = false) (hG : GI (P 0 + P 1 + P 2) (P j) j B P) (hg : (grw j (P j) (P 0 + P 1 + P 2) key val 4 1 (S j) ((ins (B j) (P j) (S j) key val (K, V, T, C)).2.1, (ins (B j) (P j) (S j) key val (K, V, T, C)).2.2.1, (ins (B j) (P j) (S j) key val (K, V, T, C)).2.2.2.1, (ins (B j) (P j) (S j) key val (K, V, T, C)).2.2.2.2, B, P, S)).1 = true) : vx_Met l y_Hop_put w_Hop_put (rmD 7 2 12) (va_Pc [.ref (a 0), .int (nI j), .int key, .int val] (hb_X D hCl (wH ca a q K V T C B P S) (tyH ca) sa)) (hX_Q (.inl (some (.int 0))) D hCl (gW ca a q j (grw j (P j) (P 0 + P 1 + P 2) key val 4 1 (S j) ((ins (B j) (P j) (S j) key val (K, V, T, C)).2.1, (ins (B j) (P j) (S j) key val (K, V, T, C)).2.2.1, (ins (B j) (P j) (S j) key val (K, V, T, C)).2.2.2.1, (ins (B j) (P j) (S j) key val (K, V, T, C)).2.2.2.2, B, P, S))) (hA (wH ca a q K V T C B P S))) (hX_X (.inl (some (.int 0))) D hCl (gW ca a q j (grw j (P j) (P 0 + P 1 + P 2) key val 4 1 (S j) ((ins (B j) (P j) (S j) key val (K, V, T, C)).2.1, (ins (B j) (P j) (S j) key val (K, V, T, C)).2.2.1, (ins (B j) (P j) (S j) key val (K, V, T, C)).2.2.2.1, (ins (B j) (P j) (S j) key val (K, V, T, C)).2.2.2.2, B, P, S))) (hA (wH ca a q K V T C B P S))) 2 12 (hA (wH ca a q K V T C B P S)) := by
  refine vx_ofW (cc := b_Hop_put) (maxL := 6) (ret := some .boolean) (by decide) rfl ?_
  intro p e s m args below meth c0 s₁ B0 hml hnt hv
  obtain ⟨rfl, hP, hK, hD0, hF, hZ⟩ := hv
  have hx := B0.exec
  have hb := B0.bytes
  have hr := B0.returns
  have hts := atoms_spec (ws := w_Hop_put) B0.pre
  have hown : s.vm.findClass R_Hop = some m.cls := findClass_of_methodNamed B0.named
  have hlocks := B0.notSynchronized
  have hwA : ∀ w ∈ wsA, w.before ([.ref (a 0), .int (nI j), .int key, .int val] : List Value).toArray s = true := fun w h => hts w (List.mem_cons_of_mem _ h)
  have X : CallFix p m c0 b_Hop_put 6 s ([.ref (a 0), .int (nI j), .int key, .int val] : List Value).toArray wsA R_Hop := ⟨hx, hb, hml, hown, hwA⟩
  have hD := hA_D hD0
  have hS : va_S (hA (wH ca a q K V T C B P S)) s.heap s.heap [] := va_S.rf
  have hl := lv_entry ([.ref (a 0), .int (nI j), .int key, .int val]) (n := 6) (Nat.le_of_ble_eq_true rfl)
  rw [lg_entry_eq]
  generalize (lg_sl ([.ref (a 0), .int (nI j), .int key, .int val]) ++ List.replicate (6 - (lg_sl ([.ref (a 0), .int (nI j), .int key, .int val])).length) Slot.unset).toArray = ls at hl ⊢
  have hl : lv_has ls 6 [(0, .ref (a 0)), (1, .int (nI j)), (2, .int key), (3, .int val)] := hl
  have hj4 : j < 4 := by omega
  refine lv_aload_n hx hb d_Hop_put_0 rfl (lv_at hl 0 rfl) ?_
  refine lv_iload_n hx hb d_Hop_put_1 rfl (lv_at hl 1 rfl) ?_
  refine k_partOf X hlt hK hP hD hS hF hZ hl.1 hj (Nat.le_of_ble_eq_true rfl) ⟨Nat.le_of_ble_eq_true rfl, Nat.le_of_ble_eq_true rfl⟩ ⟨Nat.le_of_ble_eq_true rfl, Nat.le_of_ble_eq_true rfl⟩ d_Hop_put_2 (fun H locs hP hD hS => ?_)
  refine lv_astore (lv' := [(4, .ref (q j)), (0, .ref (a 0)), (1, .int (nI j)), (2, .int key), (3, .int val)]) hx hb d_Hop_put_5 hl (by decide) rfl (fun ls hl => ?_)
  refine lv_aload_n hx hb d_Hop_put_7 rfl (lv_at hl 1 rfl) ?_
  refine lv_aload hx hb d_Hop_put_8 (lv_at hl 0 rfl) ?_
  refine lv_iload_n hx hb d_Hop_put_10 rfl (lv_at hl 3 rfl) ?_
  refine k_slotOrNone X hK hP hl.1 hj4 hc hbd (Nat.le_of_ble_eq_true rfl) ⟨Nat.le_of_ble_eq_true rfl, Nat.le_of_ble_eq_true rfl⟩ ⟨Nat.le_of_ble_eq_true rfl, Nat.le_of_ble_eq_true rfl⟩ d_Hop_put_11 ?_
  rw [hfd]
  refine lv_tope (y := -1) rfl ?_
  refine lv_istore (lv' := [(5, .int (-1)), (4, .ref (q j)), (0, .ref (a 0)), (1, .int (nI j)), (2, .int key), (3, .int val)]) hx hb d_Hop_put_14 hl (by decide) rfl (fun ls hl => ?_)
  refine lv_iload hx hb d_Hop_put_16 (lv_at hl 0 rfl) ?_
  refine lv_iconst (v := -1) hx hb d_Hop_put_18 (by decide) ?_
  refine lvT_icmp_eq (tgt := 32) hx hb d_Hop_put_19 (by decide) (rfl) ?_
  refine lv_aload_n hx hb d_Hop_put_32 rfl (lv_at hl 2 rfl) ?_
  refine lv_aload hx hb d_Hop_put_33 (lv_at hl 1 rfl) ?_
  refine lv_iload_n hx hb d_Hop_put_35 rfl (lv_at hl 4 rfl) ?_
  refine lv_iload_n hx hb d_Hop_put_36 rfl (lv_at hl 5 rfl) ?_
  refine k_insert X hK hP hD hS hl.1 (key := key) (val := val) hj4 hc hbd (Nat.le_of_ble_eq_true rfl) ⟨Nat.le_of_ble_eq_true rfl, Nat.le_of_ble_eq_true rfl⟩ ⟨Nat.le_of_ble_eq_true rfl, Nat.le_of_ble_eq_true rfl⟩ d_Hop_put_37 (fun H locs hP hD hS => ?_)
  refine lvF_if_ne (tgt := 63) hx hb d_Hop_put_40 (by decide) (bI_0.mpr hi) ?_
  refine lv_aload_n hx hb d_Hop_put_43 rfl (lv_at hl 2 rfl) ?_
  refine lv_iload_n hx hb d_Hop_put_44 rfl (lv_at hl 3 rfl) ?_
  refine lv_iload_n hx hb d_Hop_put_45 rfl (lv_at hl 4 rfl) ?_
  refine lv_iload_n hx hb d_Hop_put_46 rfl (lv_at hl 5 rfl) ?_
  refine k_growWith X hK hP hD hS hl.1 (key := key) (val := val) hj hc hG (Nat.le_of_ble_eq_true rfl) ⟨Nat.le_of_ble_eq_true rfl, Nat.le_of_ble_eq_true rfl⟩ ⟨Nat.le_of_ble_eq_true rfl, Nat.le_of_ble_eq_true rfl⟩ d_Hop_put_47 (fun H locs hP hD hS => ?_)
  refine lvT_if_ne (tgt := 63) hx hb d_Hop_put_50 (by decide) (bI_n0.mpr hg) ?_
  refine lv_iconst (v := 0) hx hb d_Hop_put_63 (by decide) ?_
  refine W.widen (k := 2) (n := 12) (Nat.le_of_ble_eq_true rfl) (Nat.le_of_ble_eq_true rfl) ?_
  exact vx_ret (W.zret (v := 0) hx hb hr rfl (fun t ht hW => ⟨_, rfl, rfl, by rw [ht]; exact hP, hS.F ht⟩) hS.2.2 d_Hop_put_64)
set_option maxHeartbeats 4000000 in
set_option maxRecDepth 100000 in
/-- put -/
theorem c_Hop_put_ref (l : Launch) (hlt : l.stackTraces = false) (D : va_G) (ca a q : Nat → Nat) (K V : IT) (T : BT) (C : IT) (B P : Nat → Nat) (S : IT) (sa : Nat → Nat) (j : Nat) (hj : j < 3) (hc : pw (P j)) (hbd : B j + P j ≤ 256) (key val : Int32) (hfd : fnd T K (B j) (P j) (hom key (S j) (P j)) key 0 8 = none) (hi : (ins (B j) (P j) (S j) key val (K, V, T, C)).1 = false) (hG : GI (P 0 + P 1 + P 2) (P j) j B P) (hg : (grw j (P j) (P 0 + P 1 + P 2) key val 4 1 (S j) ((ins (B j) (P j) (S j) key val (K, V, T, C)).2.1, (ins (B j) (P j) (S j) key val (K, V, T, C)).2.2.1, (ins (B j) (P j) (S j) key val (K, V, T, C)).2.2.2.1, (ins (B j) (P j) (S j) key val (K, V, T, C)).2.2.2.2, B, P, S)).1 = false) : vx_Met l y_Hop_put w_Hop_put (rmD 7 2 12) (va_Pc [.ref (a 0), .int (nI j), .int key, .int val] (hb_X D hCl (wH ca a q K V T C B P S) (tyH ca) sa)) (hX_Q (.inr "java/lang/ArithmeticException") D hCl (gW ca a q j (grw j (P j) (P 0 + P 1 + P 2) key val 4 1 (S j) ((ins (B j) (P j) (S j) key val (K, V, T, C)).2.1, (ins (B j) (P j) (S j) key val (K, V, T, C)).2.2.1, (ins (B j) (P j) (S j) key val (K, V, T, C)).2.2.2.1, (ins (B j) (P j) (S j) key val (K, V, T, C)).2.2.2.2, B, P, S))) (hA (wH ca a q K V T C B P S))) (hX_X (.inr "java/lang/ArithmeticException") D hCl (gW ca a q j (grw j (P j) (P 0 + P 1 + P 2) key val 4 1 (S j) ((ins (B j) (P j) (S j) key val (K, V, T, C)).2.1, (ins (B j) (P j) (S j) key val (K, V, T, C)).2.2.1, (ins (B j) (P j) (S j) key val (K, V, T, C)).2.2.2.1, (ins (B j) (P j) (S j) key val (K, V, T, C)).2.2.2.2, B, P, S))) (hA (wH ca a q K V T C B P S))) 2 12 (hA (wH ca a q K V T C B P S)) := by
  refine vx_ofW (cc := b_Hop_put) (maxL := 6) (ret := some .boolean) (by decide) rfl ?_
  intro p e s m args below meth c0 s₁ B0 hml hnt hv
  obtain ⟨rfl, hP, hK, hD0, hF, hZ⟩ := hv
  have hx := B0.exec
  have hb := B0.bytes
  have hr := B0.returns
  have hts := atoms_spec (ws := w_Hop_put) B0.pre
  have hown : s.vm.findClass R_Hop = some m.cls := findClass_of_methodNamed B0.named
  have hlocks := B0.notSynchronized
  have hwA : ∀ w ∈ wsA, w.before ([.ref (a 0), .int (nI j), .int key, .int val] : List Value).toArray s = true := fun w h => hts w (List.mem_cons_of_mem _ h)
  have X : CallFix p m c0 b_Hop_put 6 s ([.ref (a 0), .int (nI j), .int key, .int val] : List Value).toArray wsA R_Hop := ⟨hx, hb, hml, hown, hwA⟩
  have hD := hA_D hD0
  have hS : va_S (hA (wH ca a q K V T C B P S)) s.heap s.heap [] := va_S.rf
  have hl := lv_entry ([.ref (a 0), .int (nI j), .int key, .int val]) (n := 6) (Nat.le_of_ble_eq_true rfl)
  rw [lg_entry_eq]
  generalize (lg_sl ([.ref (a 0), .int (nI j), .int key, .int val]) ++ List.replicate (6 - (lg_sl ([.ref (a 0), .int (nI j), .int key, .int val])).length) Slot.unset).toArray = ls at hl ⊢
  have hl : lv_has ls 6 [(0, .ref (a 0)), (1, .int (nI j)), (2, .int key), (3, .int val)] := hl
  have hj4 : j < 4 := by omega
  refine lv_aload_n hx hb d_Hop_put_0 rfl (lv_at hl 0 rfl) ?_
  refine lv_iload_n hx hb d_Hop_put_1 rfl (lv_at hl 1 rfl) ?_
  refine k_partOf X hlt hK hP hD hS hF hZ hl.1 hj (Nat.le_of_ble_eq_true rfl) ⟨Nat.le_of_ble_eq_true rfl, Nat.le_of_ble_eq_true rfl⟩ ⟨Nat.le_of_ble_eq_true rfl, Nat.le_of_ble_eq_true rfl⟩ d_Hop_put_2 (fun H locs hP hD hS => ?_)
  refine lv_astore (lv' := [(4, .ref (q j)), (0, .ref (a 0)), (1, .int (nI j)), (2, .int key), (3, .int val)]) hx hb d_Hop_put_5 hl (by decide) rfl (fun ls hl => ?_)
  refine lv_aload_n hx hb d_Hop_put_7 rfl (lv_at hl 1 rfl) ?_
  refine lv_aload hx hb d_Hop_put_8 (lv_at hl 0 rfl) ?_
  refine lv_iload_n hx hb d_Hop_put_10 rfl (lv_at hl 3 rfl) ?_
  refine k_slotOrNone X hK hP hl.1 hj4 hc hbd (Nat.le_of_ble_eq_true rfl) ⟨Nat.le_of_ble_eq_true rfl, Nat.le_of_ble_eq_true rfl⟩ ⟨Nat.le_of_ble_eq_true rfl, Nat.le_of_ble_eq_true rfl⟩ d_Hop_put_11 ?_
  rw [hfd]
  refine lv_tope (y := -1) rfl ?_
  refine lv_istore (lv' := [(5, .int (-1)), (4, .ref (q j)), (0, .ref (a 0)), (1, .int (nI j)), (2, .int key), (3, .int val)]) hx hb d_Hop_put_14 hl (by decide) rfl (fun ls hl => ?_)
  refine lv_iload hx hb d_Hop_put_16 (lv_at hl 0 rfl) ?_
  refine lv_iconst (v := -1) hx hb d_Hop_put_18 (by decide) ?_
  refine lvT_icmp_eq (tgt := 32) hx hb d_Hop_put_19 (by decide) (rfl) ?_
  refine lv_aload_n hx hb d_Hop_put_32 rfl (lv_at hl 2 rfl) ?_
  refine lv_aload hx hb d_Hop_put_33 (lv_at hl 1 rfl) ?_
  refine lv_iload_n hx hb d_Hop_put_35 rfl (lv_at hl 4 rfl) ?_
  refine lv_iload_n hx hb d_Hop_put_36 rfl (lv_at hl 5 rfl) ?_
  refine k_insert X hK hP hD hS hl.1 (key := key) (val := val) hj4 hc hbd (Nat.le_of_ble_eq_true rfl) ⟨Nat.le_of_ble_eq_true rfl, Nat.le_of_ble_eq_true rfl⟩ ⟨Nat.le_of_ble_eq_true rfl, Nat.le_of_ble_eq_true rfl⟩ d_Hop_put_37 (fun H locs hP hD hS => ?_)
  refine lvF_if_ne (tgt := 63) hx hb d_Hop_put_40 (by decide) (bI_0.mpr hi) ?_
  refine lv_aload_n hx hb d_Hop_put_43 rfl (lv_at hl 2 rfl) ?_
  refine lv_iload_n hx hb d_Hop_put_44 rfl (lv_at hl 3 rfl) ?_
  refine lv_iload_n hx hb d_Hop_put_45 rfl (lv_at hl 4 rfl) ?_
  refine lv_iload_n hx hb d_Hop_put_46 rfl (lv_at hl 5 rfl) ?_
  refine k_growWith X hK hP hD hS hl.1 (key := key) (val := val) hj hc hG (Nat.le_of_ble_eq_true rfl) ⟨Nat.le_of_ble_eq_true rfl, Nat.le_of_ble_eq_true rfl⟩ ⟨Nat.le_of_ble_eq_true rfl, Nat.le_of_ble_eq_true rfl⟩ d_Hop_put_47 (fun H locs hP hD hS => ?_)
  refine lvF_if_ne (tgt := 63) hx hb d_Hop_put_50 (by decide) (bI_0.mpr hg) ?_
  exact hX_throw (k := 1) (text := "growing was refused") X hlt hF hZ hP hS hl.1 by7_0 by7_1 by7_2 by7_5 (by decide) m_264 m_48 (by decide +kernel) at_AE ot_AE d_Hop_put_53 d_Hop_put_56 d_Hop_put_57 d_Hop_put_59 d_Hop_put_62 hnt ⟨Nat.le_of_ble_eq_true rfl, Nat.le_of_ble_eq_true rfl⟩ (Nat.le_of_ble_eq_true rfl) (Nat.le_of_ble_eq_true rfl) (Nat.le_of_ble_eq_true rfl) hlocks rfl (Nat.le_of_ble_eq_true rfl) (Nat.le_of_ble_eq_true rfl)
