set_option maxHeartbeats 4000000 in
set_option maxRecDepth 100000 in
/-- around: any number -/
theorem c_Part_aroundZ (l : Launch) (D : va_G) (h b c : Nat) (sd x : Int32) (hc : pw c) : Met l y_Part_around w_Part_around (rmD 0 0 0) (va_Pc [.ref h, .int x] (hb_R D hCl [(h, pt b c sd)] [])) (hq_R (some (.int (nI (x.toBitVec.toNat % c))))) 0 0 hq_no := by
  refine Met.ofW (cc := b_Part_around) (maxL := 2) (ret := some .int) (by decide) rfl ?_
  intro p e s m args below meth c0 s₁ B0 hml hv
  obtain ⟨rfl, hP, hK⟩ := hv
  have hx := B0.exec
  have hb := B0.bytes
  have hr := B0.returns
  have hts := atoms_spec (ws := w_Part_around) B0.pre
  have hown : s.vm.findClass R_Part = some m.cls := findClass_of_methodNamed B0.named
  have hlocks := B0.notSynchronized
  have hwA : ∀ w ∈ wsA, w.before ([.ref h, .int x] : List Value).toArray s = true := fun w h => hts w (List.mem_cons_of_mem _ h)
  have X : CallFix p m c0 b_Part_around 2 s ([.ref h, .int x] : List Value).toArray wsA R_Part := ⟨hx, hb, hml, hown, hwA⟩
  have hl := lv_entry ([.ref h, .int x]) (n := 2) (Nat.le_of_ble_eq_true rfl)
  rw [lg_entry_eq]
  generalize (lg_sl ([.ref h, .int x]) ++ List.replicate (2 - (lg_sl ([.ref h, .int x])).length) Slot.unset).toArray = ls at hl ⊢
  have hl : lv_has ls 2 [(0, .ref h), (1, .int x)] := hl
  refine lv_iload_n hx hb d_Part_around_0 rfl (lv_at hl 1 rfl) ?_
  refine lv_aload_n hx hb d_Part_around_1 rfl (lv_at hl 0 rfl) ?_
  refine va_get (D := D) (ci := 1) (v := .int (nI c)) (C := R_Part) (T := F_Part) (N := 3) hx hb hwA hin_Part hown hK hP 0 rfl rfl 1 (by decide) (hwA (.fieldLink R_Part 13 "HopArena$Part" "capacity" "I") m_68) (fun _ h9 => h9) rfl d_Part_around_2 ?_
  refine lv_iconst (v := 1) hx hb d_Part_around_5 (by decide) ?_
  refine lv_isub hx hb d_Part_around_6 ?_
  refine lv_iand hx hb d_Part_around_7 ?_
  refine lv_tope (y := nI (x.toBitVec.toNat % c)) (pw_and hc x) ?_
  exact W.iret (v := nI (x.toBitVec.toNat % c)) hx hb hr (fun t ht hW => ⟨rfl, ht⟩) hq_nl d_Part_around_8
section HKZ
variable {p : Program} {l : Launch} {e : Env} {R : Room} {s : State} {m : MethodId} {args : Array Value} {below : List Frame} {meth : Method} {c : Code} {H : Heap} {locs : List Loc} {cells slots : Nat} {Q : State → Prop}
variable {cc : ByteArray} {pc nL : Nat} {ls : Array Slot} {rest st0 : List Value} {D : va_G} {A : Nat → Prop} {H0 : Heap} {ca a q : Nat → Nat} {K V : IT} {T : BT} {C : IT} {B P : Nat → Nat} {S : IT}
theorem k_aroundZ (X : CallFix p m c cc nL s args wsA R_Hop) (hK : va_K D hCl (tyH ca) s) (hP : va_P D hCl (wH ca a q K V T C B P S) H) (hsz : ls.size = nL) {j : Nat} {x : Int32} (hc : pw (P j)) (hj : j < 4) (hrm : (rest.map fun v => v.category).sum ≤ 8) (hf : cells ≤ R.cells ∧ slots ≤ R.slots) (hR : 1 ≤ R.frames ∧ 30 ≤ R.locals) (d : decode cc pc = .ok (.invokevirtual 89, 3)) (k : W p l e R s m args below meth c H locs cells slots Q (F0 m (pc + 3) ls (.int (nI (x.toBitVec.toNat % P j)) :: rest))) : W p l e R s m args below meth c H locs cells slots Q (F0 m pc ls (.int x :: .ref (q j) :: rest)) :=
  hr_V (As := [.int x]) (v := some (.int (nI (x.toBitVec.toNat % P j)))) (C := R_Part) X (c_Part_aroundZ l D (q j) (B j) (P j) (S j) x hc) (cwV 1 X.2.2.2.2 (g_Hop_Part_around) rfl rfl rfl (by decide +kernel) ⟨by show 0 + 1 ≤ _; omega, by show 8 + (2 + 11) + 30 * 0 ≤ _; omega⟩) (wH_sub hP hj) (hK.sub [] rfl) (va_recv hK hP rfl (wH_p hj)) rfl hsz rfl hrm hf d k
end HKZ
set_option maxHeartbeats 4000000 in
set_option maxRecDepth 100000 in
/-- distance -/
theorem c_Hop_distance (l : Launch) (hlt : l.stackTraces = false) (D : va_G) (ca a q : Nat → Nat) (K V : IT) (T : BT) (C : IT) (B P : Nat → Nat) (S : IT) (sa : Nat → Nat) (j : Nat) (hj : j < 3) (hc : pw (P j)) (hbd : B j + P j ≤ 256) (key : Int32) (k : Nat) (hk : k < 256) (hfd : fnd T K (B j) (P j) (hom key (S j) (P j)) key 0 8 = some k) : vx_Met l y_Hop_distance w_Hop_distance (rmD 7 2 12) (va_Pc [.ref (a 0), .int (nI j), .int key] (hb_X D hCl (wH ca a q K V T C B P S) (tyH ca) sa)) (hX_Q (.inl (some (.int (nI (((nI k - nI (B j)) - nI (hom key (S j) (P j))).toBitVec.toNat % P j))))) D hCl (wH ca a q K V T C B P S) (hA (wH ca a q K V T C B P S))) (hX_X (.inl (some (.int (nI (((nI k - nI (B j)) - nI (hom key (S j) (P j))).toBitVec.toNat % P j))))) D hCl (wH ca a q K V T C B P S) (hA (wH ca a q K V T C B P S))) 2 12 (hA (wH ca a q K V T C B P S)) := by
  refine vx_ofW (cc := b_Hop_distance) (maxL := 5) (ret := some .int) (by decide) rfl ?_
  intro p e s m args below meth c0 s₁ B0 hml hnt hv
  obtain ⟨rfl, hP, hK, hD0, hF, hZ⟩ := hv
  have hx := B0.exec
  have hb := B0.bytes
  have hr := B0.returns
  have hts := atoms_spec (ws := w_Hop_distance) B0.pre
  have hown : s.vm.findClass R_Hop = some m.cls := findClass_of_methodNamed B0.named
  have hlocks := B0.notSynchronized
  have hwA : ∀ w ∈ wsA, w.before ([.ref (a 0), .int (nI j), .int key] : List Value).toArray s = true := fun w h => hts w (List.mem_cons_of_mem _ h)
  have X : CallFix p m c0 b_Hop_distance 5 s ([.ref (a 0), .int (nI j), .int key] : List Value).toArray wsA R_Hop := ⟨hx, hb, hml, hown, hwA⟩
  have hD := hA_D hD0
  have hS : va_S (hA (wH ca a q K V T C B P S)) s.heap s.heap [] := va_S.rf
  have hl := lv_entry ([.ref (a 0), .int (nI j), .int key]) (n := 5) (Nat.le_of_ble_eq_true rfl)
  rw [lg_entry_eq]
  generalize (lg_sl ([.ref (a 0), .int (nI j), .int key]) ++ List.replicate (5 - (lg_sl ([.ref (a 0), .int (nI j), .int key])).length) Slot.unset).toArray = ls at hl ⊢
  have hl : lv_has ls 5 [(0, .ref (a 0)), (1, .int (nI j)), (2, .int key)] := hl
  have hj4 : j < 4 := by omega
  have hP8 := pw_le hc
  refine lv_aload_n hx hb d_Hop_distance_0 rfl (lv_at hl 0 rfl) ?_
  refine lv_iload_n hx hb d_Hop_distance_1 rfl (lv_at hl 1 rfl) ?_
  refine k_partOf X hlt hK hP hD hS hF hZ hl.1 hj (Nat.le_of_ble_eq_true rfl) ⟨Nat.le_of_ble_eq_true rfl, Nat.le_of_ble_eq_true rfl⟩ ⟨Nat.le_of_ble_eq_true rfl, Nat.le_of_ble_eq_true rfl⟩ d_Hop_distance_2 (fun H locs hP hD hS => ?_)
  refine lv_astore_n (lv' := [(3, .ref (q j)), (0, .ref (a 0)), (1, .int (nI j)), (2, .int key)]) hx hb d_Hop_distance_5 rfl hl (by decide) rfl (fun ls hl => ?_)
  refine lv_aload_n hx hb d_Hop_distance_6 rfl (lv_at hl 1 rfl) ?_
  refine lv_aload_n hx hb d_Hop_distance_7 rfl (lv_at hl 0 rfl) ?_
  refine lv_iload_n hx hb d_Hop_distance_8 rfl (lv_at hl 3 rfl) ?_
  refine k_slotHolding X hlt hK hP hD hS hF hZ hl.1 hj4 hc hbd hk hfd (Nat.le_of_ble_eq_true rfl) ⟨Nat.le_of_ble_eq_true rfl, Nat.le_of_ble_eq_true rfl⟩ ⟨Nat.le_of_ble_eq_true rfl, Nat.le_of_ble_eq_true rfl⟩ d_Hop_distance_9 (fun H locs hP hD hS => ?_)
  refine lv_aload_n hx hb d_Hop_distance_12 rfl (lv_at hl 0 rfl) ?_
  refine hg_base X hK hP hj4 d_Hop_distance_13 ?_
  refine lv_isub hx hb d_Hop_distance_16 ?_
  refine lv_istore (lv' := [(4, .int ((nI k) - (nI (B j)))), (3, .ref (q j)), (0, .ref (a 0)), (1, .int (nI j)), (2, .int key)]) hx hb d_Hop_distance_17 hl (by decide) rfl (fun ls hl => ?_)
  refine lv_aload_n hx hb d_Hop_distance_19 rfl (lv_at hl 1 rfl) ?_
  refine lv_iload hx hb d_Hop_distance_20 (lv_at hl 0 rfl) ?_
  refine lv_aload_n hx hb d_Hop_distance_22 rfl (lv_at hl 1 rfl) ?_
  refine lv_iload_n hx hb d_Hop_distance_23 rfl (lv_at hl 4 rfl) ?_
  refine k_homeOf X hK hP hl.1 hc hj4 (Nat.le_of_ble_eq_true rfl) ⟨Nat.le_of_ble_eq_true rfl, Nat.le_of_ble_eq_true rfl⟩ ⟨Nat.le_of_ble_eq_true rfl, Nat.le_of_ble_eq_true rfl⟩ d_Hop_distance_24 ?_
  refine lv_isub hx hb d_Hop_distance_27 ?_
  refine k_aroundZ X hK hP hl.1 hc hj4 (Nat.le_of_ble_eq_true rfl) ⟨Nat.le_of_ble_eq_true rfl, Nat.le_of_ble_eq_true rfl⟩ ⟨Nat.le_of_ble_eq_true rfl, Nat.le_of_ble_eq_true rfl⟩ d_Hop_distance_28 ?_
  refine W.widen (k := 2) (n := 12) (Nat.le_of_ble_eq_true rfl) (Nat.le_of_ble_eq_true rfl) ?_
  exact vx_ret (W.iret (v := nI (((nI k - nI (B j)) - nI (hom key (S j) (P j))).toBitVec.toNat % P j)) hx hb hr (fun t ht hW => ⟨_, rfl, rfl, by rw [ht]; exact hP, hS.F ht⟩) hS.2.2 d_Hop_distance_31)
set_option maxHeartbeats 4000000 in
set_option maxRecDepth 100000 in
/-- distance -/
theorem c_Hop_distance_no (l : Launch) (hlt : l.stackTraces = false) (D : va_G) (ca a q : Nat → Nat) (K V : IT) (T : BT) (C : IT) (B P : Nat → Nat) (S : IT) (sa : Nat → Nat) (j : Nat) (hj : j < 3) (hc : pw (P j)) (hbd : B j + P j ≤ 256) (key : Int32) (hfd : fnd T K (B j) (P j) (hom key (S j) (P j)) key 0 8 = none) : vx_Met l y_Hop_distance w_Hop_distance (rmD 7 2 12) (va_Pc [.ref (a 0), .int (nI j), .int key] (hb_X D hCl (wH ca a q K V T C B P S) (tyH ca) sa)) (hX_Q (.inr "java/util/NoSuchElementException") D hCl (wH ca a q K V T C B P S) (hA (wH ca a q K V T C B P S))) (hX_X (.inr "java/util/NoSuchElementException") D hCl (wH ca a q K V T C B P S) (hA (wH ca a q K V T C B P S))) 2 12 (hA (wH ca a q K V T C B P S)) := by
  refine vx_ofW (cc := b_Hop_distance) (maxL := 5) (ret := some .int) (by decide) rfl ?_
  intro p e s m args below meth c0 s₁ B0 hml hnt hv
  obtain ⟨rfl, hP, hK, hD0, hF, hZ⟩ := hv
  have hx := B0.exec
  have hb := B0.bytes
  have hr := B0.returns
  have hts := atoms_spec (ws := w_Hop_distance) B0.pre
  have hown : s.vm.findClass R_Hop = some m.cls := findClass_of_methodNamed B0.named
  have hlocks := B0.notSynchronized
  have hwA : ∀ w ∈ wsA, w.before ([.ref (a 0), .int (nI j), .int key] : List Value).toArray s = true := fun w h => hts w (List.mem_cons_of_mem _ h)
  have X : CallFix p m c0 b_Hop_distance 5 s ([.ref (a 0), .int (nI j), .int key] : List Value).toArray wsA R_Hop := ⟨hx, hb, hml, hown, hwA⟩
  have hD := hA_D hD0
  have hS : va_S (hA (wH ca a q K V T C B P S)) s.heap s.heap [] := va_S.rf
  have hl := lv_entry ([.ref (a 0), .int (nI j), .int key]) (n := 5) (Nat.le_of_ble_eq_true rfl)
  rw [lg_entry_eq]
  generalize (lg_sl ([.ref (a 0), .int (nI j), .int key]) ++ List.replicate (5 - (lg_sl ([.ref (a 0), .int (nI j), .int key])).length) Slot.unset).toArray = ls at hl ⊢
  have hl : lv_has ls 5 [(0, .ref (a 0)), (1, .int (nI j)), (2, .int key)] := hl
  have hj4 : j < 4 := by omega
  have hP8 := pw_le hc
  refine lv_aload_n hx hb d_Hop_distance_0 rfl (lv_at hl 0 rfl) ?_
  refine lv_iload_n hx hb d_Hop_distance_1 rfl (lv_at hl 1 rfl) ?_
  refine k_partOf X hlt hK hP hD hS hF hZ hl.1 hj (Nat.le_of_ble_eq_true rfl) ⟨Nat.le_of_ble_eq_true rfl, Nat.le_of_ble_eq_true rfl⟩ ⟨Nat.le_of_ble_eq_true rfl, Nat.le_of_ble_eq_true rfl⟩ d_Hop_distance_2 (fun H locs hP hD hS => ?_)
  refine lv_astore_n (lv' := [(3, .ref (q j)), (0, .ref (a 0)), (1, .int (nI j)), (2, .int key)]) hx hb d_Hop_distance_5 rfl hl (by decide) rfl (fun ls hl => ?_)
  refine lv_aload_n hx hb d_Hop_distance_6 rfl (lv_at hl 1 rfl) ?_
  refine lv_aload_n hx hb d_Hop_distance_7 rfl (lv_at hl 0 rfl) ?_
  refine lv_iload_n hx hb d_Hop_distance_8 rfl (lv_at hl 3 rfl) ?_
  exact k_slotHolding_bad X hlt hK hP hD hS hF hZ hl.1 hj4 hc hbd hfd (Nat.le_of_ble_eq_true rfl) ⟨Nat.le_of_ble_eq_true rfl, Nat.le_of_ble_eq_true rfl⟩ ⟨Nat.le_of_ble_eq_true rfl, Nat.le_of_ble_eq_true rfl⟩ d_Hop_distance_9 hnt hlocks (Nat.le_of_ble_eq_true rfl) (Nat.le_of_ble_eq_true rfl)
set_option maxHeartbeats 4000000 in
set_option maxRecDepth 100000 in
/-- bits: there is no such place -/
theorem c_Hop_bits_np (l : Launch) (hlt : l.stackTraces = false) (D : va_G) (ca a q : Nat → Nat) (K V : IT) (T : BT) (C : IT) (B P : Nat → Nat) (S : IT) (sa : Nat → Nat) (j : Nat) (hj : j < 3) (hc : pw (P j)) (hbd : B j + P j ≤ 256) (x : Int32) (hx0 : ¬ (0 ≤ x ∧ x < nI (P j))) : vx_Met l y_Hop_bits w_Hop_bits (rmD 7 2 12) (va_Pc [.ref (a 0), .int (nI j), .int x] (hb_X D hCl (wH ca a q K V T C B P S) (tyH ca) sa)) (hX_Q (.inr "java/lang/IllegalArgumentException") D hCl (wH ca a q K V T C B P S) (hA (wH ca a q K V T C B P S))) (hX_X (.inr "java/lang/IllegalArgumentException") D hCl (wH ca a q K V T C B P S) (hA (wH ca a q K V T C B P S))) 2 12 (hA (wH ca a q K V T C B P S)) := by
  refine vx_ofW (cc := b_Hop_bits) (maxL := 6) (ret := some .int) (by decide) rfl ?_
  intro p e s m args below meth c0 s₁ B0 hml hnt hv
  obtain ⟨rfl, hP, hK, hD0, hF, hZ⟩ := hv
  have hx := B0.exec
  have hb := B0.bytes
  have hr := B0.returns
  have hts := atoms_spec (ws := w_Hop_bits) B0.pre
  have hown : s.vm.findClass R_Hop = some m.cls := findClass_of_methodNamed B0.named
  have hlocks := B0.notSynchronized
  have hwA : ∀ w ∈ wsA, w.before ([.ref (a 0), .int (nI j), .int x] : List Value).toArray s = true := fun w h => hts w (List.mem_cons_of_mem _ h)
  have X : CallFix p m c0 b_Hop_bits 6 s ([.ref (a 0), .int (nI j), .int x] : List Value).toArray wsA R_Hop := ⟨hx, hb, hml, hown, hwA⟩
  have hD := hA_D hD0
  have hS : va_S (hA (wH ca a q K V T C B P S)) s.heap s.heap [] := va_S.rf
  have hl := lv_entry ([.ref (a 0), .int (nI j), .int x]) (n := 6) (Nat.le_of_ble_eq_true rfl)
  rw [lg_entry_eq]
  generalize (lg_sl ([.ref (a 0), .int (nI j), .int x]) ++ List.replicate (6 - (lg_sl ([.ref (a 0), .int (nI j), .int x])).length) Slot.unset).toArray = ls at hl ⊢
  have hl : lv_has ls 6 [(0, .ref (a 0)), (1, .int (nI j)), (2, .int x)] := hl
  have hj4 : j < 4 := by omega
  have hP8 := pw_le hc
  refine lv_aload_n hx hb d_Hop_bits_0 rfl (lv_at hl 0 rfl) ?_
  refine lv_iload_n hx hb d_Hop_bits_1 rfl (lv_at hl 1 rfl) ?_
  refine k_partOf X hlt hK hP hD hS hF hZ hl.1 hj (Nat.le_of_ble_eq_true rfl) ⟨Nat.le_of_ble_eq_true rfl, Nat.le_of_ble_eq_true rfl⟩ ⟨Nat.le_of_ble_eq_true rfl, Nat.le_of_ble_eq_true rfl⟩ d_Hop_bits_2 (fun H locs hP hD hS => ?_)
  refine lv_astore_n (lv' := [(3, .ref (q j)), (0, .ref (a 0)), (1, .int (nI j)), (2, .int x)]) hx hb d_Hop_bits_5 rfl hl (by decide) rfl (fun ls hl => ?_)
  refine lv_aload_n hx hb d_Hop_bits_6 rfl (lv_at hl 0 rfl) ?_
  refine lv_iload_n hx hb d_Hop_bits_7 rfl (lv_at hl 3 rfl) ?_
  exact k_requirePlace_bad X hlt hK hP hD hS hF hZ hl.1 hj4 (by omega) hx0 (Nat.le_of_ble_eq_true rfl) ⟨Nat.le_of_ble_eq_true rfl, Nat.le_of_ble_eq_true rfl⟩ ⟨Nat.le_of_ble_eq_true rfl, Nat.le_of_ble_eq_true rfl⟩ d_Hop_bits_8 hnt hlocks (Nat.le_of_ble_eq_true rfl) (Nat.le_of_ble_eq_true rfl)
set_option maxHeartbeats 4000000 in
set_option maxRecDepth 100000 in
/-- next: there is no such place -/
theorem c_Hop_next_np (l : Launch) (hlt : l.stackTraces = false) (D : va_G) (ca a q : Nat → Nat) (K V : IT) (T : BT) (C : IT) (B P : Nat → Nat) (S : IT) (sa : Nat → Nat) (j : Nat) (hj : j < 3) (hc : pw (P j)) (hbd : B j + P j ≤ 256) (x : Int32) (hx0 : ¬ (0 ≤ x ∧ x < nI (P j))) : vx_Met l y_Hop_next w_Hop_next (rmD 7 2 12) (va_Pc [.ref (a 0), .int (nI j), .int x] (hb_X D hCl (wH ca a q K V T C B P S) (tyH ca) sa)) (hX_Q (.inr "java/lang/IllegalArgumentException") D hCl (wH ca a q K V T C B P S) (hA (wH ca a q K V T C B P S))) (hX_X (.inr "java/lang/IllegalArgumentException") D hCl (wH ca a q K V T C B P S) (hA (wH ca a q K V T C B P S))) 2 12 (hA (wH ca a q K V T C B P S)) := by
  refine vx_ofW (cc := b_Hop_next) (maxL := 5) (ret := some .int) (by decide) rfl ?_
  intro p e s m args below meth c0 s₁ B0 hml hnt hv
  obtain ⟨rfl, hP, hK, hD0, hF, hZ⟩ := hv
  have hx := B0.exec
  have hb := B0.bytes
  have hr := B0.returns
  have hts := atoms_spec (ws := w_Hop_next) B0.pre
  have hown : s.vm.findClass R_Hop = some m.cls := findClass_of_methodNamed B0.named
  have hlocks := B0.notSynchronized
  have hwA : ∀ w ∈ wsA, w.before ([.ref (a 0), .int (nI j), .int x] : List Value).toArray s = true := fun w h => hts w (List.mem_cons_of_mem _ h)
  have X : CallFix p m c0 b_Hop_next 5 s ([.ref (a 0), .int (nI j), .int x] : List Value).toArray wsA R_Hop := ⟨hx, hb, hml, hown, hwA⟩
  have hD := hA_D hD0
  have hS : va_S (hA (wH ca a q K V T C B P S)) s.heap s.heap [] := va_S.rf
  have hl := lv_entry ([.ref (a 0), .int (nI j), .int x]) (n := 5) (Nat.le_of_ble_eq_true rfl)
  rw [lg_entry_eq]
  generalize (lg_sl ([.ref (a 0), .int (nI j), .int x]) ++ List.replicate (5 - (lg_sl ([.ref (a 0), .int (nI j), .int x])).length) Slot.unset).toArray = ls at hl ⊢
  have hl : lv_has ls 5 [(0, .ref (a 0)), (1, .int (nI j)), (2, .int x)] := hl
  have hj4 : j < 4 := by omega
  have hP8 := pw_le hc
  refine lv_aload_n hx hb d_Hop_next_0 rfl (lv_at hl 0 rfl) ?_
  refine lv_iload_n hx hb d_Hop_next_1 rfl (lv_at hl 1 rfl) ?_
  refine k_partOf X hlt hK hP hD hS hF hZ hl.1 hj (Nat.le_of_ble_eq_true rfl) ⟨Nat.le_of_ble_eq_true rfl, Nat.le_of_ble_eq_true rfl⟩ ⟨Nat.le_of_ble_eq_true rfl, Nat.le_of_ble_eq_true rfl⟩ d_Hop_next_2 (fun H locs hP hD hS => ?_)
  refine lv_astore_n (lv' := [(3, .ref (q j)), (0, .ref (a 0)), (1, .int (nI j)), (2, .int x)]) hx hb d_Hop_next_5 rfl hl (by decide) rfl (fun ls hl => ?_)
  refine lv_aload_n hx hb d_Hop_next_6 rfl (lv_at hl 0 rfl) ?_
  refine lv_iload_n hx hb d_Hop_next_7 rfl (lv_at hl 3 rfl) ?_
  exact k_requirePlace_bad X hlt hK hP hD hS hF hZ hl.1 hj4 (by omega) hx0 (Nat.le_of_ble_eq_true rfl) ⟨Nat.le_of_ble_eq_true rfl, Nat.le_of_ble_eq_true rfl⟩ ⟨Nat.le_of_ble_eq_true rfl, Nat.le_of_ble_eq_true rfl⟩ d_Hop_next_8 hnt hlocks (Nat.le_of_ble_eq_true rfl) (Nat.le_of_ble_eq_true rfl)
set_option maxHeartbeats 4000000 in
set_option maxRecDepth 100000 in
/-- key: there is no such place -/
theorem c_Hop_key_np (l : Launch) (hlt : l.stackTraces = false) (D : va_G) (ca a q : Nat → Nat) (K V : IT) (T : BT) (C : IT) (B P : Nat → Nat) (S : IT) (sa : Nat → Nat) (j : Nat) (hj : j < 3) (hc : pw (P j)) (hbd : B j + P j ≤ 256) (x : Int32) (hx0 : ¬ (0 ≤ x ∧ x < nI (P j))) : vx_Met l y_Hop_key w_Hop_key (rmD 7 3 18) (va_Pc [.ref (a 0), .int (nI j), .int x] (hb_X D hCl (wH ca a q K V T C B P S) (tyH ca) sa)) (hX_Q (.inr "java/lang/IllegalArgumentException") D hCl (wH ca a q K V T C B P S) (hA (wH ca a q K V T C B P S))) (hX_X (.inr "java/lang/IllegalArgumentException") D hCl (wH ca a q K V T C B P S) (hA (wH ca a q K V T C B P S))) 3 18 (hA (wH ca a q K V T C B P S)) := by
  refine vx_ofW (cc := b_Hop_key) (maxL := 5) (ret := some .int) (by decide) rfl ?_
  intro p e s m args below meth c0 s₁ B0 hml hnt hv
  obtain ⟨rfl, hP, hK, hD0, hF, hZ⟩ := hv
  have hx := B0.exec
  have hb := B0.bytes
  have hr := B0.returns
  have hts := atoms_spec (ws := w_Hop_key) B0.pre
  have hown : s.vm.findClass R_Hop = some m.cls := findClass_of_methodNamed B0.named
  have hlocks := B0.notSynchronized
  have hwA : ∀ w ∈ wsA, w.before ([.ref (a 0), .int (nI j), .int x] : List Value).toArray s = true := fun w h => hts w (List.mem_cons_of_mem _ h)
  have X : CallFix p m c0 b_Hop_key 5 s ([.ref (a 0), .int (nI j), .int x] : List Value).toArray wsA R_Hop := ⟨hx, hb, hml, hown, hwA⟩
  have hD := hA_D hD0
  have hS : va_S (hA (wH ca a q K V T C B P S)) s.heap s.heap [] := va_S.rf
  have hl := lv_entry ([.ref (a 0), .int (nI j), .int x]) (n := 5) (Nat.le_of_ble_eq_true rfl)
  rw [lg_entry_eq]
  generalize (lg_sl ([.ref (a 0), .int (nI j), .int x]) ++ List.replicate (5 - (lg_sl ([.ref (a 0), .int (nI j), .int x])).length) Slot.unset).toArray = ls at hl ⊢
  have hl : lv_has ls 5 [(0, .ref (a 0)), (1, .int (nI j)), (2, .int x)] := hl
  have hj4 : j < 4 := by omega
  have hP8 := pw_le hc
  refine lv_aload_n hx hb d_Hop_key_0 rfl (lv_at hl 0 rfl) ?_
  refine lv_iload_n hx hb d_Hop_key_1 rfl (lv_at hl 1 rfl) ?_
  refine k_partOf X hlt hK hP hD hS hF hZ hl.1 hj (Nat.le_of_ble_eq_true rfl) ⟨Nat.le_of_ble_eq_true rfl, Nat.le_of_ble_eq_true rfl⟩ ⟨Nat.le_of_ble_eq_true rfl, Nat.le_of_ble_eq_true rfl⟩ d_Hop_key_2 (fun H locs hP hD hS => ?_)
  refine lv_astore_n (lv' := [(3, .ref (q j)), (0, .ref (a 0)), (1, .int (nI j)), (2, .int x)]) hx hb d_Hop_key_5 rfl hl (by decide) rfl (fun ls hl => ?_)
  refine lv_aload_n hx hb d_Hop_key_6 rfl (lv_at hl 0 rfl) ?_
  refine lv_iload_n hx hb d_Hop_key_7 rfl (lv_at hl 3 rfl) ?_
  exact k_requirePlace_bad X hlt hK hP hD hS hF hZ hl.1 hj4 (by omega) hx0 (Nat.le_of_ble_eq_true rfl) ⟨Nat.le_of_ble_eq_true rfl, Nat.le_of_ble_eq_true rfl⟩ ⟨Nat.le_of_ble_eq_true rfl, Nat.le_of_ble_eq_true rfl⟩ d_Hop_key_8 hnt hlocks (Nat.le_of_ble_eq_true rfl) (Nat.le_of_ble_eq_true rfl)
set_option maxHeartbeats 4000000 in
set_option maxRecDepth 100000 in
/-- bits -/
theorem c_Hop_bits (l : Launch) (hlt : l.stackTraces = false) (D : va_G) (ca a q : Nat → Nat) (K V : IT) (T : BT) (C : IT) (B P : Nat → Nat) (S : IT) (sa : Nat → Nat) (j : Nat) (hj : j < 3) (hc : pw (P j)) (hbd : B j + P j ≤ 256) (h : Nat) (hh : h < P j)  : vx_Met l y_Hop_bits w_Hop_bits (rmD 7 2 12) (va_Pc [.ref (a 0), .int (nI j), .int (nI h)] (hb_X D hCl (wH ca a q K V T C B P S) (tyH ca) sa)) (hX_Q (.inl (some (.int (rowB (fun i => bit T K (B j) (P j) (S j) h i) 8)))) D hCl (wH ca a q K V T C B P S) (hA (wH ca a q K V T C B P S))) (hX_X (.inl (some (.int (rowB (fun i => bit T K (B j) (P j) (S j) h i) 8)))) D hCl (wH ca a q K V T C B P S) (hA (wH ca a q K V T C B P S))) 2 12 (hA (wH ca a q K V T C B P S)) := by
  refine vx_ofW (cc := b_Hop_bits) (maxL := 6) (ret := some .int) (by decide) rfl ?_
  intro p e s m args below meth c0 s₁ B0 hml hnt hv
  obtain ⟨rfl, hP, hK, hD0, hF, hZ⟩ := hv
  have hx := B0.exec
  have hb := B0.bytes
  have hr := B0.returns
  have hts := atoms_spec (ws := w_Hop_bits) B0.pre
  have hown : s.vm.findClass R_Hop = some m.cls := findClass_of_methodNamed B0.named
  have hlocks := B0.notSynchronized
  have hwA : ∀ w ∈ wsA, w.before ([.ref (a 0), .int (nI j), .int (nI h)] : List Value).toArray s = true := fun w h => hts w (List.mem_cons_of_mem _ h)
  have X : CallFix p m c0 b_Hop_bits 6 s ([.ref (a 0), .int (nI j), .int (nI h)] : List Value).toArray wsA R_Hop := ⟨hx, hb, hml, hown, hwA⟩
  have hD := hA_D hD0
  have hS : va_S (hA (wH ca a q K V T C B P S)) s.heap s.heap [] := va_S.rf
  have hl := lv_entry ([.ref (a 0), .int (nI j), .int (nI h)]) (n := 6) (Nat.le_of_ble_eq_true rfl)
  rw [lg_entry_eq]
  generalize (lg_sl ([.ref (a 0), .int (nI j), .int (nI h)]) ++ List.replicate (6 - (lg_sl ([.ref (a 0), .int (nI j), .int (nI h)])).length) Slot.unset).toArray = ls at hl ⊢
  have hl : lv_has ls 6 [(0, .ref (a 0)), (1, .int (nI j)), (2, .int (nI h))] := hl
  have hj4 : j < 4 := by omega
  have hP8 := pw_le hc
  have hx0 : 0 ≤ nI h ∧ nI h < nI (P j) := ⟨nI_pos' (by omega), nI_lt hh (by omega)⟩
  have loop : ∀ (n i : Nat) (ls : Array Slot) (H : Heap) (locs : List Loc), i + n = 8 → va_P D hCl (wH ca a q K V T C B P S) H → va_D (hA (wH ca a q K V T C B P S)) (wH ca a q K V T C B P S) → va_S (hA (wH ca a q K V T C B P S)) s.heap H locs → lv_has ls 6 [(5, .int (nI i)), (4, .int (rowB (fun i => bit T K (B j) (P j) (S j) h i) i)), (3, .ref (q j)), (0, .ref (a 0)), (1, .int (nI j)), (2, .int (nI h))] → W p l e (headSpec w_Hop_bits (rmD 7 2 12)).room s m ([.ref (a 0), .int (nI j), .int (nI h)] : List Value).toArray below meth c0 H locs 2 12 (vx_MQ below (hX_Q (.inl (some (.int (rowB (fun i => bit T K (B j) (P j) (S j) h i) 8)))) D hCl (wH ca a q K V T C B P S) (hA (wH ca a q K V T C B P S))) (hX_X (.inl (some (.int (rowB (fun i => bit T K (B j) (P j) (S j) h i) 8)))) D hCl (wH ca a q K V T C B P S) (hA (wH ca a q K V T C B P S))) ([.ref (a 0), .int (nI j), .int (nI h)] : List Value).toArray s 2 12 (hA (wH ca a q K V T C B P S))) (F0 m 17 ls []) := by
    intro n
    induction n with
    | zero =>
      intro i ls H locs hi hP hD hS hl
      have hi8 : i = 8 := by omega
      subst hi8
      refine lv_iload hx hb d_Hop_bits_17 (lv_at hl 0 rfl) ?_
      refine lv_bipush (v := 8) hx hb d_Hop_bits_19 (by decide) ?_
      refine lvT_icmp_ge (tgt := 50) hx hb d_Hop_bits_21 (by decide) (by decide) ?_
      refine lv_iload hx hb d_Hop_bits_50 (lv_at hl 1 rfl) ?_
      refine W.widen (k := 2) (n := 12) (Nat.le_of_ble_eq_true rfl) (Nat.le_of_ble_eq_true rfl) ?_
      exact vx_ret (W.iret (v := rowB (fun i => bit T K (B j) (P j) (S j) h i) 8) hx hb hr (fun t ht hW => ⟨_, rfl, rfl, by rw [ht]; exact hP, hS.F ht⟩) hS.2.2 d_Hop_bits_52)
    | succ n ih =>
      intro i ls H locs hi hP hD hS hl
      refine lv_iload hx hb d_Hop_bits_17 (lv_at hl 0 rfl) ?_
      refine lv_bipush (v := 8) hx hb d_Hop_bits_19 (by decide) ?_
      refine lvF_icmp_ge (tgt := 50) hx hb d_Hop_bits_21 (by decide) (nI_ge (a := i) (b := 8) (by omega) (by omega)) ?_
      refine lv_aload_n hx hb d_Hop_bits_24 rfl (lv_at hl 3 rfl) ?_
      refine lv_aload_n hx hb d_Hop_bits_25 rfl (lv_at hl 2 rfl) ?_
      refine lv_iload_n hx hb d_Hop_bits_26 rfl (lv_at hl 5 rfl) ?_
      refine lv_iload hx hb d_Hop_bits_27 (lv_at hl 0 rfl) ?_
      refine k_isBitSet X hK hP hl.1 (h := h) (i := i) hj4 hc hbd (by omega) (by omega) (Nat.le_of_ble_eq_true rfl) ⟨Nat.le_of_ble_eq_true rfl, Nat.le_of_ble_eq_true rfl⟩ ⟨Nat.le_of_ble_eq_true rfl, Nat.le_of_ble_eq_true rfl⟩ d_Hop_bits_29 ?_
      refine lv_if_eq (tgt := 44) hx hb d_Hop_bits_32 (by decide) (fun h1 => ?_) (fun h1 => ?_)
      · have e1 : rowB (fun i => bit T K (B j) (P j) (S j) h i) (i + 1) = rowB (fun i => bit T K (B j) (P j) (S j) h i) i := if_neg (by show ¬ bit T K (B j) (P j) (S j) h i = true; rw [bI_0.mp h1]; decide)
        refine lv_iinc (k := 0) (v := nI (i + 1)) (lv' := [(5, .int (nI (i + 1))), (4, .int (rowB (fun i => bit T K (B j) (P j) (S j) h i) i)), (3, .ref (q j)), (0, .ref (a 0)), (1, .int (nI j)), (2, .int (nI h))]) hx hb d_Hop_bits_44 hl rfl (inc1 i) (by decide) rfl (fun ls hl => ?_)
        refine lv_goto (tgt := 17) hx hb d_Hop_bits_47 (by decide) ?_
        exact ih (i + 1) ls H locs (by omega) hP hD hS (by rw [e1]; exact hl)
      · have e1 : rowB (fun i => bit T K (B j) (P j) (S j) h i) (i + 1) = rowB (fun i => bit T K (B j) (P j) (S j) h i) i ||| ((1 : Int32) <<< (nI i &&& 31)) := if_pos (bI_n0.mp h1)
        refine lv_iload hx hb d_Hop_bits_35 (lv_at hl 1 rfl) ?_
        refine lv_iconst (v := 1) hx hb d_Hop_bits_37 (by decide) ?_
        refine lv_iload hx hb d_Hop_bits_38 (lv_at hl 0 rfl) ?_
        refine lv_ishl hx hb d_Hop_bits_40 ?_
        refine lv_ior hx hb d_Hop_bits_41 ?_
        refine lv_istore (lv' := [(4, .int ((rowB (fun i => bit T K (B j) (P j) (S j) h i) i) ||| ((1) <<< ((nI i) &&& 31)))), (5, .int (nI i)), (3, .ref (q j)), (0, .ref (a 0)), (1, .int (nI j)), (2, .int (nI h))]) hx hb d_Hop_bits_42 hl (by decide) rfl (fun ls hl => ?_)
        refine lv_iinc (k := 1) (v := nI (i + 1)) (lv' := [(5, .int (nI (i + 1))), (4, .int ((rowB (fun i => bit T K (B j) (P j) (S j) h i) i) ||| ((1) <<< ((nI i) &&& 31)))), (3, .ref (q j)), (0, .ref (a 0)), (1, .int (nI j)), (2, .int (nI h))]) hx hb d_Hop_bits_44 hl rfl (inc1 i) (by decide) rfl (fun ls hl => ?_)
        refine lv_goto (tgt := 17) hx hb d_Hop_bits_47 (by decide) ?_
        exact ih (i + 1) ls H locs (by omega) hP hD hS (by rw [e1]; exact lv_sub hl [0, 1, 2, 3, 4, 5] rfl)
  refine lv_aload_n hx hb d_Hop_bits_0 rfl (lv_at hl 0 rfl) ?_
  refine lv_iload_n hx hb d_Hop_bits_1 rfl (lv_at hl 1 rfl) ?_
  refine k_partOf X hlt hK hP hD hS hF hZ hl.1 hj (Nat.le_of_ble_eq_true rfl) ⟨Nat.le_of_ble_eq_true rfl, Nat.le_of_ble_eq_true rfl⟩ ⟨Nat.le_of_ble_eq_true rfl, Nat.le_of_ble_eq_true rfl⟩ d_Hop_bits_2 (fun H locs hP hD hS => ?_)
  refine lv_astore_n (lv' := [(3, .ref (q j)), (0, .ref (a 0)), (1, .int (nI j)), (2, .int (nI h))]) hx hb d_Hop_bits_5 rfl hl (by decide) rfl (fun ls hl => ?_)
  refine lv_aload_n hx hb d_Hop_bits_6 rfl (lv_at hl 0 rfl) ?_
  refine lv_iload_n hx hb d_Hop_bits_7 rfl (lv_at hl 3 rfl) ?_
  refine k_requirePlace X hlt hK hP hD hS hF hZ hl.1 hj4 (by omega) hx0 (Nat.le_of_ble_eq_true rfl) ⟨Nat.le_of_ble_eq_true rfl, Nat.le_of_ble_eq_true rfl⟩ ⟨Nat.le_of_ble_eq_true rfl, Nat.le_of_ble_eq_true rfl⟩ d_Hop_bits_8 (fun H locs hP hD hS => ?_)
  refine lv_iconst (v := 0) hx hb d_Hop_bits_11 (by decide) ?_
  refine lv_istore (lv' := [(4, .int 0), (3, .ref (q j)), (0, .ref (a 0)), (1, .int (nI j)), (2, .int (nI h))]) hx hb d_Hop_bits_12 hl (by decide) rfl (fun ls hl => ?_)
  refine lv_iconst (v := 0) hx hb d_Hop_bits_14 (by decide) ?_
  refine lv_istore (lv' := [(5, .int 0), (4, .int 0), (3, .ref (q j)), (0, .ref (a 0)), (1, .int (nI j)), (2, .int (nI h))]) hx hb d_Hop_bits_15 hl (by decide) rfl (fun ls hl => ?_)
  exact loop 8 0 ls H locs (by omega) hP hD hS hl
set_option maxHeartbeats 4000000 in
set_option maxRecDepth 100000 in
/-- next -/
theorem c_Hop_next (l : Launch) (hlt : l.stackTraces = false) (D : va_G) (ca a q : Nat → Nat) (K V : IT) (T : BT) (C : IT) (B P : Nat → Nat) (S : IT) (sa : Nat → Nat) (j : Nat) (hj : j < 3) (hc : pw (P j)) (hbd : B j + P j ≤ 256) (h : Nat) (hh : h < P j)  : vx_Met l y_Hop_next w_Hop_next (rmD 7 2 12) (va_Pc [.ref (a 0), .int (nI j), .int (nI h)] (hb_X D hCl (wH ca a q K V T C B P S) (tyH ca) sa)) (hX_Q (.inl (some (.int (oI (nxF T (B j) (P j) h (P j - h)))))) D hCl (wH ca a q K V T C B P S) (hA (wH ca a q K V T C B P S))) (hX_X (.inl (some (.int (oI (nxF T (B j) (P j) h (P j - h)))))) D hCl (wH ca a q K V T C B P S) (hA (wH ca a q K V T C B P S))) 2 12 (hA (wH ca a q K V T C B P S)) := by
  refine vx_ofW (cc := b_Hop_next) (maxL := 5) (ret := some .int) (by decide) rfl ?_
  intro p e s m args below meth c0 s₁ B0 hml hnt hv
  obtain ⟨rfl, hP, hK, hD0, hF, hZ⟩ := hv
  have hx := B0.exec
  have hb := B0.bytes
  have hr := B0.returns
  have hts := atoms_spec (ws := w_Hop_next) B0.pre
  have hown : s.vm.findClass R_Hop = some m.cls := findClass_of_methodNamed B0.named
  have hlocks := B0.notSynchronized
  have hwA : ∀ w ∈ wsA, w.before ([.ref (a 0), .int (nI j), .int (nI h)] : List Value).toArray s = true := fun w h => hts w (List.mem_cons_of_mem _ h)
  have X : CallFix p m c0 b_Hop_next 5 s ([.ref (a 0), .int (nI j), .int (nI h)] : List Value).toArray wsA R_Hop := ⟨hx, hb, hml, hown, hwA⟩
  have hD := hA_D hD0
  have hS : va_S (hA (wH ca a q K V T C B P S)) s.heap s.heap [] := va_S.rf
  have hl := lv_entry ([.ref (a 0), .int (nI j), .int (nI h)]) (n := 5) (Nat.le_of_ble_eq_true rfl)
  rw [lg_entry_eq]
  generalize (lg_sl ([.ref (a 0), .int (nI j), .int (nI h)]) ++ List.replicate (5 - (lg_sl ([.ref (a 0), .int (nI j), .int (nI h)])).length) Slot.unset).toArray = ls at hl ⊢
  have hl : lv_has ls 5 [(0, .ref (a 0)), (1, .int (nI j)), (2, .int (nI h))] := hl
  have hj4 : j < 4 := by omega
  have hP8 := pw_le hc
  have hx0 : 0 ≤ nI h ∧ nI h < nI (P j) := ⟨nI_pos' (by omega), nI_lt hh (by omega)⟩
  have loop : ∀ (n i : Nat) (ls : Array Slot) (H : Heap) (locs : List Loc), i + n = P j → nxF T (B j) (P j) i n = nxF T (B j) (P j) h (P j - h) → va_P D hCl (wH ca a q K V T C B P S) H → va_D (hA (wH ca a q K V T C B P S)) (wH ca a q K V T C B P S) → va_S (hA (wH ca a q K V T C B P S)) s.heap H locs → lv_has ls 5 [(4, .int (nI i)), (3, .ref (q j)), (0, .ref (a 0)), (1, .int (nI j)), (2, .int (nI h))] → W p l e (headSpec w_Hop_next (rmD 7 2 12)).room s m ([.ref (a 0), .int (nI j), .int (nI h)] : List Value).toArray below meth c0 H locs 2 12 (vx_MQ below (hX_Q (.inl (some (.int (oI (nxF T (B j) (P j) h (P j - h)))))) D hCl (wH ca a q K V T C B P S) (hA (wH ca a q K V T C B P S))) (hX_X (.inl (some (.int (oI (nxF T (B j) (P j) h (P j - h)))))) D hCl (wH ca a q K V T C B P S) (hA (wH ca a q K V T C B P S))) ([.ref (a 0), .int (nI j), .int (nI h)] : List Value).toArray s 2 12 (hA (wH ca a q K V T C B P S))) (F0 m 14 ls []) := by
    intro n
    induction n with
    | zero =>
      intro i ls H locs hi hf hP hD hS hl
      refine lv_iload hx hb d_Hop_next_14 (lv_at hl 0 rfl) ?_
      refine lv_aload_n hx hb d_Hop_next_16 rfl (lv_at hl 1 rfl) ?_
      refine hg_capacity X hK hP hj4 d_Hop_next_17 ?_
      refine lvT_icmp_ge (tgt := 46) hx hb d_Hop_next_20 (by decide) (nI_le (a := P j) (b := i) (by omega) (by omega)) ?_
      refine lv_iconst (v := -1) hx hb d_Hop_next_46 (by decide) ?_
      rw [← hf]
      refine W.widen (k := 2) (n := 12) (Nat.le_of_ble_eq_true rfl) (Nat.le_of_ble_eq_true rfl) ?_
      exact vx_ret (W.iret (v := -1) hx hb hr (fun t ht hW => ⟨_, rfl, rfl, by rw [ht]; exact hP, hS.F ht⟩) hS.2.2 d_Hop_next_47)
    | succ n ih =>
      intro i ls H locs hi hf hP hD hS hl
      refine lv_iload hx hb d_Hop_next_14 (lv_at hl 0 rfl) ?_
      refine lv_aload_n hx hb d_Hop_next_16 rfl (lv_at hl 1 rfl) ?_
      refine hg_capacity X hK hP hj4 d_Hop_next_17 ?_
      refine lvF_icmp_ge (tgt := 46) hx hb d_Hop_next_20 (by decide) (nI_ge (a := i) (b := P j) (by omega) (by omega)) ?_
      refine lv_aload_n hx hb d_Hop_next_23 rfl (lv_at hl 2 rfl) ?_
      refine hg_taken X hK hP d_Hop_next_24 ?_
      refine lv_aload_n hx hb d_Hop_next_27 rfl (lv_at hl 1 rfl) ?_
      refine lv_iload hx hb d_Hop_next_28 (lv_at hl 0 rfl) ?_
      refine k_slotOf X hK hP hl.1 (x := i) hc (by omega) hj4 (Nat.le_of_ble_eq_true rfl) ⟨Nat.le_of_ble_eq_true rfl, Nat.le_of_ble_eq_true rfl⟩ ⟨Nat.le_of_ble_eq_true rfl, Nat.le_of_ble_eq_true rfl⟩ d_Hop_next_30 ?_
      refine hl_T X hK hP (i := B j + (i) % P j) (sl_lt hc hbd) d_Hop_next_33 ?_
      refine lv_if_eq (tgt := 40) hx hb d_Hop_next_34 (by decide) (fun h1 => ?_) (fun h1 => ?_)
      · refine lv_iinc (k := 0) (v := nI (i + 1)) (lv' := [(4, .int (nI (i + 1))), (3, .ref (q j)), (0, .ref (a 0)), (1, .int (nI j)), (2, .int (nI h))]) hx hb d_Hop_next_40 hl rfl (inc1 i) (by decide) rfl (fun ls hl => ?_)
        refine lv_goto (tgt := 14) hx hb d_Hop_next_43 (by decide) ?_
        exact ih (i + 1) ls H locs (by omega) (by rw [← hf]; exact (if_neg (by rw [bI_0.mp h1]; decide)).symm) hP hD hS hl
      · have e1 : nxF T (B j) (P j) h (P j - h) = some i := by rw [← hf]; exact if_pos (bI_n0.mp h1)
        refine lv_iload hx hb d_Hop_next_37 (lv_at hl 0 rfl) ?_
        rw [e1]
        refine W.widen (k := 2) (n := 12) (Nat.le_of_ble_eq_true rfl) (Nat.le_of_ble_eq_true rfl) ?_
        exact vx_ret (W.iret (v := nI i) hx hb hr (fun t ht hW => ⟨_, rfl, rfl, by rw [ht]; exact hP, hS.F ht⟩) hS.2.2 d_Hop_next_39)
  refine lv_aload_n hx hb d_Hop_next_0 rfl (lv_at hl 0 rfl) ?_
  refine lv_iload_n hx hb d_Hop_next_1 rfl (lv_at hl 1 rfl) ?_
  refine k_partOf X hlt hK hP hD hS hF hZ hl.1 hj (Nat.le_of_ble_eq_true rfl) ⟨Nat.le_of_ble_eq_true rfl, Nat.le_of_ble_eq_true rfl⟩ ⟨Nat.le_of_ble_eq_true rfl, Nat.le_of_ble_eq_true rfl⟩ d_Hop_next_2 (fun H locs hP hD hS => ?_)
  refine lv_astore_n (lv' := [(3, .ref (q j)), (0, .ref (a 0)), (1, .int (nI j)), (2, .int (nI h))]) hx hb d_Hop_next_5 rfl hl (by decide) rfl (fun ls hl => ?_)
  refine lv_aload_n hx hb d_Hop_next_6 rfl (lv_at hl 0 rfl) ?_
  refine lv_iload_n hx hb d_Hop_next_7 rfl (lv_at hl 3 rfl) ?_
  refine k_requirePlace X hlt hK hP hD hS hF hZ hl.1 hj4 (by omega) hx0 (Nat.le_of_ble_eq_true rfl) ⟨Nat.le_of_ble_eq_true rfl, Nat.le_of_ble_eq_true rfl⟩ ⟨Nat.le_of_ble_eq_true rfl, Nat.le_of_ble_eq_true rfl⟩ d_Hop_next_8 (fun H locs hP hD hS => ?_)
  refine lv_iload_n hx hb d_Hop_next_11 rfl (lv_at hl 3 rfl) ?_
  refine lv_istore (lv' := [(4, .int (nI h)), (3, .ref (q j)), (0, .ref (a 0)), (1, .int (nI j)), (2, .int (nI h))]) hx hb d_Hop_next_12 hl (by decide) rfl (fun ls hl => ?_)
  exact loop (P j - h) h ls H locs (by omega) rfl hP hD hS hl
set_option maxHeartbeats 4000000 in
set_option maxRecDepth 100000 in
/-- key -/
theorem c_Hop_key (l : Launch) (hlt : l.stackTraces = false) (D : va_G) (ca a q : Nat → Nat) (K V : IT) (T : BT) (C : IT) (B P : Nat → Nat) (S : IT) (sa : Nat → Nat) (j : Nat) (hj : j < 3) (hc : pw (P j)) (hbd : B j + P j ≤ 256) (h : Nat) (hh : h < P j) (hT : T (B j + h % P j) = true) : vx_Met l y_Hop_key w_Hop_key (rmD 7 3 18) (va_Pc [.ref (a 0), .int (nI j), .int (nI h)] (hb_X D hCl (wH ca a q K V T C B P S) (tyH ca) sa)) (hX_Q (.inl (some (.int (K (B j + h % P j))))) D hCl (wH ca a q K V T C B P S) (hA (wH ca a q K V T C B P S))) (hX_X (.inl (some (.int (K (B j + h % P j))))) D hCl (wH ca a q K V T C B P S) (hA (wH ca a q K V T C B P S))) 3 18 (hA (wH ca a q K V T C B P S)) := by
  refine vx_ofW (cc := b_Hop_key) (maxL := 5) (ret := some .int) (by decide) rfl ?_
  intro p e s m args below meth c0 s₁ B0 hml hnt hv
  obtain ⟨rfl, hP, hK, hD0, hF, hZ⟩ := hv
  have hx := B0.exec
  have hb := B0.bytes
  have hr := B0.returns
  have hts := atoms_spec (ws := w_Hop_key) B0.pre
  have hown : s.vm.findClass R_Hop = some m.cls := findClass_of_methodNamed B0.named
  have hlocks := B0.notSynchronized
  have hwA : ∀ w ∈ wsA, w.before ([.ref (a 0), .int (nI j), .int (nI h)] : List Value).toArray s = true := fun w h => hts w (List.mem_cons_of_mem _ h)
  have X : CallFix p m c0 b_Hop_key 5 s ([.ref (a 0), .int (nI j), .int (nI h)] : List Value).toArray wsA R_Hop := ⟨hx, hb, hml, hown, hwA⟩
  have hD := hA_D hD0
  have hS : va_S (hA (wH ca a q K V T C B P S)) s.heap s.heap [] := va_S.rf
  have hl := lv_entry ([.ref (a 0), .int (nI j), .int (nI h)]) (n := 5) (Nat.le_of_ble_eq_true rfl)
  rw [lg_entry_eq]
  generalize (lg_sl ([.ref (a 0), .int (nI j), .int (nI h)]) ++ List.replicate (5 - (lg_sl ([.ref (a 0), .int (nI j), .int (nI h)])).length) Slot.unset).toArray = ls at hl ⊢
  have hl : lv_has ls 5 [(0, .ref (a 0)), (1, .int (nI j)), (2, .int (nI h))] := hl
  have hj4 : j < 4 := by omega
  have hP8 := pw_le hc
  have hx0 : 0 ≤ nI h ∧ nI h < nI (P j) := ⟨nI_pos' (by omega), nI_lt hh (by omega)⟩
  refine lv_aload_n hx hb d_Hop_key_0 rfl (lv_at hl 0 rfl) ?_
  refine lv_iload_n hx hb d_Hop_key_1 rfl (lv_at hl 1 rfl) ?_
  refine k_partOf X hlt hK hP hD hS hF hZ hl.1 hj (Nat.le_of_ble_eq_true rfl) ⟨Nat.le_of_ble_eq_true rfl, Nat.le_of_ble_eq_true rfl⟩ ⟨Nat.le_of_ble_eq_true rfl, Nat.le_of_ble_eq_true rfl⟩ d_Hop_key_2 (fun H locs hP hD hS => ?_)
  refine lv_astore_n (lv' := [(3, .ref (q j)), (0, .ref (a 0)), (1, .int (nI j)), (2, .int (nI h))]) hx hb d_Hop_key_5 rfl hl (by decide) rfl (fun ls hl => ?_)
  refine lv_aload_n hx hb d_Hop_key_6 rfl (lv_at hl 0 rfl) ?_
  refine lv_iload_n hx hb d_Hop_key_7 rfl (lv_at hl 3 rfl) ?_
  refine k_requirePlace X hlt hK hP hD hS hF hZ hl.1 hj4 (by omega) hx0 (Nat.le_of_ble_eq_true rfl) ⟨Nat.le_of_ble_eq_true rfl, Nat.le_of_ble_eq_true rfl⟩ ⟨Nat.le_of_ble_eq_true rfl, Nat.le_of_ble_eq_true rfl⟩ d_Hop_key_8 (fun H locs hP hD hS => ?_)
  refine lv_aload_n hx hb d_Hop_key_11 rfl (lv_at hl 0 rfl) ?_
  refine lv_iload_n hx hb d_Hop_key_12 rfl (lv_at hl 3 rfl) ?_
  refine k_slotOf X hK hP hl.1 (x := h) hc (by omega) hj4 (Nat.le_of_ble_eq_true rfl) ⟨Nat.le_of_ble_eq_true rfl, Nat.le_of_ble_eq_true rfl⟩ ⟨Nat.le_of_ble_eq_true rfl, Nat.le_of_ble_eq_true rfl⟩ d_Hop_key_13 ?_
  refine lv_istore (lv' := [(4, .int (nI (B j + (h) % P j))), (3, .ref (q j)), (0, .ref (a 0)), (1, .int (nI j)), (2, .int (nI h))]) hx hb d_Hop_key_16 hl (by decide) rfl (fun ls hl => ?_)
  refine lv_aload_n hx hb d_Hop_key_18 rfl (lv_at hl 2 rfl) ?_
  refine hg_taken X hK hP d_Hop_key_19 ?_
  refine lv_iload hx hb d_Hop_key_22 (lv_at hl 0 rfl) ?_
  refine hl_T X hK hP (i := B j + (h) % P j) (sl_lt hc hbd) d_Hop_key_24 ?_
  refine lvT_if_ne (tgt := 38) hx hb d_Hop_key_25 (by decide) (bI_n0.mpr hT) ?_
  refine lv_aload_n hx hb d_Hop_key_38 rfl (lv_at hl 2 rfl) ?_
  refine hg_keys X hK hP d_Hop_key_39 ?_
  refine lv_iload hx hb d_Hop_key_42 (lv_at hl 0 rfl) ?_
  refine hl_K X hK hP (i := B j + (h) % P j) (sl_lt hc hbd) d_Hop_key_44 ?_
  refine W.widen (k := 3) (n := 18) (Nat.le_of_ble_eq_true rfl) (Nat.le_of_ble_eq_true rfl) ?_
  exact vx_ret (W.iret (v := K (B j + h % P j)) hx hb hr (fun t ht hW => ⟨_, rfl, rfl, by rw [ht]; exact hP, hS.F ht⟩) hS.2.2 d_Hop_key_45)
set_option maxHeartbeats 4000000 in
set_option maxRecDepth 100000 in
/-- key -/
theorem c_Hop_key_no (l : Launch) (hlt : l.stackTraces = false) (D : va_G) (ca a q : Nat → Nat) (K V : IT) (T : BT) (C : IT) (B P : Nat → Nat) (S : IT) (sa : Nat → Nat) (j : Nat) (hj : j < 3) (hc : pw (P j)) (hbd : B j + P j ≤ 256) (h : Nat) (hh : h < P j) (hT : T (B j + h % P j) = false) : vx_Met l y_Hop_key w_Hop_key (rmD 7 3 18) (va_Pc [.ref (a 0), .int (nI j), .int (nI h)] (hb_X D hCl (wH ca a q K V T C B P S) (tyH ca) sa)) (hX_Q (.inr "java/util/NoSuchElementException") D hCl (wH ca a q K V T C B P S) (hA (wH ca a q K V T C B P S))) (hX_X (.inr "java/util/NoSuchElementException") D hCl (wH ca a q K V T C B P S) (hA (wH ca a q K V T C B P S))) 3 18 (hA (wH ca a q K V T C B P S)) := by
  refine vx_ofW (cc := b_Hop_key) (maxL := 5) (ret := some .int) (by decide) rfl ?_
  intro p e s m args below meth c0 s₁ B0 hml hnt hv
  obtain ⟨rfl, hP, hK, hD0, hF, hZ⟩ := hv
  have hx := B0.exec
  have hb := B0.bytes
  have hr := B0.returns
  have hts := atoms_spec (ws := w_Hop_key) B0.pre
  have hown : s.vm.findClass R_Hop = some m.cls := findClass_of_methodNamed B0.named
  have hlocks := B0.notSynchronized
  have hwA : ∀ w ∈ wsA, w.before ([.ref (a 0), .int (nI j), .int (nI h)] : List Value).toArray s = true := fun w h => hts w (List.mem_cons_of_mem _ h)
  have X : CallFix p m c0 b_Hop_key 5 s ([.ref (a 0), .int (nI j), .int (nI h)] : List Value).toArray wsA R_Hop := ⟨hx, hb, hml, hown, hwA⟩
  have hD := hA_D hD0
  have hS : va_S (hA (wH ca a q K V T C B P S)) s.heap s.heap [] := va_S.rf
  have hl := lv_entry ([.ref (a 0), .int (nI j), .int (nI h)]) (n := 5) (Nat.le_of_ble_eq_true rfl)
  rw [lg_entry_eq]
  generalize (lg_sl ([.ref (a 0), .int (nI j), .int (nI h)]) ++ List.replicate (5 - (lg_sl ([.ref (a 0), .int (nI j), .int (nI h)])).length) Slot.unset).toArray = ls at hl ⊢
  have hl : lv_has ls 5 [(0, .ref (a 0)), (1, .int (nI j)), (2, .int (nI h))] := hl
  have hj4 : j < 4 := by omega
  have hP8 := pw_le hc
  have hx0 : 0 ≤ nI h ∧ nI h < nI (P j) := ⟨nI_pos' (by omega), nI_lt hh (by omega)⟩
  refine lv_aload_n hx hb d_Hop_key_0 rfl (lv_at hl 0 rfl) ?_
  refine lv_iload_n hx hb d_Hop_key_1 rfl (lv_at hl 1 rfl) ?_
  refine k_partOf X hlt hK hP hD hS hF hZ hl.1 hj (Nat.le_of_ble_eq_true rfl) ⟨Nat.le_of_ble_eq_true rfl, Nat.le_of_ble_eq_true rfl⟩ ⟨Nat.le_of_ble_eq_true rfl, Nat.le_of_ble_eq_true rfl⟩ d_Hop_key_2 (fun H locs hP hD hS => ?_)
  refine lv_astore_n (lv' := [(3, .ref (q j)), (0, .ref (a 0)), (1, .int (nI j)), (2, .int (nI h))]) hx hb d_Hop_key_5 rfl hl (by decide) rfl (fun ls hl => ?_)
  refine lv_aload_n hx hb d_Hop_key_6 rfl (lv_at hl 0 rfl) ?_
  refine lv_iload_n hx hb d_Hop_key_7 rfl (lv_at hl 3 rfl) ?_
  refine k_requirePlace X hlt hK hP hD hS hF hZ hl.1 hj4 (by omega) hx0 (Nat.le_of_ble_eq_true rfl) ⟨Nat.le_of_ble_eq_true rfl, Nat.le_of_ble_eq_true rfl⟩ ⟨Nat.le_of_ble_eq_true rfl, Nat.le_of_ble_eq_true rfl⟩ d_Hop_key_8 (fun H locs hP hD hS => ?_)
  refine lv_aload_n hx hb d_Hop_key_11 rfl (lv_at hl 0 rfl) ?_
  refine lv_iload_n hx hb d_Hop_key_12 rfl (lv_at hl 3 rfl) ?_
  refine k_slotOf X hK hP hl.1 (x := h) hc (by omega) hj4 (Nat.le_of_ble_eq_true rfl) ⟨Nat.le_of_ble_eq_true rfl, Nat.le_of_ble_eq_true rfl⟩ ⟨Nat.le_of_ble_eq_true rfl, Nat.le_of_ble_eq_true rfl⟩ d_Hop_key_13 ?_
  refine lv_istore (lv' := [(4, .int (nI (B j + (h) % P j))), (3, .ref (q j)), (0, .ref (a 0)), (1, .int (nI j)), (2, .int (nI h))]) hx hb d_Hop_key_16 hl (by decide) rfl (fun ls hl => ?_)
  refine lv_aload_n hx hb d_Hop_key_18 rfl (lv_at hl 2 rfl) ?_
  refine hg_taken X hK hP d_Hop_key_19 ?_
  refine lv_iload hx hb d_Hop_key_22 (lv_at hl 0 rfl) ?_
  refine hl_T X hK hP (i := B j + (h) % P j) (sl_lt hc hbd) d_Hop_key_24 ?_
  refine lvF_if_ne (tgt := 38) hx hb d_Hop_key_25 (by decide) (bI_0.mpr hT) ?_
  exact hX_throw (k := 5) (text := "the place is free") X hlt hF hZ hP hS hl.1 by13_0 by13_1 by13_2 by13_5 (by decide) m_292 m_49 (by decide +kernel) at_NSE ot_NSE d_Hop_key_28 d_Hop_key_31 d_Hop_key_32 d_Hop_key_34 d_Hop_key_37 hnt ⟨Nat.le_of_ble_eq_true rfl, Nat.le_of_ble_eq_true rfl⟩ (Nat.le_of_ble_eq_true rfl) (Nat.le_of_ble_eq_true rfl) (Nat.le_of_ble_eq_true rfl) hlocks rfl (Nat.le_of_ble_eq_true rfl) (Nat.le_of_ble_eq_true rfl)
set_option maxHeartbeats 4000000 in
set_option maxRecDepth 100000 in
/-- count -/
theorem c_Hop_count (l : Launch) (hlt : l.stackTraces = false) (D : va_G) (ca a q : Nat → Nat) (K V : IT) (T : BT) (C : IT) (B P : Nat → Nat) (S : IT) (sa : Nat → Nat) (k : Nat) (hk : k < 3) : vx_Met l y_Hop_count w_Hop_count (rmD 7 1 6) (va_Pc [.ref (a 0), .int (nI k)] (hb_X D hCl (wH ca a q K V T C B P S) (tyH ca) sa)) (hX_Q (.inl (some (.int (C k)))) D hCl (wH ca a q K V T C B P S) (hA (wH ca a q K V T C B P S))) (hX_X (.inl (some (.int (C k)))) D hCl (wH ca a q K V T C B P S) (hA (wH ca a q K V T C B P S))) 1 6 (hA (wH ca a q K V T C B P S)) := by
  refine vx_ofW (cc := b_Hop_count) (maxL := 2) (ret := some .int) (by decide) rfl ?_
  intro p e s m args below meth c0 s₁ B0 hml hnt hv
  obtain ⟨rfl, hP, hK, hD0, hF, hZ⟩ := hv
  have hx := B0.exec
  have hb := B0.bytes
  have hr := B0.returns
  have hts := atoms_spec (ws := w_Hop_count) B0.pre
  have hown : s.vm.findClass R_Hop = some m.cls := findClass_of_methodNamed B0.named
  have hlocks := B0.notSynchronized
  have hwA : ∀ w ∈ wsA, w.before ([.ref (a 0), .int (nI k)] : List Value).toArray s = true := fun w h => hts w (List.mem_cons_of_mem _ h)
  have X : CallFix p m c0 b_Hop_count 2 s ([.ref (a 0), .int (nI k)] : List Value).toArray wsA R_Hop := ⟨hx, hb, hml, hown, hwA⟩
  have hD := hA_D hD0
  have hS : va_S (hA (wH ca a q K V T C B P S)) s.heap s.heap [] := va_S.rf
  have hl := lv_entry ([.ref (a 0), .int (nI k)]) (n := 2) (Nat.le_of_ble_eq_true rfl)
  rw [lg_entry_eq]
  generalize (lg_sl ([.ref (a 0), .int (nI k)]) ++ List.replicate (2 - (lg_sl ([.ref (a 0), .int (nI k)])).length) Slot.unset).toArray = ls at hl ⊢
  have hl : lv_has ls 2 [(0, .ref (a 0)), (1, .int (nI k))] := hl
  refine lv_iload_n hx hb d_Hop_count_0 rfl (lv_at hl 1 rfl) ?_
  refine lvF_if_lt (tgt := 9) hx hb d_Hop_count_1 (by decide) (nI_pos (by omega)) ?_
  refine lv_iload_n hx hb d_Hop_count_4 rfl (lv_at hl 1 rfl) ?_
  refine lv_iconst (v := 3) hx hb d_Hop_count_5 (by decide) ?_
  refine lvT_icmp_lt (tgt := 19) hx hb d_Hop_count_6 (by decide) (nI_lt (a := k) (b := 3) (by omega) (by omega)) ?_
  refine lv_aload_n hx hb d_Hop_count_19 rfl (lv_at hl 0 rfl) ?_
  refine hg_counts X hK hP d_Hop_count_20 ?_
  refine lv_iload_n hx hb d_Hop_count_23 rfl (lv_at hl 1 rfl) ?_
  refine hl_C X hK hP (i := k) (hk) d_Hop_count_24 ?_
  refine W.widen (k := 1) (n := 6) (Nat.le_of_ble_eq_true rfl) (Nat.le_of_ble_eq_true rfl) ?_
  exact vx_ret (W.iret (v := C k) hx hb hr (fun t ht hW => ⟨_, rfl, rfl, by rw [ht]; exact hP, hS.F ht⟩) hS.2.2 d_Hop_count_25)
set_option maxHeartbeats 4000000 in
set_option maxRecDepth 100000 in
/-- count -/
theorem c_Hop_count_no (l : Launch) (hlt : l.stackTraces = false) (D : va_G) (ca a q : Nat → Nat) (K V : IT) (T : BT) (C : IT) (B P : Nat → Nat) (S : IT) (sa : Nat → Nat) (wh : Int32) (hw : wh < 0 ∨ nI 3 ≤ wh) : vx_Met l y_Hop_count w_Hop_count (rmD 7 1 6) (va_Pc [.ref (a 0), .int wh] (hb_X D hCl (wH ca a q K V T C B P S) (tyH ca) sa)) (hX_Q (.inr "java/lang/IllegalArgumentException") D hCl (wH ca a q K V T C B P S) (hA (wH ca a q K V T C B P S))) (hX_X (.inr "java/lang/IllegalArgumentException") D hCl (wH ca a q K V T C B P S) (hA (wH ca a q K V T C B P S))) 1 6 (hA (wH ca a q K V T C B P S)) := by
  refine vx_ofW (cc := b_Hop_count) (maxL := 2) (ret := some .int) (by decide) rfl ?_
  intro p e s m args below meth c0 s₁ B0 hml hnt hv
  obtain ⟨rfl, hP, hK, hD0, hF, hZ⟩ := hv
  have hx := B0.exec
  have hb := B0.bytes
  have hr := B0.returns
  have hts := atoms_spec (ws := w_Hop_count) B0.pre
  have hown : s.vm.findClass R_Hop = some m.cls := findClass_of_methodNamed B0.named
  have hlocks := B0.notSynchronized
  have hwA : ∀ w ∈ wsA, w.before ([.ref (a 0), .int wh] : List Value).toArray s = true := fun w h => hts w (List.mem_cons_of_mem _ h)
  have X : CallFix p m c0 b_Hop_count 2 s ([.ref (a 0), .int wh] : List Value).toArray wsA R_Hop := ⟨hx, hb, hml, hown, hwA⟩
  have hD := hA_D hD0
  have hS : va_S (hA (wH ca a q K V T C B P S)) s.heap s.heap [] := va_S.rf
  have hl := lv_entry ([.ref (a 0), .int wh]) (n := 2) (Nat.le_of_ble_eq_true rfl)
  rw [lg_entry_eq]
  generalize (lg_sl ([.ref (a 0), .int wh]) ++ List.replicate (2 - (lg_sl ([.ref (a 0), .int wh])).length) Slot.unset).toArray = ls at hl ⊢
  have hl : lv_has ls 2 [(0, .ref (a 0)), (1, .int wh)] := hl
  refine lv_iload_n hx hb d_Hop_count_0 rfl (lv_at hl 1 rfl) ?_
  refine lv_if_lt (tgt := 9) hx hb d_Hop_count_1 (by decide) (fun h1 => ?_) (fun h1 => ?_)
  · exact hX_throw (k := 6) (text := "no such count") X hlt hF hZ hP hS hl.1 by7_0 by7_1 by7_2 by7_5 (by decide) m_348 m_50 (by decide +kernel) at_IAE ot_IAE d_Hop_count_9 d_Hop_count_12 d_Hop_count_13 d_Hop_count_15 d_Hop_count_18 hnt ⟨Nat.le_of_ble_eq_true rfl, Nat.le_of_ble_eq_true rfl⟩ (Nat.le_of_ble_eq_true rfl) (Nat.le_of_ble_eq_true rfl) (Nat.le_of_ble_eq_true rfl) hlocks rfl (Nat.le_of_ble_eq_true rfl) (Nat.le_of_ble_eq_true rfl)
  · refine lv_iload_n hx hb d_Hop_count_4 rfl (lv_at hl 1 rfl) ?_
    refine lv_iconst (v := 3) hx hb d_Hop_count_5 (by decide) ?_
    refine lvF_icmp_lt (tgt := 19) hx hb d_Hop_count_6 (by decide) (Int32.not_lt.mpr (hw.resolve_left h1)) ?_
    exact hX_throw (k := 6) (text := "no such count") X hlt hF hZ hP hS hl.1 by7_0 by7_1 by7_2 by7_5 (by decide) m_348 m_50 (by decide +kernel) at_IAE ot_IAE d_Hop_count_9 d_Hop_count_12 d_Hop_count_13 d_Hop_count_15 d_Hop_count_18 hnt ⟨Nat.le_of_ble_eq_true rfl, Nat.le_of_ble_eq_true rfl⟩ (Nat.le_of_ble_eq_true rfl) (Nat.le_of_ble_eq_true rfl) (Nat.le_of_ble_eq_true rfl) hlocks rfl (Nat.le_of_ble_eq_true rfl) (Nat.le_of_ble_eq_true rfl)
