theorem oi_code : Cond.code objectInit ⟨#[0xb1]⟩ 1 none ∈ wsA := mA (List.mem_of_getElem? (i := 58) (by decide +kernel)) rfl
section HCO
variable {p : Program} {l : Launch} {e : Env} {R : Room} {s : State} {m : MethodId} {args : Array Value} {below : List Frame} {meth : Method} {c : Code} {H : Heap} {locs : List Loc} {cells slots : Nat} {Q : State → Prop}
variable {cc : ByteArray} {pc nL : Nat} {ls : Array Slot} {rest st0 : List Value} {D : va_G} {cl : List vw_C} {A : Nat → Prop} {H0 : Heap} {tys tc : List (ClassId × FieldType)} {ws wc w1 : va_W}
theorem hw_one {a : Array Value} {v : Option Value} {pa i : Nat} {e0 e1 : va_E} (hr : va_Run p l e R s m args below meth c H locs cells slots 0 0 (F0 m pc ls st0) rest (hq_W v D cl [(pa, e1)] (hA [(pa, e0)]) a) (hA [(pa, e0)])) (hP : va_P D cl ws H) (hD : va_D A ws) (hS : va_S A H0 H locs) (hp : ws[i]? = some (pa, e0))
    (kk : ∀ (H1 : Heap) (locs1 : List Loc), va_P D cl (ws.set i (pa, e1)) H1 → va_D A (ws.set i (pa, e1)) → va_S A H0 H1 locs1 → W p l e R s m args below meth c H1 locs1 cells slots Q (F0 m (pc + 3) ls (v.toList ++ rest))) : W p l e R s m args below meth c H locs cells slots Q (F0 m pc ls st0) := by
  have hin : ∀ x, hA [(pa, e0)] x → x = pa := fun x hx => by
    obtain ⟨k, e9, hk⟩ := hx
    have hz : k < 1 := (List.getElem?_eq_some_iff.mp hk).1
    rw [show k = 0 by omega] at hk
    exact (congrArg Prod.fst (Option.some.inj hk)).symm
  refine hw_call hr hS (fun x hx => by rw [hin x hx]; exact hD.2 i _ hp) (fun H1 locs1 h1 h2 h3 => kk H1 locs1 (fun k q hk => ?_) (hD.set hp) h3)
  have hl := (List.getElem?_eq_some_iff.mp hp).1
  by_cases hkp : k = i
  · subst hkp
    rw [List.getElem?_set_self hl] at hk
    cases hk
    exact h1 0 _ rfl
  · rw [List.getElem?_set_ne (Ne.symm hkp)] at hk
    exact (hP k q hk).kept (h2 q.1 (hP k q hk).lt (fun z => hkp (hD.1 k i q (pa, e0) hk hp (hin _ z))))
end HCO
set_option maxHeartbeats 4000000 in
set_option maxRecDepth 100000 in
/-- Part(base, capacity, seed) -/
theorem c_Part_init (l : Launch) (D : va_G) (h b c : Nat) (sd : Int32) : Met l y_Part_init w_Part_init (rmD 1 0 0) (va_Pc [.ref h, .int (nI b), .int (nI c), .int sd] (hb_W D hCl [(h, .inr (1, [.int 0, .int 0, .int 0]))] [])) (hq_W none D hCl [(h, pt b c sd)] (hA [(h, .inr (1, [.int 0, .int 0, .int 0]))])) 0 0 (hA [(h, .inr (1, [.int 0, .int 0, .int 0]))]) := by
  refine Met.ofW (cc := b_Part_init) (maxL := 4) (ret := none) (by decide) rfl ?_
  intro p e s m args below meth c0 s₁ B0 hml hv
  obtain ⟨rfl, hP, hK, hD0⟩ := hv
  have hx := B0.exec
  have hb := B0.bytes
  have hr := B0.returns
  have hts := atoms_spec (ws := w_Part_init) B0.pre
  have hown : s.vm.findClass R_Part = some m.cls := findClass_of_methodNamed B0.named
  have hlocks := B0.notSynchronized
  have hwA : ∀ w ∈ wsA, w.before ([.ref h, .int (nI b), .int (nI c), .int sd] : List Value).toArray s = true := fun w h => hts w (List.mem_cons_of_mem _ h)
  have X : CallFix p m c0 b_Part_init 4 s ([.ref h, .int (nI b), .int (nI c), .int sd] : List Value).toArray wsA R_Part := ⟨hx, hb, hml, hown, hwA⟩
  have hD := hA_D hD0
  have hS : va_S (hA ([(h, .inr (1, [.int 0, .int 0, .int 0]))])) s.heap s.heap [] := va_S.rf
  have hl := lv_entry ([.ref h, .int (nI b), .int (nI c), .int sd]) (n := 4) (Nat.le_of_ble_eq_true rfl)
  rw [lg_entry_eq]
  generalize (lg_sl ([.ref h, .int (nI b), .int (nI c), .int sd]) ++ List.replicate (4 - (lg_sl ([.ref h, .int (nI b), .int (nI c), .int sd])).length) Slot.unset).toArray = ls at hl ⊢
  have hl : lv_has ls 4 [(0, .ref h), (1, .int (nI b)), (2, .int (nI c)), (3, .int sd)] := hl
  refine lv_aload_n hx hb d_Part_init_0 rfl (lv_at hl 0 rfl) ?_
  refine W.objInit hx hb hown (hwA (.methodLink R_Part 1 objectInit) m_65) (hwA (.instanceMethod objectInit) m_57) (hwA (.code objectInit ⟨#[0xb1]⟩ 1 none) oi_code) rfl (by rw [hml]; exact hl.1) rfl d_Part_init_1 (Nat.le_of_ble_eq_true rfl) (Nat.le_of_ble_eq_true rfl) ?_
  refine W.eq (g2 := F0 m 4 ls []) rfl ?_
  refine lv_aload_n hx hb d_Part_init_4 rfl (lv_at hl 0 rfl) ?_
  refine lv_iload_n hx hb d_Part_init_5 rfl (lv_at hl 1 rfl) ?_
  refine va_put (D := D) (ci := 1) (v := .int (nI b)) (ty := .int) (C := R_Part) (T := F_Part) (N := 3) hx hb hwA hin_Part t_Part t_Part_ok n_Part hown hK hP hD hS 0 rfl rfl 0 (by decide) (hwA (.fieldLink R_Part 7 "HopArena$Part" "base" "I") m_66) (fun _ h9 => h9) rfl (by decide +kernel) rfl rfl (Nat.le_of_ble_eq_true rfl) d_Part_init_6 (fun H locs hP hD hS => ?_)
  refine lv_aload_n hx hb d_Part_init_9 rfl (lv_at hl 0 rfl) ?_
  refine lv_iload_n hx hb d_Part_init_10 rfl (lv_at hl 2 rfl) ?_
  refine va_put (D := D) (ci := 1) (v := .int (nI c)) (ty := .int) (C := R_Part) (T := F_Part) (N := 3) hx hb hwA hin_Part t_Part t_Part_ok n_Part hown hK hP hD hS 0 rfl rfl 1 (by decide) (hwA (.fieldLink R_Part 13 "HopArena$Part" "capacity" "I") m_68) (fun _ h9 => h9) rfl (by decide +kernel) rfl rfl (Nat.le_of_ble_eq_true rfl) d_Part_init_11 (fun H locs hP hD hS => ?_)
  refine lv_aload_n hx hb d_Part_init_14 rfl (lv_at hl 0 rfl) ?_
  refine lv_iload_n hx hb d_Part_init_15 rfl (lv_at hl 3 rfl) ?_
  refine va_put (D := D) (ci := 1) (v := .int (sd)) (ty := .int) (C := R_Part) (T := F_Part) (N := 3) hx hb hwA hin_Part t_Part t_Part_ok n_Part hown hK hP hD hS 0 rfl rfl 2 (by decide) (hwA (.fieldLink R_Part 16 "HopArena$Part" "seed" "I") m_70) (fun _ h9 => h9) rfl (by decide +kernel) rfl rfl (Nat.le_of_ble_eq_true rfl) d_Part_init_16 (fun H locs hP hD hS => ?_)
  exact W.vret hx hb hr (fun t ht hW => ⟨rfl, by rw [ht]; exact hP, hS.F ht⟩) hS.2.2 d_Part_init_19
def q4 (x0 x1 x2 x3 : Nat) : Nat → Nat := fun i => if i = 0 then x0 else if i = 1 then x1 else if i = 2 then x2 else x3
def a6 (x0 x1 x2 x3 x4 x5 : Nat) : Nat → Nat := fun i => if i = 0 then x0 else if i = 1 then x1 else if i = 2 then x2 else if i = 3 then x3 else if i = 4 then x4 else x5
theorem pA_mk (x0 x1 x2 x3 : Nat) : va_up (va_up (va_up (fun _ => none) 0 (some x0)) 1 (some x1)) 2 (some x2) = pA (q4 x0 x1 x2 x3) := by
  funext i
  by_cases h : i < 3
  · rcases (show i = 0 ∨ i = 1 ∨ i = 2 by omega) with rfl | rfl | rfl <;> rfl
  · have h0 : i ≠ 0 := by omega
    have h1 : i ≠ 1 := by omega
    have h2 : i ≠ 2 := by omega
    unfold pA
    rw [va_up_ne _ _ h2, va_up_ne _ _ h1, va_up_ne _ _ h0, if_neg h]
def iB : Nat → Nat := fun i => if i = 3 then 0 else i * 8
def iP : Nat → Nat := fun _ => 8
def iS : IT := fun i => if i = 3 then 0 else nI (i + 1)
def hI_Q (D : va_G) (h0 : Nat) (A : Nat → Prop) : Array Value → State → Outcome → State → Prop := fun _ st o t => o = .returned none ∧ ∃ ca a q : Nat → Nat, a 0 = h0 ∧ va_P D hCl (wH ca a q (fun _ => 0) (fun _ => 0) (fun _ => false) (fun _ => 0) iB iP iS) t.heap ∧ va_K D hCl (tyH ca) t ∧ va_D A (wH ca a q (fun _ => 0) (fun _ => 0) (fun _ => false) (fun _ => 0) iB iP iS) ∧ va_F A st t
set_option maxHeartbeats 4000000 in
set_option maxRecDepth 100000 in
/-- HopArena() -/
theorem c_Hop_init (l : Launch) (D : va_G) (h0 sz : Nat) : Met l y_Hop_init w_Hop_init (rmD 2 9 786) (va_Pc [.ref h0] (fun U => va_AO R_Part U ∧ U.heap.size = sz ∧ va_P D hCl [(h0, .inr (0, [.null, .null, .null, .null, .null, .null]))] U.heap ∧ va_K D hCl [] U ∧ va_D (fun _ => True) [(h0, .inr (0, [.null, .null, .null, .null, .null, .null]))])) (hI_Q D h0 (va_A [(h0, .inr (0, [.null, .null, .null, .null, .null, .null]))] sz)) 9 786 (va_A [(h0, .inr (0, [.null, .null, .null, .null, .null, .null]))] sz) := by
  refine Met.ofW (cc := b_Hop_init) (maxL := 2) (ret := none) (by decide) rfl ?_
  intro p e s m args below meth c0 s₁ B0 hml hv
  obtain ⟨rfl, hAO, hsz, hP, hK, hD0⟩ := hv
  have hx := B0.exec
  have hb := B0.bytes
  have hr := B0.returns
  have hts := atoms_spec (ws := w_Hop_init) B0.pre
  have hown : s.vm.findClass R_Hop = some m.cls := findClass_of_methodNamed B0.named
  have hlocks := B0.notSynchronized
  have hwA : ∀ w ∈ wsA, w.before ([.ref h0] : List Value).toArray s = true := fun w h => hts w (List.mem_cons_of_mem _ h)
  have X : CallFix p m c0 b_Hop_init 2 s ([.ref h0] : List Value).toArray wsA R_Hop := ⟨hx, hb, hml, hown, hwA⟩
  have hl := lv_entry ([.ref h0]) (n := 2) (Nat.le_of_ble_eq_true rfl)
  rw [lg_entry_eq]
  generalize (lg_sl ([.ref h0]) ++ List.replicate (2 - (lg_sl ([.ref h0])).length) Slot.unset).toArray = ls at hl ⊢
  have hl : lv_has ls 2 [(0, .ref h0)] := hl
  have hin : meth.name = "<init>" := (name_of_methodNamed B0.named B0.method).1
  subst hsz
  have hD := hD0.self (sz := s.heap.size)
  generalize hAe : va_A [(h0, .inr (0, [.null, .null, .null, .null, .null, .null]))] s.heap.size = A at hD ⊢
  have hAA : ∀ q : Nat, s.heap.size ≤ q → A q := fun q h => by rw [← hAe]; exact Or.inr h
  have hS : va_S A s.heap s.heap [] := va_S.rf
  refine lv_aload_n hx hb d_Hop_init_0 rfl (lv_at hl 0 rfl) ?_
  refine W.objInit hx hb hown (hwA (.methodLink R_Hop 1 objectInit) m_56) (hwA (.instanceMethod objectInit) m_57) (hwA (.code objectInit ⟨#[0xb1]⟩ 1 none) oi_code) rfl (by rw [hml]; exact hl.1) rfl d_Hop_init_1 (Nat.le_of_ble_eq_true rfl) (Nat.le_of_ble_eq_true rfl) ?_
  refine W.eq (g2 := F0 m 4 ls []) rfl ?_
  refine lv_aload_n hx hb d_Hop_init_4 rfl (lv_at hl 0 rfl) ?_
  refine lv_sipush (v := 256) hx hb d_Hop_init_5 (by decide) ?_
  refine va_newa (atype := .int) (ty := .int) (N' := 256) (a0 := (256, .inl (fun _ => 0))) hx hb (hwA (.arrayClass .int) m_79) rfl hK hP hD hS hAA (fun cA => rfl) (by decide) (by decide) (by decide) (Nat.le_of_ble_eq_true rfl) (Nat.le_of_ble_eq_true rfl) d_Hop_init_8 (fun x1 c1 H hK hP hD hS => ?_)
  have hP : va_P D hCl [(h0, .inr (0, [.null, .null, .null, .null, .null, .null])), (x1, .inl (c1, 256, .inl (fun _ => 0)))] H := hP
  have hD : va_D A [(h0, .inr (0, [.null, .null, .null, .null, .null, .null])), (x1, .inl (c1, 256, .inl (fun _ => 0)))] := hD
  refine va_putF (D := D) (ci := 0) (v := .ref x1) (ty := .array .int) (C := R_Hop) (T := F_Hop) (N := 6) hx hb hwA hin_Hop t_Hop t_Hop_ok n_Hop hown hK hP hD hS 0 rfl rfl 0 (by decide) (hwA (.fieldLink R_Hop 9 "HopArena" "keys" "[I") m_81) (fun _ h9 => h9) rfl hin rfl (by decide +kernel) rfl rfl (Nat.le_of_ble_eq_true rfl) d_Hop_init_10 (fun H locs hP hD hS => ?_)
  have hP : va_P D hCl [(h0, .inr (0, [.ref x1, .null, .null, .null, .null, .null])), (x1, .inl (c1, 256, .inl (fun _ => 0)))] H := hP
  have hD : va_D A [(h0, .inr (0, [.ref x1, .null, .null, .null, .null, .null])), (x1, .inl (c1, 256, .inl (fun _ => 0)))] := hD
  refine lv_aload_n hx hb d_Hop_init_13 rfl (lv_at hl 0 rfl) ?_
  refine lv_sipush (v := 256) hx hb d_Hop_init_14 (by decide) ?_
  refine va_newa (atype := .int) (ty := .int) (N' := 256) (a0 := (256, .inl (fun _ => 0))) hx hb (hwA (.arrayClass .int) m_79) rfl hK hP hD hS hAA (fun cA => rfl) (by decide) (by decide) (by decide) (Nat.le_of_ble_eq_true rfl) (Nat.le_of_ble_eq_true rfl) d_Hop_init_17 (fun x2 c2 H hK hP hD hS => ?_)
  have hP : va_P D hCl [(h0, .inr (0, [.ref x1, .null, .null, .null, .null, .null])), (x1, .inl (c1, 256, .inl (fun _ => 0))), (x2, .inl (c2, 256, .inl (fun _ => 0)))] H := hP
  have hD : va_D A [(h0, .inr (0, [.ref x1, .null, .null, .null, .null, .null])), (x1, .inl (c1, 256, .inl (fun _ => 0))), (x2, .inl (c2, 256, .inl (fun _ => 0)))] := hD
  refine va_putF (D := D) (ci := 0) (v := .ref x2) (ty := .array .int) (C := R_Hop) (T := F_Hop) (N := 6) hx hb hwA hin_Hop t_Hop t_Hop_ok n_Hop hown hK hP hD hS 0 rfl rfl 1 (by decide) (hwA (.fieldLink R_Hop 13 "HopArena" "values" "[I") m_82) (fun _ h9 => h9) rfl hin rfl (by decide +kernel) rfl rfl (Nat.le_of_ble_eq_true rfl) d_Hop_init_19 (fun H locs hP hD hS => ?_)
  have hP : va_P D hCl [(h0, .inr (0, [.ref x1, .ref x2, .null, .null, .null, .null])), (x1, .inl (c1, 256, .inl (fun _ => 0))), (x2, .inl (c2, 256, .inl (fun _ => 0)))] H := hP
  have hD : va_D A [(h0, .inr (0, [.ref x1, .ref x2, .null, .null, .null, .null])), (x1, .inl (c1, 256, .inl (fun _ => 0))), (x2, .inl (c2, 256, .inl (fun _ => 0)))] := hD
  refine lv_aload_n hx hb d_Hop_init_22 rfl (lv_at hl 0 rfl) ?_
  refine lv_sipush (v := 256) hx hb d_Hop_init_23 (by decide) ?_
  refine va_newa (atype := .boolean) (ty := .boolean) (N' := 256) (a0 := (256, .inl (fun _ => 0))) hx hb (hwA (.arrayClass .boolean) m_80) rfl hK hP hD hS hAA (fun cA => rfl) (by decide) (by decide) (by decide) (Nat.le_of_ble_eq_true rfl) (Nat.le_of_ble_eq_true rfl) d_Hop_init_26 (fun x3 c3 H hK hP hD hS => ?_)
  have hP : va_P D hCl [(h0, .inr (0, [.ref x1, .ref x2, .null, .null, .null, .null])), (x1, .inl (c1, 256, .inl (fun _ => 0))), (x2, .inl (c2, 256, .inl (fun _ => 0))), (x3, .inl (c3, 256, .inl (fun _ => 0)))] H := hP
  have hD : va_D A [(h0, .inr (0, [.ref x1, .ref x2, .null, .null, .null, .null])), (x1, .inl (c1, 256, .inl (fun _ => 0))), (x2, .inl (c2, 256, .inl (fun _ => 0))), (x3, .inl (c3, 256, .inl (fun _ => 0)))] := hD
  refine va_putF (D := D) (ci := 0) (v := .ref x3) (ty := .array .boolean) (C := R_Hop) (T := F_Hop) (N := 6) hx hb hwA hin_Hop t_Hop t_Hop_ok n_Hop hown hK hP hD hS 0 rfl rfl 2 (by decide) (hwA (.fieldLink R_Hop 16 "HopArena" "taken" "[Z") m_83) (fun _ h9 => h9) rfl hin rfl (by decide +kernel) rfl rfl (Nat.le_of_ble_eq_true rfl) d_Hop_init_28 (fun H locs hP hD hS => ?_)
  have hP : va_P D hCl [(h0, .inr (0, [.ref x1, .ref x2, .ref x3, .null, .null, .null])), (x1, .inl (c1, 256, .inl (fun _ => 0))), (x2, .inl (c2, 256, .inl (fun _ => 0))), (x3, .inl (c3, 256, .inl (fun _ => 0)))] H := hP
  have hD : va_D A [(h0, .inr (0, [.ref x1, .ref x2, .ref x3, .null, .null, .null])), (x1, .inl (c1, 256, .inl (fun _ => 0))), (x2, .inl (c2, 256, .inl (fun _ => 0))), (x3, .inl (c3, 256, .inl (fun _ => 0)))] := hD
  refine lv_aload_n hx hb d_Hop_init_31 rfl (lv_at hl 0 rfl) ?_
  refine lv_iconst (v := 3) hx hb d_Hop_init_32 (by decide) ?_
  refine va_newa (atype := .int) (ty := .int) (N' := 3) (a0 := (3, .inl (fun _ => 0))) hx hb (hwA (.arrayClass .int) m_79) rfl hK hP hD hS hAA (fun cA => rfl) (by decide) (by decide) (by decide) (Nat.le_of_ble_eq_true rfl) (Nat.le_of_ble_eq_true rfl) d_Hop_init_33 (fun x5 c5 H hK hP hD hS => ?_)
  have hP : va_P D hCl [(h0, .inr (0, [.ref x1, .ref x2, .ref x3, .null, .null, .null])), (x1, .inl (c1, 256, .inl (fun _ => 0))), (x2, .inl (c2, 256, .inl (fun _ => 0))), (x3, .inl (c3, 256, .inl (fun _ => 0))), (x5, .inl (c5, 3, .inl (fun _ => 0)))] H := hP
  have hD : va_D A [(h0, .inr (0, [.ref x1, .ref x2, .ref x3, .null, .null, .null])), (x1, .inl (c1, 256, .inl (fun _ => 0))), (x2, .inl (c2, 256, .inl (fun _ => 0))), (x3, .inl (c3, 256, .inl (fun _ => 0))), (x5, .inl (c5, 3, .inl (fun _ => 0)))] := hD
  refine va_putF (D := D) (ci := 0) (v := .ref x5) (ty := .array .int) (C := R_Hop) (T := F_Hop) (N := 6) hx hb hwA hin_Hop t_Hop t_Hop_ok n_Hop hown hK hP hD hS 0 rfl rfl 4 (by decide) (hwA (.fieldLink R_Hop 20 "HopArena" "counts" "[I") m_85) (fun _ h9 => h9) rfl hin rfl (by decide +kernel) rfl rfl (Nat.le_of_ble_eq_true rfl) d_Hop_init_35 (fun H locs hP hD hS => ?_)
  have hP : va_P D hCl [(h0, .inr (0, [.ref x1, .ref x2, .ref x3, .null, .ref x5, .null])), (x1, .inl (c1, 256, .inl (fun _ => 0))), (x2, .inl (c2, 256, .inl (fun _ => 0))), (x3, .inl (c3, 256, .inl (fun _ => 0))), (x5, .inl (c5, 3, .inl (fun _ => 0)))] H := hP
  have hD : va_D A [(h0, .inr (0, [.ref x1, .ref x2, .ref x3, .null, .ref x5, .null])), (x1, .inl (c1, 256, .inl (fun _ => 0))), (x2, .inl (c2, 256, .inl (fun _ => 0))), (x3, .inl (c3, 256, .inl (fun _ => 0))), (x5, .inl (c5, 3, .inl (fun _ => 0)))] := hD
  refine lv_aload_n hx hb d_Hop_init_38 rfl (lv_at hl 0 rfl) ?_
  refine lv_iconst (v := 3) hx hb d_Hop_init_39 (by decide) ?_
  refine va_newq (N' := 3) hx hb hown (hwA (.classLink R_Hop 23 R_Part) m_59) hAO hK hP hD hS hAA (by decide) (by decide) (by decide) (Nat.le_of_ble_eq_true rfl) (Nat.le_of_ble_eq_true rfl) d_Hop_init_40 (fun x4 c4 H hK hP hD hS => ?_)
  have hP : va_P D hCl [(h0, .inr (0, [.ref x1, .ref x2, .ref x3, .null, .ref x5, .null])), (x1, .inl (c1, 256, .inl (fun _ => 0))), (x2, .inl (c2, 256, .inl (fun _ => 0))), (x3, .inl (c3, 256, .inl (fun _ => 0))), (x5, .inl (c5, 3, .inl (fun _ => 0))), (x4, .inl (c4, 3, .inr (.inr (.inr (.inr (fun _ => none))))))] H := hP
  have hD : va_D A [(h0, .inr (0, [.ref x1, .ref x2, .ref x3, .null, .ref x5, .null])), (x1, .inl (c1, 256, .inl (fun _ => 0))), (x2, .inl (c2, 256, .inl (fun _ => 0))), (x3, .inl (c3, 256, .inl (fun _ => 0))), (x5, .inl (c5, 3, .inl (fun _ => 0))), (x4, .inl (c4, 3, .inr (.inr (.inr (.inr (fun _ => none))))))] := hD
  refine va_putF (D := D) (ci := 0) (v := .ref x4) (ty := .array (.object "HopArena$Part")) (C := R_Hop) (T := F_Hop) (N := 6) hx hb hwA hin_Hop t_Hop t_Hop_ok n_Hop hown hK hP hD hS 0 rfl rfl 3 (by decide) (hwA (.fieldLink R_Hop 25 "HopArena" "parts" "[LHopArena$Part;") m_84) (fun _ h9 => h9) rfl hin rfl (by decide +kernel) rfl rfl (Nat.le_of_ble_eq_true rfl) d_Hop_init_43 (fun H locs hP hD hS => ?_)
  have hP : va_P D hCl [(h0, .inr (0, [.ref x1, .ref x2, .ref x3, .ref x4, .ref x5, .null])), (x1, .inl (c1, 256, .inl (fun _ => 0))), (x2, .inl (c2, 256, .inl (fun _ => 0))), (x3, .inl (c3, 256, .inl (fun _ => 0))), (x5, .inl (c5, 3, .inl (fun _ => 0))), (x4, .inl (c4, 3, .inr (.inr (.inr (.inr (fun _ => none))))))] H := hP
  have hD : va_D A [(h0, .inr (0, [.ref x1, .ref x2, .ref x3, .ref x4, .ref x5, .null])), (x1, .inl (c1, 256, .inl (fun _ => 0))), (x2, .inl (c2, 256, .inl (fun _ => 0))), (x3, .inl (c3, 256, .inl (fun _ => 0))), (x5, .inl (c5, 3, .inl (fun _ => 0))), (x4, .inl (c4, 3, .inr (.inr (.inr (.inr (fun _ => none))))))] := hD
  refine lv_iconst (v := 0) hx hb d_Hop_init_46 (by decide) ?_
  refine lv_istore_n (lv' := [(1, .int 0), (0, .ref h0)]) hx hb d_Hop_init_47 rfl hl (by decide) rfl (fun ls hl => ?_)
  refine lv_iload_n hx hb d_Hop_init_48 rfl (lv_at hl 0 rfl) ?_
  refine lv_iconst (v := 3) hx hb d_Hop_init_49 (by decide) ?_
  refine lvF_icmp_ge (tgt := 81) hx hb d_Hop_init_50 (by decide) (by decide) ?_
  refine lv_aload_n hx hb d_Hop_init_53 rfl (lv_at hl 1 rfl) ?_
  refine va_get (D := D) (ci := 0) (v := .ref x4) (C := R_Hop) (T := F_Hop) (N := 6) hx hb hwA hin_Hop hown hK hP 0 rfl rfl 3 (by decide) (hwA (.fieldLink R_Hop 25 "HopArena" "parts" "[LHopArena$Part;") m_84) (fun _ h9 => h9) rfl d_Hop_init_54 ?_
  refine lv_iload_n hx hb d_Hop_init_57 rfl (lv_at hl 0 rfl) ?_
  refine va_new (ci := 1) (fs := [.int 0, .int 0, .int 0]) (C := R_Part) (T := F_Part) (N := 3) hx hb hwA hin_Part t_Part t_Part_ok hown (hwA (.classLink R_Hop 23 R_Part) m_59) (hwA (.instantiable R_Part 3) m_61) (hwA (.initialized R_Part) m_41) hK hP hD hS hAA rfl (fun j hj => by rcases (show j = 0 ∨ j = 1 ∨ j = 2 by omega) with rfl | rfl | rfl <;> rfl) (Nat.le_of_ble_eq_true rfl) (Nat.le_of_ble_eq_true rfl) d_Hop_init_58 (fun y0 H hP hD hS => ?_)
  have hP : va_P D hCl [(h0, .inr (0, [.ref x1, .ref x2, .ref x3, .ref x4, .ref x5, .null])), (x1, .inl (c1, 256, .inl (fun _ => 0))), (x2, .inl (c2, 256, .inl (fun _ => 0))), (x3, .inl (c3, 256, .inl (fun _ => 0))), (x5, .inl (c5, 3, .inl (fun _ => 0))), (x4, .inl (c4, 3, .inr (.inr (.inr (.inr (fun _ => none)))))), (y0, .inr (1, [.int 0, .int 0, .int 0]))] H := hP
  have hD : va_D A [(h0, .inr (0, [.ref x1, .ref x2, .ref x3, .ref x4, .ref x5, .null])), (x1, .inl (c1, 256, .inl (fun _ => 0))), (x2, .inl (c2, 256, .inl (fun _ => 0))), (x3, .inl (c3, 256, .inl (fun _ => 0))), (x5, .inl (c5, 3, .inl (fun _ => 0))), (x4, .inl (c4, 3, .inr (.inr (.inr (.inr (fun _ => none)))))), (y0, .inr (1, [.int 0, .int 0, .int 0]))] := hD
  refine lv_dup hx hb d_Hop_init_61 rfl ?_
  refine lv_iload_n hx hb d_Hop_init_62 rfl (lv_at hl 0 rfl) ?_
  refine lv_bipush (v := 8) hx hb d_Hop_init_63 (by decide) ?_
  refine lv_imul hx hb d_Hop_init_65 ?_
  refine lv_tope (y := nI 0) (by decide) ?_
  refine lv_bipush (v := 8) hx hb d_Hop_init_66 (by decide) ?_
  refine lv_iload_n hx hb d_Hop_init_68 rfl (lv_at hl 0 rfl) ?_
  refine lv_iconst (v := 1) hx hb d_Hop_init_69 (by decide) ?_
  refine lv_iadd hx hb d_Hop_init_70 ?_
  refine lv_tope (y := nI 1) (by decide) ?_
  refine hw_one (i := 6) (v := none) (va_runI (As := [.int (nI 0), .int (nI 8), .int (nI 1)]) (rest := [.ref y0, .int 0, .ref x4]) X (c_Part_init l D y0 0 8 (nI 1)) (cwI 3 hwA (gI (gC m_64)) rfl rfl rfl (hwA (.initialized R_Part) m_41) (hwA (.methodLink R_Hop 29 y_Part_init) m_62) (hwA (.instanceMethod y_Part_init) m_63) rfl (by decide +kernel) ⟨Nat.le_of_ble_eq_true rfl, Nat.le_of_ble_eq_true rfl⟩) ⟨hb_blindW, fun U hU hW => ⟨rfl, by rw [hU]; exact hP.sub [6] rfl, va_K.moved hW.alike (hK.sub [] rfl), (hD.sub (ws' := [(y0, .inr (1, [.int 0, .int 0, .int 0]))]) [6] (by decide) rfl).weaken (fun _ _ _ _ => trivial)⟩⟩ rfl rfl hl.1 rfl (lv_room (Nat.le_of_ble_eq_true rfl)) d_Hop_init_71 ⟨Nat.le_of_ble_eq_true rfl, Nat.le_of_ble_eq_true rfl⟩) hP hD hS rfl (fun H locs hP hD hS => ?_)
  have hP : va_P D hCl [(h0, .inr (0, [.ref x1, .ref x2, .ref x3, .ref x4, .ref x5, .null])), (x1, .inl (c1, 256, .inl (fun _ => 0))), (x2, .inl (c2, 256, .inl (fun _ => 0))), (x3, .inl (c3, 256, .inl (fun _ => 0))), (x5, .inl (c5, 3, .inl (fun _ => 0))), (x4, .inl (c4, 3, .inr (.inr (.inr (.inr (fun _ => none)))))), (y0, pt 0 8 (nI 1))] H := hP
  have hD : va_D A [(h0, .inr (0, [.ref x1, .ref x2, .ref x3, .ref x4, .ref x5, .null])), (x1, .inl (c1, 256, .inl (fun _ => 0))), (x2, .inl (c2, 256, .inl (fun _ => 0))), (x3, .inl (c3, 256, .inl (fun _ => 0))), (x5, .inl (c5, 3, .inl (fun _ => 0))), (x4, .inl (c4, 3, .inr (.inr (.inr (.inr (fun _ => none)))))), (y0, pt 0 8 (nI 1))] := hD
  refine va_astq (r := (R_Part, F_Part, 3)) hx hb hK hP hD hS 5 4 6 1 rfl rfl rfl rfl (vp_in_nI (n := 0) (by decide) (by decide)) d_Hop_init_74 (fun H locs hP hD hS => ?_)
  have hP : va_P D hCl [(h0, .inr (0, [.ref x1, .ref x2, .ref x3, .ref x4, .ref x5, .null])), (x1, .inl (c1, 256, .inl (fun _ => 0))), (x2, .inl (c2, 256, .inl (fun _ => 0))), (x3, .inl (c3, 256, .inl (fun _ => 0))), (x5, .inl (c5, 3, .inl (fun _ => 0))), (x4, .inl (c4, 3, .inr (.inr (.inr (.inr (va_up (fun _ => none) 0 (some y0))))))), (y0, pt 0 8 (nI 1))] H := hP
  have hD : va_D A [(h0, .inr (0, [.ref x1, .ref x2, .ref x3, .ref x4, .ref x5, .null])), (x1, .inl (c1, 256, .inl (fun _ => 0))), (x2, .inl (c2, 256, .inl (fun _ => 0))), (x3, .inl (c3, 256, .inl (fun _ => 0))), (x5, .inl (c5, 3, .inl (fun _ => 0))), (x4, .inl (c4, 3, .inr (.inr (.inr (.inr (va_up (fun _ => none) 0 (some y0))))))), (y0, pt 0 8 (nI 1))] := hD
  refine lv_iinc (k := 0) (v := 1) (lv' := [(1, .int 1), (0, .ref h0)]) hx hb d_Hop_init_75 hl rfl (by decide) (by decide) rfl (fun ls hl => ?_)
  refine lv_goto (tgt := 48) hx hb d_Hop_init_78 (by decide) ?_
  refine lv_iload_n hx hb d_Hop_init_48 rfl (lv_at hl 0 rfl) ?_
  refine lv_iconst (v := 3) hx hb d_Hop_init_49 (by decide) ?_
  refine lvF_icmp_ge (tgt := 81) hx hb d_Hop_init_50 (by decide) (by decide) ?_
  refine lv_aload_n hx hb d_Hop_init_53 rfl (lv_at hl 1 rfl) ?_
  refine va_get (D := D) (ci := 0) (v := .ref x4) (C := R_Hop) (T := F_Hop) (N := 6) hx hb hwA hin_Hop hown hK hP 0 rfl rfl 3 (by decide) (hwA (.fieldLink R_Hop 25 "HopArena" "parts" "[LHopArena$Part;") m_84) (fun _ h9 => h9) rfl d_Hop_init_54 ?_
  refine lv_iload_n hx hb d_Hop_init_57 rfl (lv_at hl 0 rfl) ?_
  refine va_new (ci := 1) (fs := [.int 0, .int 0, .int 0]) (C := R_Part) (T := F_Part) (N := 3) hx hb hwA hin_Part t_Part t_Part_ok hown (hwA (.classLink R_Hop 23 R_Part) m_59) (hwA (.instantiable R_Part 3) m_61) (hwA (.initialized R_Part) m_41) hK hP hD hS hAA rfl (fun j hj => by rcases (show j = 0 ∨ j = 1 ∨ j = 2 by omega) with rfl | rfl | rfl <;> rfl) (Nat.le_of_ble_eq_true rfl) (Nat.le_of_ble_eq_true rfl) d_Hop_init_58 (fun y1 H hP hD hS => ?_)
  have hP : va_P D hCl [(h0, .inr (0, [.ref x1, .ref x2, .ref x3, .ref x4, .ref x5, .null])), (x1, .inl (c1, 256, .inl (fun _ => 0))), (x2, .inl (c2, 256, .inl (fun _ => 0))), (x3, .inl (c3, 256, .inl (fun _ => 0))), (x5, .inl (c5, 3, .inl (fun _ => 0))), (x4, .inl (c4, 3, .inr (.inr (.inr (.inr (va_up (fun _ => none) 0 (some y0))))))), (y0, pt 0 8 (nI 1)), (y1, .inr (1, [.int 0, .int 0, .int 0]))] H := hP
  have hD : va_D A [(h0, .inr (0, [.ref x1, .ref x2, .ref x3, .ref x4, .ref x5, .null])), (x1, .inl (c1, 256, .inl (fun _ => 0))), (x2, .inl (c2, 256, .inl (fun _ => 0))), (x3, .inl (c3, 256, .inl (fun _ => 0))), (x5, .inl (c5, 3, .inl (fun _ => 0))), (x4, .inl (c4, 3, .inr (.inr (.inr (.inr (va_up (fun _ => none) 0 (some y0))))))), (y0, pt 0 8 (nI 1)), (y1, .inr (1, [.int 0, .int 0, .int 0]))] := hD
  refine lv_dup hx hb d_Hop_init_61 rfl ?_
  refine lv_iload_n hx hb d_Hop_init_62 rfl (lv_at hl 0 rfl) ?_
  refine lv_bipush (v := 8) hx hb d_Hop_init_63 (by decide) ?_
  refine lv_imul hx hb d_Hop_init_65 ?_
  refine lv_tope (y := nI 8) (by decide) ?_
  refine lv_bipush (v := 8) hx hb d_Hop_init_66 (by decide) ?_
  refine lv_iload_n hx hb d_Hop_init_68 rfl (lv_at hl 0 rfl) ?_
  refine lv_iconst (v := 1) hx hb d_Hop_init_69 (by decide) ?_
  refine lv_iadd hx hb d_Hop_init_70 ?_
  refine lv_tope (y := nI 2) (by decide) ?_
  refine hw_one (i := 7) (v := none) (va_runI (As := [.int (nI 8), .int (nI 8), .int (nI 2)]) (rest := [.ref y1, .int 1, .ref x4]) X (c_Part_init l D y1 8 8 (nI 2)) (cwI 3 hwA (gI (gC m_64)) rfl rfl rfl (hwA (.initialized R_Part) m_41) (hwA (.methodLink R_Hop 29 y_Part_init) m_62) (hwA (.instanceMethod y_Part_init) m_63) rfl (by decide +kernel) ⟨Nat.le_of_ble_eq_true rfl, Nat.le_of_ble_eq_true rfl⟩) ⟨hb_blindW, fun U hU hW => ⟨rfl, by rw [hU]; exact hP.sub [7] rfl, va_K.moved hW.alike (hK.sub [] rfl), (hD.sub (ws' := [(y1, .inr (1, [.int 0, .int 0, .int 0]))]) [7] (by decide) rfl).weaken (fun _ _ _ _ => trivial)⟩⟩ rfl rfl hl.1 rfl (lv_room (Nat.le_of_ble_eq_true rfl)) d_Hop_init_71 ⟨Nat.le_of_ble_eq_true rfl, Nat.le_of_ble_eq_true rfl⟩) hP hD hS rfl (fun H locs hP hD hS => ?_)
  have hP : va_P D hCl [(h0, .inr (0, [.ref x1, .ref x2, .ref x3, .ref x4, .ref x5, .null])), (x1, .inl (c1, 256, .inl (fun _ => 0))), (x2, .inl (c2, 256, .inl (fun _ => 0))), (x3, .inl (c3, 256, .inl (fun _ => 0))), (x5, .inl (c5, 3, .inl (fun _ => 0))), (x4, .inl (c4, 3, .inr (.inr (.inr (.inr (va_up (fun _ => none) 0 (some y0))))))), (y0, pt 0 8 (nI 1)), (y1, pt 8 8 (nI 2))] H := hP
  have hD : va_D A [(h0, .inr (0, [.ref x1, .ref x2, .ref x3, .ref x4, .ref x5, .null])), (x1, .inl (c1, 256, .inl (fun _ => 0))), (x2, .inl (c2, 256, .inl (fun _ => 0))), (x3, .inl (c3, 256, .inl (fun _ => 0))), (x5, .inl (c5, 3, .inl (fun _ => 0))), (x4, .inl (c4, 3, .inr (.inr (.inr (.inr (va_up (fun _ => none) 0 (some y0))))))), (y0, pt 0 8 (nI 1)), (y1, pt 8 8 (nI 2))] := hD
  refine va_astq (r := (R_Part, F_Part, 3)) hx hb hK hP hD hS 5 4 7 1 rfl rfl rfl rfl (vp_in_nI (n := 1) (by decide) (by decide)) d_Hop_init_74 (fun H locs hP hD hS => ?_)
  have hP : va_P D hCl [(h0, .inr (0, [.ref x1, .ref x2, .ref x3, .ref x4, .ref x5, .null])), (x1, .inl (c1, 256, .inl (fun _ => 0))), (x2, .inl (c2, 256, .inl (fun _ => 0))), (x3, .inl (c3, 256, .inl (fun _ => 0))), (x5, .inl (c5, 3, .inl (fun _ => 0))), (x4, .inl (c4, 3, .inr (.inr (.inr (.inr (va_up (va_up (fun _ => none) 0 (some y0)) 1 (some y1))))))), (y0, pt 0 8 (nI 1)), (y1, pt 8 8 (nI 2))] H := hP
  have hD : va_D A [(h0, .inr (0, [.ref x1, .ref x2, .ref x3, .ref x4, .ref x5, .null])), (x1, .inl (c1, 256, .inl (fun _ => 0))), (x2, .inl (c2, 256, .inl (fun _ => 0))), (x3, .inl (c3, 256, .inl (fun _ => 0))), (x5, .inl (c5, 3, .inl (fun _ => 0))), (x4, .inl (c4, 3, .inr (.inr (.inr (.inr (va_up (va_up (fun _ => none) 0 (some y0)) 1 (some y1))))))), (y0, pt 0 8 (nI 1)), (y1, pt 8 8 (nI 2))] := hD
  refine lv_iinc (k := 0) (v := 2) (lv' := [(1, .int 2), (0, .ref h0)]) hx hb d_Hop_init_75 hl rfl (by decide) (by decide) rfl (fun ls hl => ?_)
  refine lv_goto (tgt := 48) hx hb d_Hop_init_78 (by decide) ?_
  refine lv_iload_n hx hb d_Hop_init_48 rfl (lv_at hl 0 rfl) ?_
  refine lv_iconst (v := 3) hx hb d_Hop_init_49 (by decide) ?_
  refine lvF_icmp_ge (tgt := 81) hx hb d_Hop_init_50 (by decide) (by decide) ?_
  refine lv_aload_n hx hb d_Hop_init_53 rfl (lv_at hl 1 rfl) ?_
  refine va_get (D := D) (ci := 0) (v := .ref x4) (C := R_Hop) (T := F_Hop) (N := 6) hx hb hwA hin_Hop hown hK hP 0 rfl rfl 3 (by decide) (hwA (.fieldLink R_Hop 25 "HopArena" "parts" "[LHopArena$Part;") m_84) (fun _ h9 => h9) rfl d_Hop_init_54 ?_
  refine lv_iload_n hx hb d_Hop_init_57 rfl (lv_at hl 0 rfl) ?_
  refine va_new (ci := 1) (fs := [.int 0, .int 0, .int 0]) (C := R_Part) (T := F_Part) (N := 3) hx hb hwA hin_Part t_Part t_Part_ok hown (hwA (.classLink R_Hop 23 R_Part) m_59) (hwA (.instantiable R_Part 3) m_61) (hwA (.initialized R_Part) m_41) hK hP hD hS hAA rfl (fun j hj => by rcases (show j = 0 ∨ j = 1 ∨ j = 2 by omega) with rfl | rfl | rfl <;> rfl) (Nat.le_of_ble_eq_true rfl) (Nat.le_of_ble_eq_true rfl) d_Hop_init_58 (fun y2 H hP hD hS => ?_)
  have hP : va_P D hCl [(h0, .inr (0, [.ref x1, .ref x2, .ref x3, .ref x4, .ref x5, .null])), (x1, .inl (c1, 256, .inl (fun _ => 0))), (x2, .inl (c2, 256, .inl (fun _ => 0))), (x3, .inl (c3, 256, .inl (fun _ => 0))), (x5, .inl (c5, 3, .inl (fun _ => 0))), (x4, .inl (c4, 3, .inr (.inr (.inr (.inr (va_up (va_up (fun _ => none) 0 (some y0)) 1 (some y1))))))), (y0, pt 0 8 (nI 1)), (y1, pt 8 8 (nI 2)), (y2, .inr (1, [.int 0, .int 0, .int 0]))] H := hP
  have hD : va_D A [(h0, .inr (0, [.ref x1, .ref x2, .ref x3, .ref x4, .ref x5, .null])), (x1, .inl (c1, 256, .inl (fun _ => 0))), (x2, .inl (c2, 256, .inl (fun _ => 0))), (x3, .inl (c3, 256, .inl (fun _ => 0))), (x5, .inl (c5, 3, .inl (fun _ => 0))), (x4, .inl (c4, 3, .inr (.inr (.inr (.inr (va_up (va_up (fun _ => none) 0 (some y0)) 1 (some y1))))))), (y0, pt 0 8 (nI 1)), (y1, pt 8 8 (nI 2)), (y2, .inr (1, [.int 0, .int 0, .int 0]))] := hD
  refine lv_dup hx hb d_Hop_init_61 rfl ?_
  refine lv_iload_n hx hb d_Hop_init_62 rfl (lv_at hl 0 rfl) ?_
  refine lv_bipush (v := 8) hx hb d_Hop_init_63 (by decide) ?_
  refine lv_imul hx hb d_Hop_init_65 ?_
  refine lv_tope (y := nI 16) (by decide) ?_
  refine lv_bipush (v := 8) hx hb d_Hop_init_66 (by decide) ?_
  refine lv_iload_n hx hb d_Hop_init_68 rfl (lv_at hl 0 rfl) ?_
  refine lv_iconst (v := 1) hx hb d_Hop_init_69 (by decide) ?_
  refine lv_iadd hx hb d_Hop_init_70 ?_
  refine lv_tope (y := nI 3) (by decide) ?_
  refine hw_one (i := 8) (v := none) (va_runI (As := [.int (nI 16), .int (nI 8), .int (nI 3)]) (rest := [.ref y2, .int 2, .ref x4]) X (c_Part_init l D y2 16 8 (nI 3)) (cwI 3 hwA (gI (gC m_64)) rfl rfl rfl (hwA (.initialized R_Part) m_41) (hwA (.methodLink R_Hop 29 y_Part_init) m_62) (hwA (.instanceMethod y_Part_init) m_63) rfl (by decide +kernel) ⟨Nat.le_of_ble_eq_true rfl, Nat.le_of_ble_eq_true rfl⟩) ⟨hb_blindW, fun U hU hW => ⟨rfl, by rw [hU]; exact hP.sub [8] rfl, va_K.moved hW.alike (hK.sub [] rfl), (hD.sub (ws' := [(y2, .inr (1, [.int 0, .int 0, .int 0]))]) [8] (by decide) rfl).weaken (fun _ _ _ _ => trivial)⟩⟩ rfl rfl hl.1 rfl (lv_room (Nat.le_of_ble_eq_true rfl)) d_Hop_init_71 ⟨Nat.le_of_ble_eq_true rfl, Nat.le_of_ble_eq_true rfl⟩) hP hD hS rfl (fun H locs hP hD hS => ?_)
  have hP : va_P D hCl [(h0, .inr (0, [.ref x1, .ref x2, .ref x3, .ref x4, .ref x5, .null])), (x1, .inl (c1, 256, .inl (fun _ => 0))), (x2, .inl (c2, 256, .inl (fun _ => 0))), (x3, .inl (c3, 256, .inl (fun _ => 0))), (x5, .inl (c5, 3, .inl (fun _ => 0))), (x4, .inl (c4, 3, .inr (.inr (.inr (.inr (va_up (va_up (fun _ => none) 0 (some y0)) 1 (some y1))))))), (y0, pt 0 8 (nI 1)), (y1, pt 8 8 (nI 2)), (y2, pt 16 8 (nI 3))] H := hP
  have hD : va_D A [(h0, .inr (0, [.ref x1, .ref x2, .ref x3, .ref x4, .ref x5, .null])), (x1, .inl (c1, 256, .inl (fun _ => 0))), (x2, .inl (c2, 256, .inl (fun _ => 0))), (x3, .inl (c3, 256, .inl (fun _ => 0))), (x5, .inl (c5, 3, .inl (fun _ => 0))), (x4, .inl (c4, 3, .inr (.inr (.inr (.inr (va_up (va_up (fun _ => none) 0 (some y0)) 1 (some y1))))))), (y0, pt 0 8 (nI 1)), (y1, pt 8 8 (nI 2)), (y2, pt 16 8 (nI 3))] := hD
  refine va_astq (r := (R_Part, F_Part, 3)) hx hb hK hP hD hS 5 4 8 1 rfl rfl rfl rfl (vp_in_nI (n := 2) (by decide) (by decide)) d_Hop_init_74 (fun H locs hP hD hS => ?_)
  have hP : va_P D hCl [(h0, .inr (0, [.ref x1, .ref x2, .ref x3, .ref x4, .ref x5, .null])), (x1, .inl (c1, 256, .inl (fun _ => 0))), (x2, .inl (c2, 256, .inl (fun _ => 0))), (x3, .inl (c3, 256, .inl (fun _ => 0))), (x5, .inl (c5, 3, .inl (fun _ => 0))), (x4, .inl (c4, 3, .inr (.inr (.inr (.inr (va_up (va_up (va_up (fun _ => none) 0 (some y0)) 1 (some y1)) 2 (some y2))))))), (y0, pt 0 8 (nI 1)), (y1, pt 8 8 (nI 2)), (y2, pt 16 8 (nI 3))] H := hP
  have hD : va_D A [(h0, .inr (0, [.ref x1, .ref x2, .ref x3, .ref x4, .ref x5, .null])), (x1, .inl (c1, 256, .inl (fun _ => 0))), (x2, .inl (c2, 256, .inl (fun _ => 0))), (x3, .inl (c3, 256, .inl (fun _ => 0))), (x5, .inl (c5, 3, .inl (fun _ => 0))), (x4, .inl (c4, 3, .inr (.inr (.inr (.inr (va_up (va_up (va_up (fun _ => none) 0 (some y0)) 1 (some y1)) 2 (some y2))))))), (y0, pt 0 8 (nI 1)), (y1, pt 8 8 (nI 2)), (y2, pt 16 8 (nI 3))] := hD
  refine lv_iinc (k := 0) (v := 3) (lv' := [(1, .int 3), (0, .ref h0)]) hx hb d_Hop_init_75 hl rfl (by decide) (by decide) rfl (fun ls hl => ?_)
  refine lv_goto (tgt := 48) hx hb d_Hop_init_78 (by decide) ?_
  refine lv_iload_n hx hb d_Hop_init_48 rfl (lv_at hl 0 rfl) ?_
  refine lv_iconst (v := 3) hx hb d_Hop_init_49 (by decide) ?_
  refine lvT_icmp_ge (tgt := 81) hx hb d_Hop_init_50 (by decide) (by decide) ?_
  refine lv_aload_n hx hb d_Hop_init_81 rfl (lv_at hl 1 rfl) ?_
  refine va_new (ci := 1) (fs := [.int 0, .int 0, .int 0]) (C := R_Part) (T := F_Part) (N := 3) hx hb hwA hin_Part t_Part t_Part_ok hown (hwA (.classLink R_Hop 23 R_Part) m_59) (hwA (.instantiable R_Part 3) m_61) (hwA (.initialized R_Part) m_41) hK hP hD hS hAA rfl (fun j hj => by rcases (show j = 0 ∨ j = 1 ∨ j = 2 by omega) with rfl | rfl | rfl <;> rfl) (Nat.le_of_ble_eq_true rfl) (Nat.le_of_ble_eq_true rfl) d_Hop_init_82 (fun y3 H hP hD hS => ?_)
  have hP : va_P D hCl [(h0, .inr (0, [.ref x1, .ref x2, .ref x3, .ref x4, .ref x5, .null])), (x1, .inl (c1, 256, .inl (fun _ => 0))), (x2, .inl (c2, 256, .inl (fun _ => 0))), (x3, .inl (c3, 256, .inl (fun _ => 0))), (x5, .inl (c5, 3, .inl (fun _ => 0))), (x4, .inl (c4, 3, .inr (.inr (.inr (.inr (va_up (va_up (va_up (fun _ => none) 0 (some y0)) 1 (some y1)) 2 (some y2))))))), (y0, pt 0 8 (nI 1)), (y1, pt 8 8 (nI 2)), (y2, pt 16 8 (nI 3)), (y3, .inr (1, [.int 0, .int 0, .int 0]))] H := hP
  have hD : va_D A [(h0, .inr (0, [.ref x1, .ref x2, .ref x3, .ref x4, .ref x5, .null])), (x1, .inl (c1, 256, .inl (fun _ => 0))), (x2, .inl (c2, 256, .inl (fun _ => 0))), (x3, .inl (c3, 256, .inl (fun _ => 0))), (x5, .inl (c5, 3, .inl (fun _ => 0))), (x4, .inl (c4, 3, .inr (.inr (.inr (.inr (va_up (va_up (va_up (fun _ => none) 0 (some y0)) 1 (some y1)) 2 (some y2))))))), (y0, pt 0 8 (nI 1)), (y1, pt 8 8 (nI 2)), (y2, pt 16 8 (nI 3)), (y3, .inr (1, [.int 0, .int 0, .int 0]))] := hD
  refine lv_dup hx hb d_Hop_init_85 rfl ?_
  refine lv_iconst (v := 0) hx hb d_Hop_init_86 (by decide) ?_
  refine lv_bipush (v := 8) hx hb d_Hop_init_87 (by decide) ?_
  refine lv_iconst (v := 0) hx hb d_Hop_init_89 (by decide) ?_
  refine hw_one (i := 9) (v := none) (va_runI (As := [.int (nI 0), .int (nI 8), .int (0)]) (rest := [.ref y3, .ref h0]) X (c_Part_init l D y3 0 8 (0)) (cwI 3 hwA (gI (gC m_64)) rfl rfl rfl (hwA (.initialized R_Part) m_41) (hwA (.methodLink R_Hop 29 y_Part_init) m_62) (hwA (.instanceMethod y_Part_init) m_63) rfl (by decide +kernel) ⟨Nat.le_of_ble_eq_true rfl, Nat.le_of_ble_eq_true rfl⟩) ⟨hb_blindW, fun U hU hW => ⟨rfl, by rw [hU]; exact hP.sub [9] rfl, va_K.moved hW.alike (hK.sub [] rfl), (hD.sub (ws' := [(y3, .inr (1, [.int 0, .int 0, .int 0]))]) [9] (by decide) rfl).weaken (fun _ _ _ _ => trivial)⟩⟩ rfl rfl hl.1 rfl (lv_room (Nat.le_of_ble_eq_true rfl)) d_Hop_init_90 ⟨Nat.le_of_ble_eq_true rfl, Nat.le_of_ble_eq_true rfl⟩) hP hD hS rfl (fun H locs hP hD hS => ?_)
  have hP : va_P D hCl [(h0, .inr (0, [.ref x1, .ref x2, .ref x3, .ref x4, .ref x5, .null])), (x1, .inl (c1, 256, .inl (fun _ => 0))), (x2, .inl (c2, 256, .inl (fun _ => 0))), (x3, .inl (c3, 256, .inl (fun _ => 0))), (x5, .inl (c5, 3, .inl (fun _ => 0))), (x4, .inl (c4, 3, .inr (.inr (.inr (.inr (va_up (va_up (va_up (fun _ => none) 0 (some y0)) 1 (some y1)) 2 (some y2))))))), (y0, pt 0 8 (nI 1)), (y1, pt 8 8 (nI 2)), (y2, pt 16 8 (nI 3)), (y3, pt 0 8 (0))] H := hP
  have hD : va_D A [(h0, .inr (0, [.ref x1, .ref x2, .ref x3, .ref x4, .ref x5, .null])), (x1, .inl (c1, 256, .inl (fun _ => 0))), (x2, .inl (c2, 256, .inl (fun _ => 0))), (x3, .inl (c3, 256, .inl (fun _ => 0))), (x5, .inl (c5, 3, .inl (fun _ => 0))), (x4, .inl (c4, 3, .inr (.inr (.inr (.inr (va_up (va_up (va_up (fun _ => none) 0 (some y0)) 1 (some y1)) 2 (some y2))))))), (y0, pt 0 8 (nI 1)), (y1, pt 8 8 (nI 2)), (y2, pt 16 8 (nI 3)), (y3, pt 0 8 (0))] := hD
  refine va_put (D := D) (ci := 0) (v := .ref y3) (ty := .object "HopArena$Part") (C := R_Hop) (T := F_Hop) (N := 6) hx hb hwA hin_Hop t_Hop t_Hop_ok n_Hop hown hK hP hD hS 0 rfl rfl 5 (by decide) (hwA (.fieldLink R_Hop 32 "HopArena" "spare" "LHopArena$Part;") m_86) (fun _ h9 => h9) rfl (by decide +kernel) rfl rfl (Nat.le_of_ble_eq_true rfl) d_Hop_init_93 (fun H locs hP hD hS => ?_)
  have hP : va_P D hCl [(h0, .inr (0, [.ref x1, .ref x2, .ref x3, .ref x4, .ref x5, .ref y3])), (x1, .inl (c1, 256, .inl (fun _ => 0))), (x2, .inl (c2, 256, .inl (fun _ => 0))), (x3, .inl (c3, 256, .inl (fun _ => 0))), (x5, .inl (c5, 3, .inl (fun _ => 0))), (x4, .inl (c4, 3, .inr (.inr (.inr (.inr (va_up (va_up (va_up (fun _ => none) 0 (some y0)) 1 (some y1)) 2 (some y2))))))), (y0, pt 0 8 (nI 1)), (y1, pt 8 8 (nI 2)), (y2, pt 16 8 (nI 3)), (y3, pt 0 8 (0))] H := hP
  have hD : va_D A [(h0, .inr (0, [.ref x1, .ref x2, .ref x3, .ref x4, .ref x5, .ref y3])), (x1, .inl (c1, 256, .inl (fun _ => 0))), (x2, .inl (c2, 256, .inl (fun _ => 0))), (x3, .inl (c3, 256, .inl (fun _ => 0))), (x5, .inl (c5, 3, .inl (fun _ => 0))), (x4, .inl (c4, 3, .inr (.inr (.inr (.inr (va_up (va_up (va_up (fun _ => none) 0 (some y0)) 1 (some y1)) 2 (some y2))))))), (y0, pt 0 8 (nI 1)), (y1, pt 8 8 (nI 2)), (y2, pt 16 8 (nI 3)), (y3, pt 0 8 (0))] := hD
  rw [pA_mk y0 y1 y2 y3] at hP hD
  have hP : va_P D hCl (wH (a6 0 c1 c2 c3 c4 c5) (a6 h0 x1 x2 x3 x4 x5) (q4 y0 y1 y2 y3) (fun _ => 0) (fun _ => 0) (fun _ => false) (fun _ => 0) iB iP iS) H := hP.sub [0, 1, 2, 3, 5, 4, 6, 7, 8, 9] rfl
  have hD : va_D A (wH (a6 0 c1 c2 c3 c4 c5) (a6 h0 x1 x2 x3 x4 x5) (q4 y0 y1 y2 y3) (fun _ => 0) (fun _ => 0) (fun _ => false) (fun _ => 0) iB iP iS) := hD.sub [0, 1, 2, 3, 5, 4, 6, 7, 8, 9] (by decide) rfl
  have hK : va_K D hCl (tyH (a6 0 c1 c2 c3 c4 c5)) s := hK.sub [0, 1, 2, 4, 3] rfl
  refine W.widen (k := 9) (n := 786) (Nat.le_of_ble_eq_true rfl) (Nat.le_of_ble_eq_true rfl) ?_
  exact W.vret hx hb hr (fun t ht hW => ⟨rfl, _, _, _, rfl, by rw [ht]; exact hP, va_K.moved hW.alike hK, hD, hS.F ht⟩) hS.2.2 d_Hop_init_96
