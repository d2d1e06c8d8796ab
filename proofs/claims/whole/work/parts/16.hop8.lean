theorem psh_bd {P : Nat → Nat} : ∀ (n f : Nat) (Y : YS), (∀ i, i < 3 → Y.2.2.2 i + P i ≤ 256) → ∀ i, i < 3 → (psh P n f Y).2.2.2 i + P i ≤ 256 := by
  intro n
  induction n with
  | zero =>
    intro f Y h
    exact h
  | succ n ih =>
    intro f Y h
    cases hq : lowS Y.2.2.2 f 3 with
    | none =>
      rw [psh_n hq]
      exact ih f Y h
    | some r =>
      rw [psh_s hq]
      have h3 := lowS_lt _ _ hq
      exact ih _ _ (up_bd h h3.2 h3.1)
abbrev HS : Type := IT × IT × BT × IT × (Nat → Nat) × (Nat → Nat) × IT
def layY (cp : Nat) (Z : HS) : YS × IT := if 256 < lastE Z.2.2.2.2.1 Z.2.2.2.2.2.1 + cp then (psh Z.2.2.2.2.2.1 3 0 (Z.1, Z.2.1, Z.2.2.1, Z.2.2.2.2.1), upd Z.2.2.2.1 2 (Z.2.2.2.1 2 + 1)) else ((Z.1, Z.2.1, Z.2.2.1, Z.2.2.2.2.1), Z.2.2.2.1)
def layE (cp : Nat) (sd : Int32) (P : Nat → Nat) (S : IT) (Y : YS × IT) : HS := (Y.1.1, Y.1.2.1, clr Y.1.2.2.1 (lastE Y.1.2.2.2 P) cp, upd Y.2 1 (Y.2 1 + 1), va_up Y.1.2.2.2 3 (lastE Y.1.2.2.2 P), va_up P 3 cp, upd S 3 sd)
def lay (cp : Nat) (sd : Int32) (Z : HS) : HS := layE cp sd Z.2.2.2.2.2.1 Z.2.2.2.2.2.2 (layY cp Z)
set_option maxHeartbeats 4000000 in
set_option maxRecDepth 100000 in
/-- layOut: the spare part becomes the next new one -/
theorem c_Hop_layOut (l : Launch) (D : va_G) (ca a q : Nat → Nat) (K V : IT) (T : BT) (C : IT) (B P : Nat → Nat) (S : IT) (cp : Nat) (sd : Int32) (hb0 : B 0 + P 0 ≤ 256) (hb1 : B 1 + P 1 ≤ 256) (hb2 : B 2 + P 2 ≤ 256) (hcp : cp ≤ 128) (hfit : lastE (layY cp (K, V, T, C, B, P, S)).1.2.2.2 P + cp ≤ 256) : Met l y_Hop_layOut w_Hop_layOut (rmD 3 0 0) (va_Pc [.ref (a 0), .ref (q 3), .int (nI cp), .int sd] (hb_W D hCl (wH ca a q K V T C B P S) (tyH ca))) (hq_W (none) D hCl (wH ca a q (lay cp sd (K, V, T, C, B, P, S)).1 (lay cp sd (K, V, T, C, B, P, S)).2.1 (lay cp sd (K, V, T, C, B, P, S)).2.2.1 (lay cp sd (K, V, T, C, B, P, S)).2.2.2.1 (lay cp sd (K, V, T, C, B, P, S)).2.2.2.2.1 (lay cp sd (K, V, T, C, B, P, S)).2.2.2.2.2.1 (lay cp sd (K, V, T, C, B, P, S)).2.2.2.2.2.2) (hA (wH ca a q K V T C B P S))) 0 0 (hA (wH ca a q K V T C B P S)) := by
  refine Met.ofW (cc := b_Hop_layOut) (maxL := 4) (ret := none) (by decide) rfl ?_
  intro p e s m args below meth c0 s₁ B0 hml hv
  obtain ⟨rfl, hP, hK, hD0⟩ := hv
  have hx := B0.exec
  have hb := B0.bytes
  have hr := B0.returns
  have hts := atoms_spec (ws := w_Hop_layOut) B0.pre
  have hown : s.vm.findClass R_Hop = some m.cls := findClass_of_methodNamed B0.named
  have hlocks := B0.notSynchronized
  have hwA : ∀ w ∈ wsA, w.before ([.ref (a 0), .ref (q 3), .int (nI cp), .int sd] : List Value).toArray s = true := fun w h => hts w (List.mem_cons_of_mem _ h)
  have X : CallFix p m c0 b_Hop_layOut 4 s ([.ref (a 0), .ref (q 3), .int (nI cp), .int sd] : List Value).toArray wsA R_Hop := ⟨hx, hb, hml, hown, hwA⟩
  have hD := hA_D hD0
  have hS : va_S (hA (wH ca a q K V T C B P S)) s.heap s.heap [] := va_S.rf
  have hl := lv_entry ([.ref (a 0), .ref (q 3), .int (nI cp), .int sd]) (n := 4) (Nat.le_of_ble_eq_true rfl)
  rw [lg_entry_eq]
  generalize (lg_sl ([.ref (a 0), .ref (q 3), .int (nI cp), .int sd]) ++ List.replicate (4 - (lg_sl ([.ref (a 0), .ref (q 3), .int (nI cp), .int sd])).length) Slot.unset).toArray = ls at hl ⊢
  have hl : lv_has ls 4 [(0, .ref (a 0)), (1, .ref (q 3)), (2, .int (nI cp)), (3, .int sd)] := hl
  have hb3 : ∀ i, i < 3 → B i + P i ≤ 256 := fun i hi => by rcases (show i = 0 ∨ i = 1 ∨ i = 2 by omega) with rfl | rfl | rfl <;> assumption
  have hl3 : lastE B P ≤ 256 := by unfold lastE; omega
  have tail : ∀ (H : Heap) (locs : List Loc) (K' V' : IT) (T' : BT) (C' : IT) (B' : Nat → Nat), (∀ i, i < 3 → B' i + P i ≤ 256) → layY cp (K, V, T, C, B, P, S) = ((K', V', T', B'), C') → va_P D hCl (wH ca a q K' V' T' C' B' P S) H → va_D (hA (wH ca a q K V T C B P S)) (wH ca a q K' V' T' C' B' P S) → va_S (hA (wH ca a q K V T C B P S)) s.heap H locs → W p l e (headSpec w_Hop_layOut (rmD 3 0 0)).room s m ([.ref (a 0), .ref (q 3), .int (nI cp), .int sd] : List Value).toArray below meth c0 H locs 0 0 (MQ below (hq_W (none) D hCl (wH ca a q (lay cp sd (K, V, T, C, B, P, S)).1 (lay cp sd (K, V, T, C, B, P, S)).2.1 (lay cp sd (K, V, T, C, B, P, S)).2.2.1 (lay cp sd (K, V, T, C, B, P, S)).2.2.2.1 (lay cp sd (K, V, T, C, B, P, S)).2.2.2.2.1 (lay cp sd (K, V, T, C, B, P, S)).2.2.2.2.2.1 (lay cp sd (K, V, T, C, B, P, S)).2.2.2.2.2.2) (hA (wH ca a q K V T C B P S))) ([.ref (a 0), .ref (q 3), .int (nI cp), .int sd] : List Value).toArray s 0 0 (hA (wH ca a q K V T C B P S))) (F0 m 16 ls []) := by
    intro H locs K' V' T' C' B' hb4 hE hP hD hS
    have hft : lastE B' P + cp ≤ 256 := by rw [hE] at hfit; exact hfit
    refine lv_aload_n hx hb d_Hop_layOut_16 rfl (lv_at hl 1 rfl) ?_
    refine lv_aload_n hx hb d_Hop_layOut_17 rfl (lv_at hl 0 rfl) ?_
    refine k_lastEnd X hK hP hl.1 (hb4 0 (by decide)) (hb4 1 (by decide)) (hb4 2 (by decide)) (Nat.le_of_ble_eq_true rfl) ⟨Nat.zero_le _, Nat.zero_le _⟩ ⟨Nat.le_of_ble_eq_true rfl, Nat.le_of_ble_eq_true rfl⟩ d_Hop_layOut_18 ?_
    refine hp_base X hK hP hD hS (x := lastE B' P) (by decide) d_Hop_layOut_21 (fun H locs hP hD hS => ?_)
    refine lv_aload_n hx hb d_Hop_layOut_24 rfl (lv_at hl 1 rfl) ?_
    refine lv_iload_n hx hb d_Hop_layOut_25 rfl (lv_at hl 2 rfl) ?_
    refine hp_capacity X hK hP hD hS (x := cp) (by decide) d_Hop_layOut_26 (fun H locs hP hD hS => ?_)
    refine lv_aload_n hx hb d_Hop_layOut_29 rfl (lv_at hl 1 rfl) ?_
    refine lv_iload_n hx hb d_Hop_layOut_30 rfl (lv_at hl 3 rfl) ?_
    refine hp_seed X hK hP hD hS (x := sd) (by decide) d_Hop_layOut_31 (fun H locs hP hD hS => ?_)
    refine lv_aload_n hx hb d_Hop_layOut_34 rfl (lv_at hl 0 rfl) ?_
    refine lv_aload_n hx hb d_Hop_layOut_35 rfl (lv_at hl 1 rfl) ?_
    refine k_freeAll X hK hP hD hS hl.1 (by decide) (by rw [va_up_self, va_up_self]; exact hft) (Nat.le_of_ble_eq_true rfl) ⟨Nat.zero_le _, Nat.zero_le _⟩ ⟨Nat.le_of_ble_eq_true rfl, Nat.le_of_ble_eq_true rfl⟩ d_Hop_layOut_36 (fun H locs hP hD hS => ?_)
    refine lv_aload_n hx hb d_Hop_layOut_39 rfl (lv_at hl 0 rfl) ?_
    refine hg_counts X hK hP d_Hop_layOut_40 ?_
    refine lv_iconst (v := 1) hx hb d_Hop_layOut_43 (by decide) ?_
    refine lv_dup2_11 hx hb d_Hop_layOut_44 rfl rfl ?_
    refine hl_C X hK hP (i := 1) (by decide) d_Hop_layOut_45 ?_
    refine lv_iconst (v := 1) hx hb d_Hop_layOut_46 (by decide) ?_
    refine lv_iadd hx hb d_Hop_layOut_47 ?_
    refine hs_C X hK hP hD hS (i := 1) (x := (C' (1)) + (1)) (by decide) d_Hop_layOut_48 (fun H locs hP hD hS => ?_)
    have hR1 : (lay cp sd (K, V, T, C, B, P, S)) = layE cp sd P S ((K', V', T', B'), C') := by show layE cp sd P S (layY cp (K, V, T, C, B, P, S)) = _; rw [hE]
    exact W.vret hx hb hr (fun t ht hW => ⟨rfl, by rw [ht, hR1]; exact hP, hS.F ht⟩) hS.2.2 d_Hop_layOut_49
  refine lv_aload_n hx hb d_Hop_layOut_0 rfl (lv_at hl 0 rfl) ?_
  refine k_lastEnd X hK hP hl.1 hb0 hb1 hb2 (Nat.le_of_ble_eq_true rfl) ⟨Nat.zero_le _, Nat.zero_le _⟩ ⟨Nat.le_of_ble_eq_true rfl, Nat.le_of_ble_eq_true rfl⟩ d_Hop_layOut_1 ?_
  refine lv_iload_n hx hb d_Hop_layOut_4 rfl (lv_at hl 2 rfl) ?_
  refine lv_iadd hx hb d_Hop_layOut_5 ?_
  refine lv_tope (y := nI (lastE B P + cp)) (nI_add _ _) ?_
  refine lv_sipush (v := 256) hx hb d_Hop_layOut_6 (by decide) ?_
  refine lv_icmp_le (tgt := 16) hx hb d_Hop_layOut_9 (by decide) (fun h1 => ?_) (fun h1 => ?_)
  · have h2 : ¬ 256 < lastE B P + cp := Nat.not_lt.mpr ((nI_leI (a := lastE B P + cp) (b := 256) (by omega) (by omega)).mp h1)
    exact tail s.heap [] K V T C B hb3 (if_neg h2) hP hD hS
  · have h2 : 256 < lastE B P + cp := Nat.not_le.mp (fun z => h1 ((nI_leI (a := lastE B P + cp) (b := 256) (by omega) (by omega)).mpr z))
    refine lv_aload_n hx hb d_Hop_layOut_12 rfl (lv_at hl 0 rfl) ?_
    refine k_pushTogether X hK hP hD hS hl.1 hb0 hb1 hb2 (Nat.le_of_ble_eq_true rfl) ⟨Nat.zero_le _, Nat.zero_le _⟩ ⟨Nat.le_of_ble_eq_true rfl, Nat.le_of_ble_eq_true rfl⟩ d_Hop_layOut_13 (fun H locs hP hD hS => ?_)
    exact tail H locs _ _ _ _ _ (psh_bd 3 0 (K, V, T, B) hb3) (if_pos h2) hP hD hS
section HKB
variable {p : Program} {l : Launch} {e : Env} {R : Room} {s : State} {m : MethodId} {args : Array Value} {below : List Frame} {meth : Method} {c : Code} {H : Heap} {locs : List Loc} {cells slots : Nat} {Q : State → Prop}
variable {cc : ByteArray} {pc nL : Nat} {ls : Array Slot} {rest st0 : List Value} {D : va_G} {A : Nat → Prop} {H0 : Heap} {ca a q : Nat → Nat} {K V : IT} {T : BT} {C : IT} {B P : Nat → Nat} {S : IT}
theorem k_layOut (X : CallFix p m c cc nL s args wsA R_Hop) (hK : va_K D hCl (tyH ca) s) (hP : va_P D hCl (wH ca a q K V T C B P S) H) (hD : va_D A (wH ca a q K V T C B P S)) (hS : va_S A H0 H locs) (hsz : ls.size = nL) {cp : Nat} {sd : Int32} (hb0 : B 0 + P 0 ≤ 256) (hb1 : B 1 + P 1 ≤ 256) (hb2 : B 2 + P 2 ≤ 256) (hcp : cp ≤ 128) (hfit : lastE (layY cp (K, V, T, C, B, P, S)).1.2.2.2 P + cp ≤ 256) (hrm : (rest.map fun v => v.category).sum ≤ 8) (hf : cells ≤ R.cells ∧ slots ≤ R.slots) (hR : 4 ≤ R.frames ∧ 120 ≤ R.locals) (d : decode cc pc = .ok (.invokevirtual 141, 3)) (k : ∀ (H1 : Heap) (locs1 : List Loc), va_P D hCl (wH ca a q (lay cp sd (K, V, T, C, B, P, S)).1 (lay cp sd (K, V, T, C, B, P, S)).2.1 (lay cp sd (K, V, T, C, B, P, S)).2.2.1 (lay cp sd (K, V, T, C, B, P, S)).2.2.2.1 (lay cp sd (K, V, T, C, B, P, S)).2.2.2.2.1 (lay cp sd (K, V, T, C, B, P, S)).2.2.2.2.2.1 (lay cp sd (K, V, T, C, B, P, S)).2.2.2.2.2.2) H1 → va_D A (wH ca a q (lay cp sd (K, V, T, C, B, P, S)).1 (lay cp sd (K, V, T, C, B, P, S)).2.1 (lay cp sd (K, V, T, C, B, P, S)).2.2.1 (lay cp sd (K, V, T, C, B, P, S)).2.2.2.1 (lay cp sd (K, V, T, C, B, P, S)).2.2.2.2.1 (lay cp sd (K, V, T, C, B, P, S)).2.2.2.2.2.1 (lay cp sd (K, V, T, C, B, P, S)).2.2.2.2.2.2) → va_S A H0 H1 locs1 → W p l e R s m args below meth c H1 locs1 cells slots Q (F0 m (pc + 3) ls (rest))) : W p l e R s m args below meth c H locs cells slots Q (F0 m pc ls (.int sd :: .int (nI cp) :: .ref (q 3) :: .ref (a 0) :: rest)) :=
  hw_V (As := [.ref (q 3), .int (nI cp), .int sd]) (v := none) (C := R_Hop) X (c_Hop_layOut l D ca a q K V T C B P S cp sd hb0 hb1 hb2 hcp hfit) (cwV 3 X.2.2.2.2 g_Hop_layOut rfl rfl rfl (by decide +kernel) ⟨by show 3 + 1 ≤ _; omega, by show 8 + (4 + 11) + 30 * 3 ≤ _; omega⟩) hP hK hD hS wH_a (va_recv (q0 := 0) (ci := 0) (q := (R_Hop, F_Hop, 6)) hK hP rfl rfl) rfl hsz rfl hrm hf d k
end HKB
