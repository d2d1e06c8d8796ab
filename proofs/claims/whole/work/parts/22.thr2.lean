def rowB (f : Nat → Bool) : Nat → Int32
  | 0 => 0
  | n + 1 => if f n = true then rowB f n ||| ((1 : Int32) <<< (nI n &&& 31)) else rowB f n
def nxF (T : BT) (o c : Nat) : Nat → Nat → Option Nat
  | _, 0 => none
  | i, n + 1 => if T (o + i % c) = true then some i else nxF T o c (i + 1) n
theorem oI_b {r : Option Nat} (h : ∀ k, r = some k → k < 2 ^ 31) : oI r = -1 ↔ r = none := by
  cases r with
  | none => exact ⟨fun _ => rfl, fun _ => rfl⟩
  | some k => exact ⟨fun z => absurd z (nI_m1 (h k rfl)), fun z => nomatch z⟩
theorem fnd_lt {T : BT} {K : IT} {o c h : Nat} {key : Int32} (hc : pw c) (hb : o + c ≤ 256) : ∀ (n i k : Nat), fnd T K o c h key i n = some k → k < 256 := by
  intro n
  induction n with
  | zero =>
    intro i k hq
    cases hq
  | succ n ih =>
    intro i k hq
    have hq : (if T (o + (h + i) % c) = true ∧ K (o + (h + i) % c) = key then some (o + (h + i) % c) else fnd T K o c h key (i + 1) n) = some k := hq
    by_cases hz : T (o + (h + i) % c) = true ∧ K (o + (h + i) % c) = key
    · rw [if_pos hz] at hq
      cases hq
      exact sl_lt hc hb
    · rw [if_neg hz] at hq
      exact ih (i + 1) k hq
set_option maxHeartbeats 4000000 in
set_option maxRecDepth 100000 in
/-- put: there is no such map -/
theorem c_Hop_put_bad (l : Launch) (hlt : l.stackTraces = false) (D : va_G) (ca a q : Nat → Nat) (K V : IT) (T : BT) (C : IT) (B P : Nat → Nat) (S : IT) (sa : Nat → Nat) (mm : Int32) (key val : Int32) (hm : mm < 0 ∨ nI 3 ≤ mm) : vx_Met l y_Hop_put w_Hop_put (rmD 7 2 12) (va_Pc [.ref (a 0), .int mm, .int key, .int val] (hb_X D hCl (wH ca a q K V T C B P S) (tyH ca) sa)) (hX_Q (.inr "java/lang/IndexOutOfBoundsException") D hCl (wH ca a q K V T C B P S) (hA (wH ca a q K V T C B P S))) (hX_X (.inr "java/lang/IndexOutOfBoundsException") D hCl (wH ca a q K V T C B P S) (hA (wH ca a q K V T C B P S))) 2 12 (hA (wH ca a q K V T C B P S)) := by
  refine vx_ofW (cc := b_Hop_put) (maxL := 6) (ret := some .boolean) (by decide) rfl ?_
  intro p e s m args below meth c0 s₁ B0 hml hnt hv
  obtain ⟨rfl, hP, hK, hD0, hF, hZ⟩ := hv
  have hx := B0.exec
  have hb := B0.bytes
  have hr := B0.returns
  have hts := atoms_spec (ws := w_Hop_put) B0.pre
  have hown : s.vm.findClass R_Hop = some m.cls := findClass_of_methodNamed B0.named
  have hlocks := B0.notSynchronized
  have hwA : ∀ w ∈ wsA, w.before ([.ref (a 0), .int mm, .int key, .int val] : List Value).toArray s = true := fun w h => hts w (List.mem_cons_of_mem _ h)
  have X : CallFix p m c0 b_Hop_put 6 s ([.ref (a 0), .int mm, .int key, .int val] : List Value).toArray wsA R_Hop := ⟨hx, hb, hml, hown, hwA⟩
  have hD := hA_D hD0
  have hS : va_S (hA (wH ca a q K V T C B P S)) s.heap s.heap [] := va_S.rf
  have hl := lv_entry ([.ref (a 0), .int mm, .int key, .int val]) (n := 6) (Nat.le_of_ble_eq_true rfl)
  rw [lg_entry_eq]
  generalize (lg_sl ([.ref (a 0), .int mm, .int key, .int val]) ++ List.replicate (6 - (lg_sl ([.ref (a 0), .int mm, .int key, .int val])).length) Slot.unset).toArray = ls at hl ⊢
  have hl : lv_has ls 6 [(0, .ref (a 0)), (1, .int mm), (2, .int key), (3, .int val)] := hl
  refine lv_aload_n hx hb d_Hop_put_0 rfl (lv_at hl 0 rfl) ?_
  refine lv_iload_n hx hb d_Hop_put_1 rfl (lv_at hl 1 rfl) ?_
  exact k_partOf_bad X hlt hK hP hD hS hF hZ hl.1 hm (Nat.le_of_ble_eq_true rfl) ⟨Nat.le_of_ble_eq_true rfl, Nat.le_of_ble_eq_true rfl⟩ ⟨Nat.le_of_ble_eq_true rfl, Nat.le_of_ble_eq_true rfl⟩ d_Hop_put_2 hnt hlocks (Nat.le_of_ble_eq_true rfl) (Nat.le_of_ble_eq_true rfl)
set_option maxHeartbeats 4000000 in
set_option maxRecDepth 100000 in
/-- get: there is no such map -/
theorem c_Hop_get_bad (l : Launch) (hlt : l.stackTraces = false) (D : va_G) (ca a q : Nat → Nat) (K V : IT) (T : BT) (C : IT) (B P : Nat → Nat) (S : IT) (sa : Nat → Nat) (mm : Int32) (key : Int32) (hm : mm < 0 ∨ nI 3 ≤ mm) : vx_Met l y_Hop_get w_Hop_get (rmD 7 2 12) (va_Pc [.ref (a 0), .int mm, .int key] (hb_X D hCl (wH ca a q K V T C B P S) (tyH ca) sa)) (hX_Q (.inr "java/lang/IndexOutOfBoundsException") D hCl (wH ca a q K V T C B P S) (hA (wH ca a q K V T C B P S))) (hX_X (.inr "java/lang/IndexOutOfBoundsException") D hCl (wH ca a q K V T C B P S) (hA (wH ca a q K V T C B P S))) 2 12 (hA (wH ca a q K V T C B P S)) := by
  refine vx_ofW (cc := b_Hop_get) (maxL := 3) (ret := some .int) (by decide) rfl ?_
  intro p e s m args below meth c0 s₁ B0 hml hnt hv
  obtain ⟨rfl, hP, hK, hD0, hF, hZ⟩ := hv
  have hx := B0.exec
  have hb := B0.bytes
  have hr := B0.returns
  have hts := atoms_spec (ws := w_Hop_get) B0.pre
  have hown : s.vm.findClass R_Hop = some m.cls := findClass_of_methodNamed B0.named
  have hlocks := B0.notSynchronized
  have hwA : ∀ w ∈ wsA, w.before ([.ref (a 0), .int mm, .int key] : List Value).toArray s = true := fun w h => hts w (List.mem_cons_of_mem _ h)
  have X : CallFix p m c0 b_Hop_get 3 s ([.ref (a 0), .int mm, .int key] : List Value).toArray wsA R_Hop := ⟨hx, hb, hml, hown, hwA⟩
  have hD := hA_D hD0
  have hS : va_S (hA (wH ca a q K V T C B P S)) s.heap s.heap [] := va_S.rf
  have hl := lv_entry ([.ref (a 0), .int mm, .int key]) (n := 3) (Nat.le_of_ble_eq_true rfl)
  rw [lg_entry_eq]
  generalize (lg_sl ([.ref (a 0), .int mm, .int key]) ++ List.replicate (3 - (lg_sl ([.ref (a 0), .int mm, .int key])).length) Slot.unset).toArray = ls at hl ⊢
  have hl : lv_has ls 3 [(0, .ref (a 0)), (1, .int mm), (2, .int key)] := hl
  refine lv_aload_n hx hb d_Hop_get_0 rfl (lv_at hl 0 rfl) ?_
  refine hg_values X hK hP d_Hop_get_1 ?_
  refine lv_aload_n hx hb d_Hop_get_4 rfl (lv_at hl 0 rfl) ?_
  refine lv_aload_n hx hb d_Hop_get_5 rfl (lv_at hl 0 rfl) ?_
  refine lv_iload_n hx hb d_Hop_get_6 rfl (lv_at hl 1 rfl) ?_
  exact k_partOf_bad X hlt hK hP hD hS hF hZ hl.1 hm (Nat.le_of_ble_eq_true rfl) ⟨Nat.le_of_ble_eq_true rfl, Nat.le_of_ble_eq_true rfl⟩ ⟨Nat.le_of_ble_eq_true rfl, Nat.le_of_ble_eq_true rfl⟩ d_Hop_get_7 hnt hlocks (Nat.le_of_ble_eq_true rfl) (Nat.le_of_ble_eq_true rfl)
set_option maxHeartbeats 4000000 in
set_option maxRecDepth 100000 in
/-- remove: there is no such map -/
theorem c_Hop_remove_bad (l : Launch) (hlt : l.stackTraces = false) (D : va_G) (ca a q : Nat → Nat) (K V : IT) (T : BT) (C : IT) (B P : Nat → Nat) (S : IT) (sa : Nat → Nat) (mm : Int32) (key : Int32) (hm : mm < 0 ∨ nI 3 ≤ mm) : vx_Met l y_Hop_remove w_Hop_remove (rmD 7 2 12) (va_Pc [.ref (a 0), .int mm, .int key] (hb_X D hCl (wH ca a q K V T C B P S) (tyH ca) sa)) (hX_Q (.inr "java/lang/IndexOutOfBoundsException") D hCl (wH ca a q K V T C B P S) (hA (wH ca a q K V T C B P S))) (hX_X (.inr "java/lang/IndexOutOfBoundsException") D hCl (wH ca a q K V T C B P S) (hA (wH ca a q K V T C B P S))) 2 12 (hA (wH ca a q K V T C B P S)) := by
  refine vx_ofW (cc := b_Hop_remove) (maxL := 4) (ret := some .int) (by decide) rfl ?_
  intro p e s m args below meth c0 s₁ B0 hml hnt hv
  obtain ⟨rfl, hP, hK, hD0, hF, hZ⟩ := hv
  have hx := B0.exec
  have hb := B0.bytes
  have hr := B0.returns
  have hts := atoms_spec (ws := w_Hop_remove) B0.pre
  have hown : s.vm.findClass R_Hop = some m.cls := findClass_of_methodNamed B0.named
  have hlocks := B0.notSynchronized
  have hwA : ∀ w ∈ wsA, w.before ([.ref (a 0), .int mm, .int key] : List Value).toArray s = true := fun w h => hts w (List.mem_cons_of_mem _ h)
  have X : CallFix p m c0 b_Hop_remove 4 s ([.ref (a 0), .int mm, .int key] : List Value).toArray wsA R_Hop := ⟨hx, hb, hml, hown, hwA⟩
  have hD := hA_D hD0
  have hS : va_S (hA (wH ca a q K V T C B P S)) s.heap s.heap [] := va_S.rf
  have hl := lv_entry ([.ref (a 0), .int mm, .int key]) (n := 4) (Nat.le_of_ble_eq_true rfl)
  rw [lg_entry_eq]
  generalize (lg_sl ([.ref (a 0), .int mm, .int key]) ++ List.replicate (4 - (lg_sl ([.ref (a 0), .int mm, .int key])).length) Slot.unset).toArray = ls at hl ⊢
  have hl : lv_has ls 4 [(0, .ref (a 0)), (1, .int mm), (2, .int key)] := hl
  refine lv_aload_n hx hb d_Hop_remove_0 rfl (lv_at hl 0 rfl) ?_
  refine lv_aload_n hx hb d_Hop_remove_1 rfl (lv_at hl 0 rfl) ?_
  refine lv_iload_n hx hb d_Hop_remove_2 rfl (lv_at hl 1 rfl) ?_
  exact k_partOf_bad X hlt hK hP hD hS hF hZ hl.1 hm (Nat.le_of_ble_eq_true rfl) ⟨Nat.le_of_ble_eq_true rfl, Nat.le_of_ble_eq_true rfl⟩ ⟨Nat.le_of_ble_eq_true rfl, Nat.le_of_ble_eq_true rfl⟩ d_Hop_remove_3 hnt hlocks (Nat.le_of_ble_eq_true rfl) (Nat.le_of_ble_eq_true rfl)
set_option maxHeartbeats 4000000 in
set_option maxRecDepth 100000 in
/-- has: there is no such map -/
theorem c_Hop_has_bad (l : Launch) (hlt : l.stackTraces = false) (D : va_G) (ca a q : Nat → Nat) (K V : IT) (T : BT) (C : IT) (B P : Nat → Nat) (S : IT) (sa : Nat → Nat) (mm : Int32) (key : Int32) (hm : mm < 0 ∨ nI 3 ≤ mm) : vx_Met l y_Hop_has w_Hop_has (rmD 7 1 6) (va_Pc [.ref (a 0), .int mm, .int key] (hb_X D hCl (wH ca a q K V T C B P S) (tyH ca) sa)) (hX_Q (.inr "java/lang/IndexOutOfBoundsException") D hCl (wH ca a q K V T C B P S) (hA (wH ca a q K V T C B P S))) (hX_X (.inr "java/lang/IndexOutOfBoundsException") D hCl (wH ca a q K V T C B P S) (hA (wH ca a q K V T C B P S))) 1 6 (hA (wH ca a q K V T C B P S)) := by
  refine vx_ofW (cc := b_Hop_has) (maxL := 3) (ret := some .boolean) (by decide) rfl ?_
  intro p e s m args below meth c0 s₁ B0 hml hnt hv
  obtain ⟨rfl, hP, hK, hD0, hF, hZ⟩ := hv
  have hx := B0.exec
  have hb := B0.bytes
  have hr := B0.returns
  have hts := atoms_spec (ws := w_Hop_has) B0.pre
  have hown : s.vm.findClass R_Hop = some m.cls := findClass_of_methodNamed B0.named
  have hlocks := B0.notSynchronized
  have hwA : ∀ w ∈ wsA, w.before ([.ref (a 0), .int mm, .int key] : List Value).toArray s = true := fun w h => hts w (List.mem_cons_of_mem _ h)
  have X : CallFix p m c0 b_Hop_has 3 s ([.ref (a 0), .int mm, .int key] : List Value).toArray wsA R_Hop := ⟨hx, hb, hml, hown, hwA⟩
  have hD := hA_D hD0
  have hS : va_S (hA (wH ca a q K V T C B P S)) s.heap s.heap [] := va_S.rf
  have hl := lv_entry ([.ref (a 0), .int mm, .int key]) (n := 3) (Nat.le_of_ble_eq_true rfl)
  rw [lg_entry_eq]
  generalize (lg_sl ([.ref (a 0), .int mm, .int key]) ++ List.replicate (3 - (lg_sl ([.ref (a 0), .int mm, .int key])).length) Slot.unset).toArray = ls at hl ⊢
  have hl : lv_has ls 3 [(0, .ref (a 0)), (1, .int mm), (2, .int key)] := hl
  refine lv_aload_n hx hb d_Hop_has_0 rfl (lv_at hl 0 rfl) ?_
  refine lv_aload_n hx hb d_Hop_has_1 rfl (lv_at hl 0 rfl) ?_
  refine lv_iload_n hx hb d_Hop_has_2 rfl (lv_at hl 1 rfl) ?_
  exact k_partOf_bad X hlt hK hP hD hS hF hZ hl.1 hm (Nat.le_of_ble_eq_true rfl) ⟨Nat.le_of_ble_eq_true rfl, Nat.le_of_ble_eq_true rfl⟩ ⟨Nat.le_of_ble_eq_true rfl, Nat.le_of_ble_eq_true rfl⟩ d_Hop_has_3 hnt hlocks (Nat.le_of_ble_eq_true rfl) (Nat.le_of_ble_eq_true rfl)
set_option maxHeartbeats 4000000 in
set_option maxRecDepth 100000 in
/-- size: there is no such map -/
theorem c_Hop_size_bad (l : Launch) (hlt : l.stackTraces = false) (D : va_G) (ca a q : Nat → Nat) (K V : IT) (T : BT) (C : IT) (B P : Nat → Nat) (S : IT) (sa : Nat → Nat) (mm : Int32) (hm : mm < 0 ∨ nI 3 ≤ mm) : vx_Met l y_Hop_size w_Hop_size (rmD 7 1 6) (va_Pc [.ref (a 0), .int mm] (hb_X D hCl (wH ca a q K V T C B P S) (tyH ca) sa)) (hX_Q (.inr "java/lang/IndexOutOfBoundsException") D hCl (wH ca a q K V T C B P S) (hA (wH ca a q K V T C B P S))) (hX_X (.inr "java/lang/IndexOutOfBoundsException") D hCl (wH ca a q K V T C B P S) (hA (wH ca a q K V T C B P S))) 1 6 (hA (wH ca a q K V T C B P S)) := by
  refine vx_ofW (cc := b_Hop_size) (maxL := 2) (ret := some .int) (by decide) rfl ?_
  intro p e s m args below meth c0 s₁ B0 hml hnt hv
  obtain ⟨rfl, hP, hK, hD0, hF, hZ⟩ := hv
  have hx := B0.exec
  have hb := B0.bytes
  have hr := B0.returns
  have hts := atoms_spec (ws := w_Hop_size) B0.pre
  have hown : s.vm.findClass R_Hop = some m.cls := findClass_of_methodNamed B0.named
  have hlocks := B0.notSynchronized
  have hwA : ∀ w ∈ wsA, w.before ([.ref (a 0), .int mm] : List Value).toArray s = true := fun w h => hts w (List.mem_cons_of_mem _ h)
  have X : CallFix p m c0 b_Hop_size 2 s ([.ref (a 0), .int mm] : List Value).toArray wsA R_Hop := ⟨hx, hb, hml, hown, hwA⟩
  have hD := hA_D hD0
  have hS : va_S (hA (wH ca a q K V T C B P S)) s.heap s.heap [] := va_S.rf
  have hl := lv_entry ([.ref (a 0), .int mm]) (n := 2) (Nat.le_of_ble_eq_true rfl)
  rw [lg_entry_eq]
  generalize (lg_sl ([.ref (a 0), .int mm]) ++ List.replicate (2 - (lg_sl ([.ref (a 0), .int mm])).length) Slot.unset).toArray = ls at hl ⊢
  have hl : lv_has ls 2 [(0, .ref (a 0)), (1, .int mm)] := hl
  refine lv_aload_n hx hb d_Hop_size_0 rfl (lv_at hl 0 rfl) ?_
  refine lv_aload_n hx hb d_Hop_size_1 rfl (lv_at hl 0 rfl) ?_
  refine lv_iload_n hx hb d_Hop_size_2 rfl (lv_at hl 1 rfl) ?_
  exact k_partOf_bad X hlt hK hP hD hS hF hZ hl.1 hm (Nat.le_of_ble_eq_true rfl) ⟨Nat.le_of_ble_eq_true rfl, Nat.le_of_ble_eq_true rfl⟩ ⟨Nat.le_of_ble_eq_true rfl, Nat.le_of_ble_eq_true rfl⟩ d_Hop_size_3 hnt hlocks (Nat.le_of_ble_eq_true rfl) (Nat.le_of_ble_eq_true rfl)
set_option maxHeartbeats 4000000 in
set_option maxRecDepth 100000 in
/-- clear: there is no such map -/
theorem c_Hop_clear_bad (l : Launch) (hlt : l.stackTraces = false) (D : va_G) (ca a q : Nat → Nat) (K V : IT) (T : BT) (C : IT) (B P : Nat → Nat) (S : IT) (sa : Nat → Nat) (mm : Int32) (hm : mm < 0 ∨ nI 3 ≤ mm) : vx_Met l y_Hop_clear w_Hop_clear (rmD 7 1 6) (va_Pc [.ref (a 0), .int mm] (hb_X D hCl (wH ca a q K V T C B P S) (tyH ca) sa)) (hX_Q (.inr "java/lang/IndexOutOfBoundsException") D hCl (wH ca a q K V T C B P S) (hA (wH ca a q K V T C B P S))) (hX_X (.inr "java/lang/IndexOutOfBoundsException") D hCl (wH ca a q K V T C B P S) (hA (wH ca a q K V T C B P S))) 1 6 (hA (wH ca a q K V T C B P S)) := by
  refine vx_ofW (cc := b_Hop_clear) (maxL := 4) (ret := some .int) (by decide) rfl ?_
  intro p e s m args below meth c0 s₁ B0 hml hnt hv
  obtain ⟨rfl, hP, hK, hD0, hF, hZ⟩ := hv
  have hx := B0.exec
  have hb := B0.bytes
  have hr := B0.returns
  have hts := atoms_spec (ws := w_Hop_clear) B0.pre
  have hown : s.vm.findClass R_Hop = some m.cls := findClass_of_methodNamed B0.named
  have hlocks := B0.notSynchronized
  have hwA : ∀ w ∈ wsA, w.before ([.ref (a 0), .int mm] : List Value).toArray s = true := fun w h => hts w (List.mem_cons_of_mem _ h)
  have X : CallFix p m c0 b_Hop_clear 4 s ([.ref (a 0), .int mm] : List Value).toArray wsA R_Hop := ⟨hx, hb, hml, hown, hwA⟩
  have hD := hA_D hD0
  have hS : va_S (hA (wH ca a q K V T C B P S)) s.heap s.heap [] := va_S.rf
  have hl := lv_entry ([.ref (a 0), .int mm]) (n := 4) (Nat.le_of_ble_eq_true rfl)
  rw [lg_entry_eq]
  generalize (lg_sl ([.ref (a 0), .int mm]) ++ List.replicate (4 - (lg_sl ([.ref (a 0), .int mm])).length) Slot.unset).toArray = ls at hl ⊢
  have hl : lv_has ls 4 [(0, .ref (a 0)), (1, .int mm)] := hl
  refine lv_aload_n hx hb d_Hop_clear_0 rfl (lv_at hl 0 rfl) ?_
  refine lv_iload_n hx hb d_Hop_clear_1 rfl (lv_at hl 1 rfl) ?_
  exact k_partOf_bad X hlt hK hP hD hS hF hZ hl.1 hm (Nat.le_of_ble_eq_true rfl) ⟨Nat.le_of_ble_eq_true rfl, Nat.le_of_ble_eq_true rfl⟩ ⟨Nat.le_of_ble_eq_true rfl, Nat.le_of_ble_eq_true rfl⟩ d_Hop_clear_2 hnt hlocks (Nat.le_of_ble_eq_true rfl) (Nat.le_of_ble_eq_true rfl)
set_option maxHeartbeats 4000000 in
set_option maxRecDepth 100000 in
/-- about: there is no such map -/
theorem c_Hop_about_bad (l : Launch) (hlt : l.stackTraces = false) (D : va_G) (ca a q : Nat → Nat) (K V : IT) (T : BT) (C : IT) (B P : Nat → Nat) (S : IT) (sa : Nat → Nat) (mm : Int32) (wh : Int32) (hm : mm < 0 ∨ nI 3 ≤ mm) : vx_Met l y_Hop_about w_Hop_about (rmD 7 2 12) (va_Pc [.ref (a 0), .int mm, .int wh] (hb_X D hCl (wH ca a q K V T C B P S) (tyH ca) sa)) (hX_Q (.inr "java/lang/IndexOutOfBoundsException") D hCl (wH ca a q K V T C B P S) (hA (wH ca a q K V T C B P S))) (hX_X (.inr "java/lang/IndexOutOfBoundsException") D hCl (wH ca a q K V T C B P S) (hA (wH ca a q K V T C B P S))) 2 12 (hA (wH ca a q K V T C B P S)) := by
  refine vx_ofW (cc := b_Hop_about) (maxL := 4) (ret := some .int) (by decide) rfl ?_
  intro p e s m args below meth c0 s₁ B0 hml hnt hv
  obtain ⟨rfl, hP, hK, hD0, hF, hZ⟩ := hv
  have hx := B0.exec
  have hb := B0.bytes
  have hr := B0.returns
  have hts := atoms_spec (ws := w_Hop_about) B0.pre
  have hown : s.vm.findClass R_Hop = some m.cls := findClass_of_methodNamed B0.named
  have hlocks := B0.notSynchronized
  have hwA : ∀ w ∈ wsA, w.before ([.ref (a 0), .int mm, .int wh] : List Value).toArray s = true := fun w h => hts w (List.mem_cons_of_mem _ h)
  have X : CallFix p m c0 b_Hop_about 4 s ([.ref (a 0), .int mm, .int wh] : List Value).toArray wsA R_Hop := ⟨hx, hb, hml, hown, hwA⟩
  have hD := hA_D hD0
  have hS : va_S (hA (wH ca a q K V T C B P S)) s.heap s.heap [] := va_S.rf
  have hl := lv_entry ([.ref (a 0), .int mm, .int wh]) (n := 4) (Nat.le_of_ble_eq_true rfl)
  rw [lg_entry_eq]
  generalize (lg_sl ([.ref (a 0), .int mm, .int wh]) ++ List.replicate (4 - (lg_sl ([.ref (a 0), .int mm, .int wh])).length) Slot.unset).toArray = ls at hl ⊢
  have hl : lv_has ls 4 [(0, .ref (a 0)), (1, .int mm), (2, .int wh)] := hl
  refine lv_aload_n hx hb d_Hop_about_0 rfl (lv_at hl 0 rfl) ?_
  refine lv_iload_n hx hb d_Hop_about_1 rfl (lv_at hl 1 rfl) ?_
  exact k_partOf_bad X hlt hK hP hD hS hF hZ hl.1 hm (Nat.le_of_ble_eq_true rfl) ⟨Nat.le_of_ble_eq_true rfl, Nat.le_of_ble_eq_true rfl⟩ ⟨Nat.le_of_ble_eq_true rfl, Nat.le_of_ble_eq_true rfl⟩ d_Hop_about_2 hnt hlocks (Nat.le_of_ble_eq_true rfl) (Nat.le_of_ble_eq_true rfl)
set_option maxHeartbeats 4000000 in
set_option maxRecDepth 100000 in
/-- home: there is no such map -/
theorem c_Hop_home_bad (l : Launch) (hlt : l.stackTraces = false) (D : va_G) (ca a q : Nat → Nat) (K V : IT) (T : BT) (C : IT) (B P : Nat → Nat) (S : IT) (sa : Nat → Nat) (mm : Int32) (key : Int32) (hm : mm < 0 ∨ nI 3 ≤ mm) : vx_Met l y_Hop_home w_Hop_home (rmD 7 1 6) (va_Pc [.ref (a 0), .int mm, .int key] (hb_X D hCl (wH ca a q K V T C B P S) (tyH ca) sa)) (hX_Q (.inr "java/lang/IndexOutOfBoundsException") D hCl (wH ca a q K V T C B P S) (hA (wH ca a q K V T C B P S))) (hX_X (.inr "java/lang/IndexOutOfBoundsException") D hCl (wH ca a q K V T C B P S) (hA (wH ca a q K V T C B P S))) 1 6 (hA (wH ca a q K V T C B P S)) := by
  refine vx_ofW (cc := b_Hop_home) (maxL := 3) (ret := some .int) (by decide) rfl ?_
  intro p e s m args below meth c0 s₁ B0 hml hnt hv
  obtain ⟨rfl, hP, hK, hD0, hF, hZ⟩ := hv
  have hx := B0.exec
  have hb := B0.bytes
  have hr := B0.returns
  have hts := atoms_spec (ws := w_Hop_home) B0.pre
  have hown : s.vm.findClass R_Hop = some m.cls := findClass_of_methodNamed B0.named
  have hlocks := B0.notSynchronized
  have hwA : ∀ w ∈ wsA, w.before ([.ref (a 0), .int mm, .int key] : List Value).toArray s = true := fun w h => hts w (List.mem_cons_of_mem _ h)
  have X : CallFix p m c0 b_Hop_home 3 s ([.ref (a 0), .int mm, .int key] : List Value).toArray wsA R_Hop := ⟨hx, hb, hml, hown, hwA⟩
  have hD := hA_D hD0
  have hS : va_S (hA (wH ca a q K V T C B P S)) s.heap s.heap [] := va_S.rf
  have hl := lv_entry ([.ref (a 0), .int mm, .int key]) (n := 3) (Nat.le_of_ble_eq_true rfl)
  rw [lg_entry_eq]
  generalize (lg_sl ([.ref (a 0), .int mm, .int key]) ++ List.replicate (3 - (lg_sl ([.ref (a 0), .int mm, .int key])).length) Slot.unset).toArray = ls at hl ⊢
  have hl : lv_has ls 3 [(0, .ref (a 0)), (1, .int mm), (2, .int key)] := hl
  refine lv_aload_n hx hb d_Hop_home_0 rfl (lv_at hl 0 rfl) ?_
  refine lv_iload_n hx hb d_Hop_home_1 rfl (lv_at hl 1 rfl) ?_
  exact k_partOf_bad X hlt hK hP hD hS hF hZ hl.1 hm (Nat.le_of_ble_eq_true rfl) ⟨Nat.le_of_ble_eq_true rfl, Nat.le_of_ble_eq_true rfl⟩ ⟨Nat.le_of_ble_eq_true rfl, Nat.le_of_ble_eq_true rfl⟩ d_Hop_home_2 hnt hlocks (Nat.le_of_ble_eq_true rfl) (Nat.le_of_ble_eq_true rfl)
set_option maxHeartbeats 4000000 in
set_option maxRecDepth 100000 in
/-- distance: there is no such map -/
theorem c_Hop_distance_bad (l : Launch) (hlt : l.stackTraces = false) (D : va_G) (ca a q : Nat → Nat) (K V : IT) (T : BT) (C : IT) (B P : Nat → Nat) (S : IT) (sa : Nat → Nat) (mm : Int32) (key : Int32) (hm : mm < 0 ∨ nI 3 ≤ mm) : vx_Met l y_Hop_distance w_Hop_distance (rmD 7 2 12) (va_Pc [.ref (a 0), .int mm, .int key] (hb_X D hCl (wH ca a q K V T C B P S) (tyH ca) sa)) (hX_Q (.inr "java/lang/IndexOutOfBoundsException") D hCl (wH ca a q K V T C B P S) (hA (wH ca a q K V T C B P S))) (hX_X (.inr "java/lang/IndexOutOfBoundsException") D hCl (wH ca a q K V T C B P S) (hA (wH ca a q K V T C B P S))) 2 12 (hA (wH ca a q K V T C B P S)) := by
  refine vx_ofW (cc := b_Hop_distance) (maxL := 5) (ret := some .int) (by decide) rfl ?_
  intro p e s m args below meth c0 s₁ B0 hml hnt hv
  obtain ⟨rfl, hP, hK, hD0, hF, hZ⟩ := hv
  have hx := B0.exec
  have hb := B0.bytes
  have hr := B0.returns
  have hts := atoms_spec (ws := w_Hop_distance) B0.pre
  have hown : s.vm.findClass R_Hop = some m.cls := findClass_of_methodNamed B0.named
  have hlocks := B0.notSynchronized
  have hwA : ∀ w ∈ wsA, w.before ([.ref (a 0), .int mm, .int key] : List Value).toArray s = true := fun w h => hts w (List.mem_cons_of_mem _ h)
  have X : CallFix p m c0 b_Hop_distance 5 s ([.ref (a 0), .int mm, .int key] : List Value).toArray wsA R_Hop := ⟨hx, hb, hml, hown, hwA⟩
  have hD := hA_D hD0
  have hS : va_S (hA (wH ca a q K V T C B P S)) s.heap s.heap [] := va_S.rf
  have hl := lv_entry ([.ref (a 0), .int mm, .int key]) (n := 5) (Nat.le_of_ble_eq_true rfl)
  rw [lg_entry_eq]
  generalize (lg_sl ([.ref (a 0), .int mm, .int key]) ++ List.replicate (5 - (lg_sl ([.ref (a 0), .int mm, .int key])).length) Slot.unset).toArray = ls at hl ⊢
  have hl : lv_has ls 5 [(0, .ref (a 0)), (1, .int mm), (2, .int key)] := hl
  refine lv_aload_n hx hb d_Hop_distance_0 rfl (lv_at hl 0 rfl) ?_
  refine lv_iload_n hx hb d_Hop_distance_1 rfl (lv_at hl 1 rfl) ?_
  exact k_partOf_bad X hlt hK hP hD hS hF hZ hl.1 hm (Nat.le_of_ble_eq_true rfl) ⟨Nat.le_of_ble_eq_true rfl, Nat.le_of_ble_eq_true rfl⟩ ⟨Nat.le_of_ble_eq_true rfl, Nat.le_of_ble_eq_true rfl⟩ d_Hop_distance_2 hnt hlocks (Nat.le_of_ble_eq_true rfl) (Nat.le_of_ble_eq_true rfl)
set_option maxHeartbeats 4000000 in
set_option maxRecDepth 100000 in
/-- bits: there is no such map -/
theorem c_Hop_bits_bad (l : Launch) (hlt : l.stackTraces = false) (D : va_G) (ca a q : Nat → Nat) (K V : IT) (T : BT) (C : IT) (B P : Nat → Nat) (S : IT) (sa : Nat → Nat) (mm : Int32) (x : Int32) (hm : mm < 0 ∨ nI 3 ≤ mm) : vx_Met l y_Hop_bits w_Hop_bits (rmD 7 2 12) (va_Pc [.ref (a 0), .int mm, .int x] (hb_X D hCl (wH ca a q K V T C B P S) (tyH ca) sa)) (hX_Q (.inr "java/lang/IndexOutOfBoundsException") D hCl (wH ca a q K V T C B P S) (hA (wH ca a q K V T C B P S))) (hX_X (.inr "java/lang/IndexOutOfBoundsException") D hCl (wH ca a q K V T C B P S) (hA (wH ca a q K V T C B P S))) 2 12 (hA (wH ca a q K V T C B P S)) := by
  refine vx_ofW (cc := b_Hop_bits) (maxL := 6) (ret := some .int) (by decide) rfl ?_
  intro p e s m args below meth c0 s₁ B0 hml hnt hv
  obtain ⟨rfl, hP, hK, hD0, hF, hZ⟩ := hv
  have hx := B0.exec
  have hb := B0.bytes
  have hr := B0.returns
  have hts := atoms_spec (ws := w_Hop_bits) B0.pre
  have hown : s.vm.findClass R_Hop = some m.cls := findClass_of_methodNamed B0.named
  have hlocks := B0.notSynchronized
  have hwA : ∀ w ∈ wsA, w.before ([.ref (a 0), .int mm, .int x] : List Value).toArray s = true := fun w h => hts w (List.mem_cons_of_mem _ h)
  have X : CallFix p m c0 b_Hop_bits 6 s ([.ref (a 0), .int mm, .int x] : List Value).toArray wsA R_Hop := ⟨hx, hb, hml, hown, hwA⟩
  have hD := hA_D hD0
  have hS : va_S (hA (wH ca a q K V T C B P S)) s.heap s.heap [] := va_S.rf
  have hl := lv_entry ([.ref (a 0), .int mm, .int x]) (n := 6) (Nat.le_of_ble_eq_true rfl)
  rw [lg_entry_eq]
  generalize (lg_sl ([.ref (a 0), .int mm, .int x]) ++ List.replicate (6 - (lg_sl ([.ref (a 0), .int mm, .int x])).length) Slot.unset).toArray = ls at hl ⊢
  have hl : lv_has ls 6 [(0, .ref (a 0)), (1, .int mm), (2, .int x)] := hl
  refine lv_aload_n hx hb d_Hop_bits_0 rfl (lv_at hl 0 rfl) ?_
  refine lv_iload_n hx hb d_Hop_bits_1 rfl (lv_at hl 1 rfl) ?_
  exact k_partOf_bad X hlt hK hP hD hS hF hZ hl.1 hm (Nat.le_of_ble_eq_true rfl) ⟨Nat.le_of_ble_eq_true rfl, Nat.le_of_ble_eq_true rfl⟩ ⟨Nat.le_of_ble_eq_true rfl, Nat.le_of_ble_eq_true rfl⟩ d_Hop_bits_2 hnt hlocks (Nat.le_of_ble_eq_true rfl) (Nat.le_of_ble_eq_true rfl)
set_option maxHeartbeats 4000000 in
set_option maxRecDepth 100000 in
/-- next: there is no such map -/
theorem c_Hop_next_bad (l : Launch) (hlt : l.stackTraces = false) (D : va_G) (ca a q : Nat → Nat) (K V : IT) (T : BT) (C : IT) (B P : Nat → Nat) (S : IT) (sa : Nat → Nat) (mm : Int32) (x : Int32) (hm : mm < 0 ∨ nI 3 ≤ mm) : vx_Met l y_Hop_next w_Hop_next (rmD 7 2 12) (va_Pc [.ref (a 0), .int mm, .int x] (hb_X D hCl (wH ca a q K V T C B P S) (tyH ca) sa)) (hX_Q (.inr "java/lang/IndexOutOfBoundsException") D hCl (wH ca a q K V T C B P S) (hA (wH ca a q K V T C B P S))) (hX_X (.inr "java/lang/IndexOutOfBoundsException") D hCl (wH ca a q K V T C B P S) (hA (wH ca a q K V T C B P S))) 2 12 (hA (wH ca a q K V T C B P S)) := by
  refine vx_ofW (cc := b_Hop_next) (maxL := 5) (ret := some .int) (by decide) rfl ?_
  intro p e s m args below meth c0 s₁ B0 hml hnt hv
  obtain ⟨rfl, hP, hK, hD0, hF, hZ⟩ := hv
  have hx := B0.exec
  have hb := B0.bytes
  have hr := B0.returns
  have hts := atoms_spec (ws := w_Hop_next) B0.pre
  have hown : s.vm.findClass R_Hop = some m.cls := findClass_of_methodNamed B0.named
  have hlocks := B0.notSynchronized
  have hwA : ∀ w ∈ wsA, w.before ([.ref (a 0), .int mm, .int x] : List Value).toArray s = true := fun w h => hts w (List.mem_cons_of_mem _ h)
  have X : CallFix p m c0 b_Hop_next 5 s ([.ref (a 0), .int mm, .int x] : List Value).toArray wsA R_Hop := ⟨hx, hb, hml, hown, hwA⟩
  have hD := hA_D hD0
  have hS : va_S (hA (wH ca a q K V T C B P S)) s.heap s.heap [] := va_S.rf
  have hl := lv_entry ([.ref (a 0), .int mm, .int x]) (n := 5) (Nat.le_of_ble_eq_true rfl)
  rw [lg_entry_eq]
  generalize (lg_sl ([.ref (a 0), .int mm, .int x]) ++ List.replicate (5 - (lg_sl ([.ref (a 0), .int mm, .int x])).length) Slot.unset).toArray = ls at hl ⊢
  have hl : lv_has ls 5 [(0, .ref (a 0)), (1, .int mm), (2, .int x)] := hl
  refine lv_aload_n hx hb d_Hop_next_0 rfl (lv_at hl 0 rfl) ?_
  refine lv_iload_n hx hb d_Hop_next_1 rfl (lv_at hl 1 rfl) ?_
  exact k_partOf_bad X hlt hK hP hD hS hF hZ hl.1 hm (Nat.le_of_ble_eq_true rfl) ⟨Nat.le_of_ble_eq_true rfl, Nat.le_of_ble_eq_true rfl⟩ ⟨Nat.le_of_ble_eq_true rfl, Nat.le_of_ble_eq_true rfl⟩ d_Hop_next_2 hnt hlocks (Nat.le_of_ble_eq_true rfl) (Nat.le_of_ble_eq_true rfl)
set_option maxHeartbeats 4000000 in
set_option maxRecDepth 100000 in
/-- key: there is no such map -/
theorem c_Hop_key_bad (l : Launch) (hlt : l.stackTraces = false) (D : va_G) (ca a q : Nat → Nat) (K V : IT) (T : BT) (C : IT) (B P : Nat → Nat) (S : IT) (sa : Nat → Nat) (mm : Int32) (x : Int32) (hm : mm < 0 ∨ nI 3 ≤ mm) : vx_Met l y_Hop_key w_Hop_key (rmD 7 3 18) (va_Pc [.ref (a 0), .int mm, .int x] (hb_X D hCl (wH ca a q K V T C B P S) (tyH ca) sa)) (hX_Q (.inr "java/lang/IndexOutOfBoundsException") D hCl (wH ca a q K V T C B P S) (hA (wH ca a q K V T C B P S))) (hX_X (.inr "java/lang/IndexOutOfBoundsException") D hCl (wH ca a q K V T C B P S) (hA (wH ca a q K V T C B P S))) 3 18 (hA (wH ca a q K V T C B P S)) := by
  refine vx_ofW (cc := b_Hop_key) (maxL := 5) (ret := some .int) (by decide) rfl ?_
  intro p e s m args below meth c0 s₁ B0 hml hnt hv
  obtain ⟨rfl, hP, hK, hD0, hF, hZ⟩ := hv
  have hx := B0.exec
  have hb := B0.bytes
  have hr := B0.returns
  have hts := atoms_spec (ws := w_Hop_key) B0.pre
  have hown : s.vm.findClass R_Hop = some m.cls := findClass_of_methodNamed B0.named
  have hlocks := B0.notSynchronized
  have hwA : ∀ w ∈ wsA, w.before ([.ref (a 0), .int mm, .int x] : List Value).toArray s = true := fun w h => hts w (List.mem_cons_of_mem _ h)
  have X : CallFix p m c0 b_Hop_key 5 s ([.ref (a 0), .int mm, .int x] : List Value).toArray wsA R_Hop := ⟨hx, hb, hml, hown, hwA⟩
  have hD := hA_D hD0
  have hS : va_S (hA (wH ca a q K V T C B P S)) s.heap s.heap [] := va_S.rf
  have hl := lv_entry ([.ref (a 0), .int mm, .int x]) (n := 5) (Nat.le_of_ble_eq_true rfl)
  rw [lg_entry_eq]
  generalize (lg_sl ([.ref (a 0), .int mm, .int x]) ++ List.replicate (5 - (lg_sl ([.ref (a 0), .int mm, .int x])).length) Slot.unset).toArray = ls at hl ⊢
  have hl : lv_has ls 5 [(0, .ref (a 0)), (1, .int mm), (2, .int x)] := hl
  refine lv_aload_n hx hb d_Hop_key_0 rfl (lv_at hl 0 rfl) ?_
  refine lv_iload_n hx hb d_Hop_key_1 rfl (lv_at hl 1 rfl) ?_
  exact k_partOf_bad X hlt hK hP hD hS hF hZ hl.1 hm (Nat.le_of_ble_eq_true rfl) ⟨Nat.le_of_ble_eq_true rfl, Nat.le_of_ble_eq_true rfl⟩ ⟨Nat.le_of_ble_eq_true rfl, Nat.le_of_ble_eq_true rfl⟩ d_Hop_key_2 hnt hlocks (Nat.le_of_ble_eq_true rfl) (Nat.le_of_ble_eq_true rfl)
set_option maxHeartbeats 4000000 in
set_option maxRecDepth 100000 in
/-- get -/
theorem c_Hop_get (l : Launch) (hlt : l.stackTraces = false) (D : va_G) (ca a q : Nat → Nat) (K V : IT) (T : BT) (C : IT) (B P : Nat → Nat) (S : IT) (sa : Nat → Nat) (j : Nat) (hj : j < 3) (hc : pw (P j)) (hbd : B j + P j ≤ 256) (key : Int32) (k : Nat) (hk : k < 256) (hfd : fnd T K (B j) (P j) (hom key (S j) (P j)) key 0 8 = some k) : vx_Met l y_Hop_get w_Hop_get (rmD 7 2 12) (va_Pc [.ref (a 0), .int (nI j), .int key] (hb_X D hCl (wH ca a q K V T C B P S) (tyH ca) sa)) (hX_Q (.inl (some (.int (V k)))) D hCl (wH ca a q K V T C B P S) (hA (wH ca a q K V T C B P S))) (hX_X (.inl (some (.int (V k)))) D hCl (wH ca a q K V T C B P S) (hA (wH ca a q K V T C B P S))) 2 12 (hA (wH ca a q K V T C B P S)) := by
  refine vx_ofW (cc := b_Hop_get) (maxL := 3) (ret := some .int) (by decide) rfl ?_
  intro p e s m args below meth c0 s₁ B0 hml hnt hv
  obtain ⟨rfl, hP, hK, hD0, hF, hZ⟩ := hv
  have hx := B0.exec
  have hb := B0.bytes
  have hr := B0.returns
  have hts := atoms_spec (ws := w_Hop_get) B0.pre
  have hown : s.vm.findClass R_Hop = some m.cls := findClass_of_methodNamed B0.named
  have hlocks := B0.notSynchronized
  have hwA : ∀ w ∈ wsA, w.before ([.ref (a 0), .int (nI j), .int key] : List Value).toArray s = true := fun w h => hts w (List.mem_cons_of_mem _ h)
  have X : CallFix p m c0 b_Hop_get 3 s ([.ref (a 0), .int (nI j), .int key] : List Value).toArray wsA R_Hop := ⟨hx, hb, hml, hown, hwA⟩
  have hD := hA_D hD0
  have hS : va_S (hA (wH ca a q K V T C B P S)) s.heap s.heap [] := va_S.rf
  have hl := lv_entry ([.ref (a 0), .int (nI j), .int key]) (n := 3) (Nat.le_of_ble_eq_true rfl)
  rw [lg_entry_eq]
  generalize (lg_sl ([.ref (a 0), .int (nI j), .int key]) ++ List.replicate (3 - (lg_sl ([.ref (a 0), .int (nI j), .int key])).length) Slot.unset).toArray = ls at hl ⊢
  have hl : lv_has ls 3 [(0, .ref (a 0)), (1, .int (nI j)), (2, .int key)] := hl
  have hj4 : j < 4 := by omega
  refine lv_aload_n hx hb d_Hop_get_0 rfl (lv_at hl 0 rfl) ?_
  refine hg_values X hK hP d_Hop_get_1 ?_
  refine lv_aload_n hx hb d_Hop_get_4 rfl (lv_at hl 0 rfl) ?_
  refine lv_aload_n hx hb d_Hop_get_5 rfl (lv_at hl 0 rfl) ?_
  refine lv_iload_n hx hb d_Hop_get_6 rfl (lv_at hl 1 rfl) ?_
  refine k_partOf X hlt hK hP hD hS hF hZ hl.1 hj (Nat.le_of_ble_eq_true rfl) ⟨Nat.le_of_ble_eq_true rfl, Nat.le_of_ble_eq_true rfl⟩ ⟨Nat.le_of_ble_eq_true rfl, Nat.le_of_ble_eq_true rfl⟩ d_Hop_get_7 (fun H locs hP hD hS => ?_)
  refine lv_iload_n hx hb d_Hop_get_10 rfl (lv_at hl 2 rfl) ?_
  refine k_slotHolding X hlt hK hP hD hS hF hZ hl.1 hj4 hc hbd hk hfd (Nat.le_of_ble_eq_true rfl) ⟨Nat.le_of_ble_eq_true rfl, Nat.le_of_ble_eq_true rfl⟩ ⟨Nat.le_of_ble_eq_true rfl, Nat.le_of_ble_eq_true rfl⟩ d_Hop_get_11 (fun H locs hP hD hS => ?_)
  refine hl_V X hK hP (i := k) (hk) d_Hop_get_14 ?_
  refine W.widen (k := 2) (n := 12) (Nat.le_of_ble_eq_true rfl) (Nat.le_of_ble_eq_true rfl) ?_
  exact vx_ret (W.iret (v := V k) hx hb hr (fun t ht hW => ⟨_, rfl, rfl, by rw [ht]; exact hP, hS.F ht⟩) hS.2.2 d_Hop_get_15)
set_option maxHeartbeats 4000000 in
set_option maxRecDepth 100000 in
/-- get -/
theorem c_Hop_get_no (l : Launch) (hlt : l.stackTraces = false) (D : va_G) (ca a q : Nat → Nat) (K V : IT) (T : BT) (C : IT) (B P : Nat → Nat) (S : IT) (sa : Nat → Nat) (j : Nat) (hj : j < 3) (hc : pw (P j)) (hbd : B j + P j ≤ 256) (key : Int32) (hfd : fnd T K (B j) (P j) (hom key (S j) (P j)) key 0 8 = none) : vx_Met l y_Hop_get w_Hop_get (rmD 7 2 12) (va_Pc [.ref (a 0), .int (nI j), .int key] (hb_X D hCl (wH ca a q K V T C B P S) (tyH ca) sa)) (hX_Q (.inr "java/util/NoSuchElementException") D hCl (wH ca a q K V T C B P S) (hA (wH ca a q K V T C B P S))) (hX_X (.inr "java/util/NoSuchElementException") D hCl (wH ca a q K V T C B P S) (hA (wH ca a q K V T C B P S))) 2 12 (hA (wH ca a q K V T C B P S)) := by
  refine vx_ofW (cc := b_Hop_get) (maxL := 3) (ret := some .int) (by decide) rfl ?_
  intro p e s m args below meth c0 s₁ B0 hml hnt hv
  obtain ⟨rfl, hP, hK, hD0, hF, hZ⟩ := hv
  have hx := B0.exec
  have hb := B0.bytes
  have hr := B0.returns
  have hts := atoms_spec (ws := w_Hop_get) B0.pre
  have hown : s.vm.findClass R_Hop = some m.cls := findClass_of_methodNamed B0.named
  have hlocks := B0.notSynchronized
  have hwA : ∀ w ∈ wsA, w.before ([.ref (a 0), .int (nI j), .int key] : List Value).toArray s = true := fun w h => hts w (List.mem_cons_of_mem _ h)
  have X : CallFix p m c0 b_Hop_get 3 s ([.ref (a 0), .int (nI j), .int key] : List Value).toArray wsA R_Hop := ⟨hx, hb, hml, hown, hwA⟩
  have hD := hA_D hD0
  have hS : va_S (hA (wH ca a q K V T C B P S)) s.heap s.heap [] := va_S.rf
  have hl := lv_entry ([.ref (a 0), .int (nI j), .int key]) (n := 3) (Nat.le_of_ble_eq_true rfl)
  rw [lg_entry_eq]
  generalize (lg_sl ([.ref (a 0), .int (nI j), .int key]) ++ List.replicate (3 - (lg_sl ([.ref (a 0), .int (nI j), .int key])).length) Slot.unset).toArray = ls at hl ⊢
  have hl : lv_has ls 3 [(0, .ref (a 0)), (1, .int (nI j)), (2, .int key)] := hl
  have hj4 : j < 4 := by omega
  refine lv_aload_n hx hb d_Hop_get_0 rfl (lv_at hl 0 rfl) ?_
  refine hg_values X hK hP d_Hop_get_1 ?_
  refine lv_aload_n hx hb d_Hop_get_4 rfl (lv_at hl 0 rfl) ?_
  refine lv_aload_n hx hb d_Hop_get_5 rfl (lv_at hl 0 rfl) ?_
  refine lv_iload_n hx hb d_Hop_get_6 rfl (lv_at hl 1 rfl) ?_
  refine k_partOf X hlt hK hP hD hS hF hZ hl.1 hj (Nat.le_of_ble_eq_true rfl) ⟨Nat.le_of_ble_eq_true rfl, Nat.le_of_ble_eq_true rfl⟩ ⟨Nat.le_of_ble_eq_true rfl, Nat.le_of_ble_eq_true rfl⟩ d_Hop_get_7 (fun H locs hP hD hS => ?_)
  refine lv_iload_n hx hb d_Hop_get_10 rfl (lv_at hl 2 rfl) ?_
  exact k_slotHolding_bad X hlt hK hP hD hS hF hZ hl.1 hj4 hc hbd hfd (Nat.le_of_ble_eq_true rfl) ⟨Nat.le_of_ble_eq_true rfl, Nat.le_of_ble_eq_true rfl⟩ ⟨Nat.le_of_ble_eq_true rfl, Nat.le_of_ble_eq_true rfl⟩ d_Hop_get_11 hnt hlocks (Nat.le_of_ble_eq_true rfl) (Nat.le_of_ble_eq_true rfl)
set_option maxHeartbeats 4000000 in
set_option maxRecDepth 100000 in
/-- remove -/
theorem c_Hop_remove (l : Launch) (hlt : l.stackTraces = false) (D : va_G) (ca a q : Nat → Nat) (K V : IT) (T : BT) (C : IT) (B P : Nat → Nat) (S : IT) (sa : Nat → Nat) (j : Nat) (hj : j < 3) (hc : pw (P j)) (hbd : B j + P j ≤ 256) (key : Int32) (k : Nat) (hk : k < 256) (hfd : fnd T K (B j) (P j) (hom key (S j) (P j)) key 0 8 = some k) : vx_Met l y_Hop_remove w_Hop_remove (rmD 7 2 12) (va_Pc [.ref (a 0), .int (nI j), .int key] (hb_X D hCl (wH ca a q K V T C B P S) (tyH ca) sa)) (hX_Q (.inl (some (.int (V k)))) D hCl (wH ca a q K V (va_up T k false) C B P S) (hA (wH ca a q K V T C B P S))) (hX_X (.inl (some (.int (V k)))) D hCl (wH ca a q K V (va_up T k false) C B P S) (hA (wH ca a q K V T C B P S))) 2 12 (hA (wH ca a q K V T C B P S)) := by
  refine vx_ofW (cc := b_Hop_remove) (maxL := 4) (ret := some .int) (by decide) rfl ?_
  intro p e s m args below meth c0 s₁ B0 hml hnt hv
  obtain ⟨rfl, hP, hK, hD0, hF, hZ⟩ := hv
  have hx := B0.exec
  have hb := B0.bytes
  have hr := B0.returns
  have hts := atoms_spec (ws := w_Hop_remove) B0.pre
  have hown : s.vm.findClass R_Hop = some m.cls := findClass_of_methodNamed B0.named
  have hlocks := B0.notSynchronized
  have hwA : ∀ w ∈ wsA, w.before ([.ref (a 0), .int (nI j), .int key] : List Value).toArray s = true := fun w h => hts w (List.mem_cons_of_mem _ h)
  have X : CallFix p m c0 b_Hop_remove 4 s ([.ref (a 0), .int (nI j), .int key] : List Value).toArray wsA R_Hop := ⟨hx, hb, hml, hown, hwA⟩
  have hD := hA_D hD0
  have hS : va_S (hA (wH ca a q K V T C B P S)) s.heap s.heap [] := va_S.rf
  have hl := lv_entry ([.ref (a 0), .int (nI j), .int key]) (n := 4) (Nat.le_of_ble_eq_true rfl)
  rw [lg_entry_eq]
  generalize (lg_sl ([.ref (a 0), .int (nI j), .int key]) ++ List.replicate (4 - (lg_sl ([.ref (a 0), .int (nI j), .int key])).length) Slot.unset).toArray = ls at hl ⊢
  have hl : lv_has ls 4 [(0, .ref (a 0)), (1, .int (nI j)), (2, .int key)] := hl
  have hj4 : j < 4 := by omega
  refine lv_aload_n hx hb d_Hop_remove_0 rfl (lv_at hl 0 rfl) ?_
  refine lv_aload_n hx hb d_Hop_remove_1 rfl (lv_at hl 0 rfl) ?_
  refine lv_iload_n hx hb d_Hop_remove_2 rfl (lv_at hl 1 rfl) ?_
  refine k_partOf X hlt hK hP hD hS hF hZ hl.1 hj (Nat.le_of_ble_eq_true rfl) ⟨Nat.le_of_ble_eq_true rfl, Nat.le_of_ble_eq_true rfl⟩ ⟨Nat.le_of_ble_eq_true rfl, Nat.le_of_ble_eq_true rfl⟩ d_Hop_remove_3 (fun H locs hP hD hS => ?_)
  refine lv_iload_n hx hb d_Hop_remove_6 rfl (lv_at hl 2 rfl) ?_
  refine k_slotHolding X hlt hK hP hD hS hF hZ hl.1 hj4 hc hbd hk hfd (Nat.le_of_ble_eq_true rfl) ⟨Nat.le_of_ble_eq_true rfl, Nat.le_of_ble_eq_true rfl⟩ ⟨Nat.le_of_ble_eq_true rfl, Nat.le_of_ble_eq_true rfl⟩ d_Hop_remove_7 (fun H locs hP hD hS => ?_)
  refine lv_istore_n (lv' := [(3, .int (nI k)), (0, .ref (a 0)), (1, .int (nI j)), (2, .int key)]) hx hb d_Hop_remove_10 rfl hl (by decide) rfl (fun ls hl => ?_)
  refine lv_aload_n hx hb d_Hop_remove_11 rfl (lv_at hl 1 rfl) ?_
  refine hg_taken X hK hP d_Hop_remove_12 ?_
  refine lv_iload_n hx hb d_Hop_remove_15 rfl (lv_at hl 0 rfl) ?_
  refine lv_iconst (v := 0) hx hb d_Hop_remove_16 (by decide) ?_
  refine hs_T X hK hP hD hS (i := k) (x := false) (hk) d_Hop_remove_17 (fun H locs hP hD hS => ?_)
  refine lv_aload_n hx hb d_Hop_remove_18 rfl (lv_at hl 1 rfl) ?_
  refine hg_values X hK hP d_Hop_remove_19 ?_
  refine lv_iload_n hx hb d_Hop_remove_22 rfl (lv_at hl 0 rfl) ?_
  refine hl_V X hK hP (i := k) (hk) d_Hop_remove_23 ?_
  refine W.widen (k := 2) (n := 12) (Nat.le_of_ble_eq_true rfl) (Nat.le_of_ble_eq_true rfl) ?_
  exact vx_ret (W.iret (v := V k) hx hb hr (fun t ht hW => ⟨_, rfl, rfl, by rw [ht]; exact hP, hS.F ht⟩) hS.2.2 d_Hop_remove_24)
set_option maxHeartbeats 4000000 in
set_option maxRecDepth 100000 in
/-- remove -/
theorem c_Hop_remove_no (l : Launch) (hlt : l.stackTraces = false) (D : va_G) (ca a q : Nat → Nat) (K V : IT) (T : BT) (C : IT) (B P : Nat → Nat) (S : IT) (sa : Nat → Nat) (j : Nat) (hj : j < 3) (hc : pw (P j)) (hbd : B j + P j ≤ 256) (key : Int32) (hfd : fnd T K (B j) (P j) (hom key (S j) (P j)) key 0 8 = none) : vx_Met l y_Hop_remove w_Hop_remove (rmD 7 2 12) (va_Pc [.ref (a 0), .int (nI j), .int key] (hb_X D hCl (wH ca a q K V T C B P S) (tyH ca) sa)) (hX_Q (.inr "java/util/NoSuchElementException") D hCl (wH ca a q K V T C B P S) (hA (wH ca a q K V T C B P S))) (hX_X (.inr "java/util/NoSuchElementException") D hCl (wH ca a q K V T C B P S) (hA (wH ca a q K V T C B P S))) 2 12 (hA (wH ca a q K V T C B P S)) := by
  refine vx_ofW (cc := b_Hop_remove) (maxL := 4) (ret := some .int) (by decide) rfl ?_
  intro p e s m args below meth c0 s₁ B0 hml hnt hv
  obtain ⟨rfl, hP, hK, hD0, hF, hZ⟩ := hv
  have hx := B0.exec
  have hb := B0.bytes
  have hr := B0.returns
  have hts := atoms_spec (ws := w_Hop_remove) B0.pre
  have hown : s.vm.findClass R_Hop = some m.cls := findClass_of_methodNamed B0.named
  have hlocks := B0.notSynchronized
  have hwA : ∀ w ∈ wsA, w.before ([.ref (a 0), .int (nI j), .int key] : List Value).toArray s = true := fun w h => hts w (List.mem_cons_of_mem _ h)
  have X : CallFix p m c0 b_Hop_remove 4 s ([.ref (a 0), .int (nI j), .int key] : List Value).toArray wsA R_Hop := ⟨hx, hb, hml, hown, hwA⟩
  have hD := hA_D hD0
  have hS : va_S (hA (wH ca a q K V T C B P S)) s.heap s.heap [] := va_S.rf
  have hl := lv_entry ([.ref (a 0), .int (nI j), .int key]) (n := 4) (Nat.le_of_ble_eq_true rfl)
  rw [lg_entry_eq]
  generalize (lg_sl ([.ref (a 0), .int (nI j), .int key]) ++ List.replicate (4 - (lg_sl ([.ref (a 0), .int (nI j), .int key])).length) Slot.unset).toArray = ls at hl ⊢
  have hl : lv_has ls 4 [(0, .ref (a 0)), (1, .int (nI j)), (2, .int key)] := hl
  have hj4 : j < 4 := by omega
  refine lv_aload_n hx hb d_Hop_remove_0 rfl (lv_at hl 0 rfl) ?_
  refine lv_aload_n hx hb d_Hop_remove_1 rfl (lv_at hl 0 rfl) ?_
  refine lv_iload_n hx hb d_Hop_remove_2 rfl (lv_at hl 1 rfl) ?_
  refine k_partOf X hlt hK hP hD hS hF hZ hl.1 hj (Nat.le_of_ble_eq_true rfl) ⟨Nat.le_of_ble_eq_true rfl, Nat.le_of_ble_eq_true rfl⟩ ⟨Nat.le_of_ble_eq_true rfl, Nat.le_of_ble_eq_true rfl⟩ d_Hop_remove_3 (fun H locs hP hD hS => ?_)
  refine lv_iload_n hx hb d_Hop_remove_6 rfl (lv_at hl 2 rfl) ?_
  exact k_slotHolding_bad X hlt hK hP hD hS hF hZ hl.1 hj4 hc hbd hfd (Nat.le_of_ble_eq_true rfl) ⟨Nat.le_of_ble_eq_true rfl, Nat.le_of_ble_eq_true rfl⟩ ⟨Nat.le_of_ble_eq_true rfl, Nat.le_of_ble_eq_true rfl⟩ d_Hop_remove_7 hnt hlocks (Nat.le_of_ble_eq_true rfl) (Nat.le_of_ble_eq_true rfl)
set_option maxHeartbeats 4000000 in
set_option maxRecDepth 100000 in
/-- has -/
theorem c_Hop_has (l : Launch) (hlt : l.stackTraces = false) (D : va_G) (ca a q : Nat → Nat) (K V : IT) (T : BT) (C : IT) (B P : Nat → Nat) (S : IT) (sa : Nat → Nat) (j : Nat) (hj : j < 3) (hc : pw (P j)) (hbd : B j + P j ≤ 256) (key : Int32)  : vx_Met l y_Hop_has w_Hop_has (rmD 7 1 6) (va_Pc [.ref (a 0), .int (nI j), .int key] (hb_X D hCl (wH ca a q K V T C B P S) (tyH ca) sa)) (hX_Q (.inl (some (.int (bI (fnd T K (B j) (P j) (hom key (S j) (P j)) key 0 8).isSome)))) D hCl (wH ca a q K V T C B P S) (hA (wH ca a q K V T C B P S))) (hX_X (.inl (some (.int (bI (fnd T K (B j) (P j) (hom key (S j) (P j)) key 0 8).isSome)))) D hCl (wH ca a q K V T C B P S) (hA (wH ca a q K V T C B P S))) 1 6 (hA (wH ca a q K V T C B P S)) := by
  refine vx_ofW (cc := b_Hop_has) (maxL := 3) (ret := some .boolean) (by decide) rfl ?_
  intro p e s m args below meth c0 s₁ B0 hml hnt hv
  obtain ⟨rfl, hP, hK, hD0, hF, hZ⟩ := hv
  have hx := B0.exec
  have hb := B0.bytes
  have hr := B0.returns
  have hts := atoms_spec (ws := w_Hop_has) B0.pre
  have hown : s.vm.findClass R_Hop = some m.cls := findClass_of_methodNamed B0.named
  have hlocks := B0.notSynchronized
  have hwA : ∀ w ∈ wsA, w.before ([.ref (a 0), .int (nI j), .int key] : List Value).toArray s = true := fun w h => hts w (List.mem_cons_of_mem _ h)
  have X : CallFix p m c0 b_Hop_has 3 s ([.ref (a 0), .int (nI j), .int key] : List Value).toArray wsA R_Hop := ⟨hx, hb, hml, hown, hwA⟩
  have hD := hA_D hD0
  have hS : va_S (hA (wH ca a q K V T C B P S)) s.heap s.heap [] := va_S.rf
  have hl := lv_entry ([.ref (a 0), .int (nI j), .int key]) (n := 3) (Nat.le_of_ble_eq_true rfl)
  rw [lg_entry_eq]
  generalize (lg_sl ([.ref (a 0), .int (nI j), .int key]) ++ List.replicate (3 - (lg_sl ([.ref (a 0), .int (nI j), .int key])).length) Slot.unset).toArray = ls at hl ⊢
  have hl : lv_has ls 3 [(0, .ref (a 0)), (1, .int (nI j)), (2, .int key)] := hl
  have hj4 : j < 4 := by omega
  refine lv_aload_n hx hb d_Hop_has_0 rfl (lv_at hl 0 rfl) ?_
  refine lv_aload_n hx hb d_Hop_has_1 rfl (lv_at hl 0 rfl) ?_
  refine lv_iload_n hx hb d_Hop_has_2 rfl (lv_at hl 1 rfl) ?_
  refine k_partOf X hlt hK hP hD hS hF hZ hl.1 hj (Nat.le_of_ble_eq_true rfl) ⟨Nat.le_of_ble_eq_true rfl, Nat.le_of_ble_eq_true rfl⟩ ⟨Nat.le_of_ble_eq_true rfl, Nat.le_of_ble_eq_true rfl⟩ d_Hop_has_3 (fun H locs hP hD hS => ?_)
  refine lv_iload_n hx hb d_Hop_has_6 rfl (lv_at hl 2 rfl) ?_
  refine k_slotOrNone X hK hP hl.1 hj4 hc hbd (Nat.le_of_ble_eq_true rfl) ⟨Nat.le_of_ble_eq_true rfl, Nat.le_of_ble_eq_true rfl⟩ ⟨Nat.le_of_ble_eq_true rfl, Nat.le_of_ble_eq_true rfl⟩ d_Hop_has_7 ?_
  refine lv_iconst (v := -1) hx hb d_Hop_has_10 (by decide) ?_
  refine lv_icmp_eq (tgt := 18) hx hb d_Hop_has_11 (by decide) (fun h1 => ?_) (fun h1 => ?_)
  · have h2 := (oI_b (fun k hk => Nat.lt_trans (fnd_lt hc hbd _ _ _ hk) (by decide))).mp h1
    refine lv_iconst (v := 0) hx hb d_Hop_has_18 (by decide) ?_
    refine W.widen (k := 1) (n := 6) (Nat.le_of_ble_eq_true rfl) (Nat.le_of_ble_eq_true rfl) ?_
    exact vx_ret (W.zret (v := 0) hx hb hr rfl (fun t ht hW => ⟨_, rfl, by rw [h2]; rfl, by rw [ht]; exact hP, hS.F ht⟩) hS.2.2 d_Hop_has_19)
  · have h2 : fnd T K (B j) (P j) (hom key (S j) (P j)) key 0 8 ≠ none := fun z => h1 ((oI_b (fun k hk => Nat.lt_trans (fnd_lt hc hbd _ _ _ hk) (by decide))).mpr z)
    have h3 : (fnd T K (B j) (P j) (hom key (S j) (P j)) key 0 8).isSome = true := Option.isSome_iff_ne_none.mpr h2
    refine lv_iconst (v := 1) hx hb d_Hop_has_14 (by decide) ?_
    refine lv_goto (tgt := 19) hx hb d_Hop_has_15 (by decide) ?_
    refine W.widen (k := 1) (n := 6) (Nat.le_of_ble_eq_true rfl) (Nat.le_of_ble_eq_true rfl) ?_
    exact vx_ret (W.zret (v := 1) hx hb hr rfl (fun t ht hW => ⟨_, rfl, by rw [h3]; rfl, by rw [ht]; exact hP, hS.F ht⟩) hS.2.2 d_Hop_has_19)
set_option maxHeartbeats 4000000 in
set_option maxRecDepth 100000 in
/-- size -/
theorem c_Hop_size (l : Launch) (hlt : l.stackTraces = false) (D : va_G) (ca a q : Nat → Nat) (K V : IT) (T : BT) (C : IT) (B P : Nat → Nat) (S : IT) (sa : Nat → Nat) (j : Nat) (hj : j < 3) (hc : pw (P j)) (hbd : B j + P j ≤ 256)  : vx_Met l y_Hop_size w_Hop_size (rmD 7 1 6) (va_Pc [.ref (a 0), .int (nI j)] (hb_X D hCl (wH ca a q K V T C B P S) (tyH ca) sa)) (hX_Q (.inl (some (.int (nI (cnt T (B j) (P j)))))) D hCl (wH ca a q K V T C B P S) (hA (wH ca a q K V T C B P S))) (hX_X (.inl (some (.int (nI (cnt T (B j) (P j)))))) D hCl (wH ca a q K V T C B P S) (hA (wH ca a q K V T C B P S))) 1 6 (hA (wH ca a q K V T C B P S)) := by
  refine vx_ofW (cc := b_Hop_size) (maxL := 2) (ret := some .int) (by decide) rfl ?_
  intro p e s m args below meth c0 s₁ B0 hml hnt hv
  obtain ⟨rfl, hP, hK, hD0, hF, hZ⟩ := hv
  have hx := B0.exec
  have hb := B0.bytes
  have hr := B0.returns
  have hts := atoms_spec (ws := w_Hop_size) B0.pre
  have hown : s.vm.findClass R_Hop = some m.cls := findClass_of_methodNamed B0.named
  have hlocks := B0.notSynchronized
  have hwA : ∀ w ∈ wsA, w.before ([.ref (a 0), .int (nI j)] : List Value).toArray s = true := fun w h => hts w (List.mem_cons_of_mem _ h)
  have X : CallFix p m c0 b_Hop_size 2 s ([.ref (a 0), .int (nI j)] : List Value).toArray wsA R_Hop := ⟨hx, hb, hml, hown, hwA⟩
  have hD := hA_D hD0
  have hS : va_S (hA (wH ca a q K V T C B P S)) s.heap s.heap [] := va_S.rf
  have hl := lv_entry ([.ref (a 0), .int (nI j)]) (n := 2) (Nat.le_of_ble_eq_true rfl)
  rw [lg_entry_eq]
  generalize (lg_sl ([.ref (a 0), .int (nI j)]) ++ List.replicate (2 - (lg_sl ([.ref (a 0), .int (nI j)])).length) Slot.unset).toArray = ls at hl ⊢
  have hl : lv_has ls 2 [(0, .ref (a 0)), (1, .int (nI j))] := hl
  have hj4 : j < 4 := by omega
  refine lv_aload_n hx hb d_Hop_size_0 rfl (lv_at hl 0 rfl) ?_
  refine lv_aload_n hx hb d_Hop_size_1 rfl (lv_at hl 0 rfl) ?_
  refine lv_iload_n hx hb d_Hop_size_2 rfl (lv_at hl 1 rfl) ?_
  refine k_partOf X hlt hK hP hD hS hF hZ hl.1 hj (Nat.le_of_ble_eq_true rfl) ⟨Nat.le_of_ble_eq_true rfl, Nat.le_of_ble_eq_true rfl⟩ ⟨Nat.le_of_ble_eq_true rfl, Nat.le_of_ble_eq_true rfl⟩ d_Hop_size_3 (fun H locs hP hD hS => ?_)
  refine k_keysIn X hK hP hl.1 hj4 hbd (Nat.le_of_ble_eq_true rfl) ⟨Nat.le_of_ble_eq_true rfl, Nat.le_of_ble_eq_true rfl⟩ ⟨Nat.le_of_ble_eq_true rfl, Nat.le_of_ble_eq_true rfl⟩ d_Hop_size_6 ?_
  refine W.widen (k := 1) (n := 6) (Nat.le_of_ble_eq_true rfl) (Nat.le_of_ble_eq_true rfl) ?_
  exact vx_ret (W.iret (v := nI (cnt T (B j) (P j))) hx hb hr (fun t ht hW => ⟨_, rfl, rfl, by rw [ht]; exact hP, hS.F ht⟩) hS.2.2 d_Hop_size_9)
set_option maxHeartbeats 4000000 in
set_option maxRecDepth 100000 in
/-- clear -/
theorem c_Hop_clear (l : Launch) (hlt : l.stackTraces = false) (D : va_G) (ca a q : Nat → Nat) (K V : IT) (T : BT) (C : IT) (B P : Nat → Nat) (S : IT) (sa : Nat → Nat) (j : Nat) (hj : j < 3) (hc : pw (P j)) (hbd : B j + P j ≤ 256)  : vx_Met l y_Hop_clear w_Hop_clear (rmD 7 1 6) (va_Pc [.ref (a 0), .int (nI j)] (hb_X D hCl (wH ca a q K V T C B P S) (tyH ca) sa)) (hX_Q (.inl (some (.int (nI (cnt T (B j) (P j)))))) D hCl (wH ca a q K V (clr T (B j) 8) C B (va_up P j 8) S) (hA (wH ca a q K V T C B P S))) (hX_X (.inl (some (.int (nI (cnt T (B j) (P j)))))) D hCl (wH ca a q K V (clr T (B j) 8) C B (va_up P j 8) S) (hA (wH ca a q K V T C B P S))) 1 6 (hA (wH ca a q K V T C B P S)) := by
  refine vx_ofW (cc := b_Hop_clear) (maxL := 4) (ret := some .int) (by decide) rfl ?_
  intro p e s m args below meth c0 s₁ B0 hml hnt hv
  obtain ⟨rfl, hP, hK, hD0, hF, hZ⟩ := hv
  have hx := B0.exec
  have hb := B0.bytes
  have hr := B0.returns
  have hts := atoms_spec (ws := w_Hop_clear) B0.pre
  have hown : s.vm.findClass R_Hop = some m.cls := findClass_of_methodNamed B0.named
  have hlocks := B0.notSynchronized
  have hwA : ∀ w ∈ wsA, w.before ([.ref (a 0), .int (nI j)] : List Value).toArray s = true := fun w h => hts w (List.mem_cons_of_mem _ h)
  have X : CallFix p m c0 b_Hop_clear 4 s ([.ref (a 0), .int (nI j)] : List Value).toArray wsA R_Hop := ⟨hx, hb, hml, hown, hwA⟩
  have hD := hA_D hD0
  have hS : va_S (hA (wH ca a q K V T C B P S)) s.heap s.heap [] := va_S.rf
  have hl := lv_entry ([.ref (a 0), .int (nI j)]) (n := 4) (Nat.le_of_ble_eq_true rfl)
  rw [lg_entry_eq]
  generalize (lg_sl ([.ref (a 0), .int (nI j)]) ++ List.replicate (4 - (lg_sl ([.ref (a 0), .int (nI j)])).length) Slot.unset).toArray = ls at hl ⊢
  have hl : lv_has ls 4 [(0, .ref (a 0)), (1, .int (nI j))] := hl
  have hj4 : j < 4 := by omega
  refine lv_aload_n hx hb d_Hop_clear_0 rfl (lv_at hl 0 rfl) ?_
  refine lv_iload_n hx hb d_Hop_clear_1 rfl (lv_at hl 1 rfl) ?_
  refine k_partOf X hlt hK hP hD hS hF hZ hl.1 hj (Nat.le_of_ble_eq_true rfl) ⟨Nat.le_of_ble_eq_true rfl, Nat.le_of_ble_eq_true rfl⟩ ⟨Nat.le_of_ble_eq_true rfl, Nat.le_of_ble_eq_true rfl⟩ d_Hop_clear_2 (fun H locs hP hD hS => ?_)
  refine lv_astore_n (lv' := [(2, .ref (q j)), (0, .ref (a 0)), (1, .int (nI j))]) hx hb d_Hop_clear_5 rfl hl (by decide) rfl (fun ls hl => ?_)
  refine lv_aload_n hx hb d_Hop_clear_6 rfl (lv_at hl 1 rfl) ?_
  refine lv_aload_n hx hb d_Hop_clear_7 rfl (lv_at hl 0 rfl) ?_
  refine k_keysIn X hK hP hl.1 hj4 hbd (Nat.le_of_ble_eq_true rfl) ⟨Nat.le_of_ble_eq_true rfl, Nat.le_of_ble_eq_true rfl⟩ ⟨Nat.le_of_ble_eq_true rfl, Nat.le_of_ble_eq_true rfl⟩ d_Hop_clear_8 ?_
  refine lv_istore_n (lv' := [(3, .int (nI (cnt T (B j) (P j)))), (2, .ref (q j)), (0, .ref (a 0)), (1, .int (nI j))]) hx hb d_Hop_clear_11 rfl hl (by decide) rfl (fun ls hl => ?_)
  refine lv_aload_n hx hb d_Hop_clear_12 rfl (lv_at hl 1 rfl) ?_
  refine lv_bipush (v := 8) hx hb d_Hop_clear_13 (by decide) ?_
  refine hp_capacity X hK hP hD hS (x := 8) hj4 d_Hop_clear_15 (fun H locs hP hD hS => ?_)
  refine lv_aload_n hx hb d_Hop_clear_18 rfl (lv_at hl 2 rfl) ?_
  refine lv_aload_n hx hb d_Hop_clear_19 rfl (lv_at hl 1 rfl) ?_
  refine k_freeAll X hK hP hD hS hl.1 hj4 (by rw [va_up_self]; have := pw_ge hc; omega) (Nat.le_of_ble_eq_true rfl) ⟨Nat.le_of_ble_eq_true rfl, Nat.le_of_ble_eq_true rfl⟩ ⟨Nat.le_of_ble_eq_true rfl, Nat.le_of_ble_eq_true rfl⟩ d_Hop_clear_20 (fun H locs hP hD hS => ?_)
  rw [va_up_self] at hP
  refine lv_iload_n hx hb d_Hop_clear_23 rfl (lv_at hl 0 rfl) ?_
  refine W.widen (k := 1) (n := 6) (Nat.le_of_ble_eq_true rfl) (Nat.le_of_ble_eq_true rfl) ?_
  exact vx_ret (W.iret (v := nI (cnt T (B j) (P j))) hx hb hr (fun t ht hW => ⟨_, rfl, rfl, by rw [ht]; exact hP, hS.F ht⟩) hS.2.2 d_Hop_clear_24)
set_option maxHeartbeats 4000000 in
set_option maxRecDepth 100000 in
/-- about -/
theorem c_Hop_about_0 (l : Launch) (hlt : l.stackTraces = false) (D : va_G) (ca a q : Nat → Nat) (K V : IT) (T : BT) (C : IT) (B P : Nat → Nat) (S : IT) (sa : Nat → Nat) (j : Nat) (hj : j < 3) (hc : pw (P j)) (hbd : B j + P j ≤ 256)  : vx_Met l y_Hop_about w_Hop_about (rmD 7 2 12) (va_Pc [.ref (a 0), .int (nI j), .int 0] (hb_X D hCl (wH ca a q K V T C B P S) (tyH ca) sa)) (hX_Q (.inl (some (.int (nI (P j))))) D hCl (wH ca a q K V T C B P S) (hA (wH ca a q K V T C B P S))) (hX_X (.inl (some (.int (nI (P j))))) D hCl (wH ca a q K V T C B P S) (hA (wH ca a q K V T C B P S))) 2 12 (hA (wH ca a q K V T C B P S)) := by
  refine vx_ofW (cc := b_Hop_about) (maxL := 4) (ret := some .int) (by decide) rfl ?_
  intro p e s m args below meth c0 s₁ B0 hml hnt hv
  obtain ⟨rfl, hP, hK, hD0, hF, hZ⟩ := hv
  have hx := B0.exec
  have hb := B0.bytes
  have hr := B0.returns
  have hts := atoms_spec (ws := w_Hop_about) B0.pre
  have hown : s.vm.findClass R_Hop = some m.cls := findClass_of_methodNamed B0.named
  have hlocks := B0.notSynchronized
  have hwA : ∀ w ∈ wsA, w.before ([.ref (a 0), .int (nI j), .int 0] : List Value).toArray s = true := fun w h => hts w (List.mem_cons_of_mem _ h)
  have X : CallFix p m c0 b_Hop_about 4 s ([.ref (a 0), .int (nI j), .int 0] : List Value).toArray wsA R_Hop := ⟨hx, hb, hml, hown, hwA⟩
  have hD := hA_D hD0
  have hS : va_S (hA (wH ca a q K V T C B P S)) s.heap s.heap [] := va_S.rf
  have hl := lv_entry ([.ref (a 0), .int (nI j), .int 0]) (n := 4) (Nat.le_of_ble_eq_true rfl)
  rw [lg_entry_eq]
  generalize (lg_sl ([.ref (a 0), .int (nI j), .int 0]) ++ List.replicate (4 - (lg_sl ([.ref (a 0), .int (nI j), .int 0])).length) Slot.unset).toArray = ls at hl ⊢
  have hl : lv_has ls 4 [(0, .ref (a 0)), (1, .int (nI j)), (2, .int 0)] := hl
  have hj4 : j < 4 := by omega
  refine lv_aload_n hx hb d_Hop_about_0 rfl (lv_at hl 0 rfl) ?_
  refine lv_iload_n hx hb d_Hop_about_1 rfl (lv_at hl 1 rfl) ?_
  refine k_partOf X hlt hK hP hD hS hF hZ hl.1 hj (Nat.le_of_ble_eq_true rfl) ⟨Nat.le_of_ble_eq_true rfl, Nat.le_of_ble_eq_true rfl⟩ ⟨Nat.le_of_ble_eq_true rfl, Nat.le_of_ble_eq_true rfl⟩ d_Hop_about_2 (fun H locs hP hD hS => ?_)
  refine lv_astore_n (lv' := [(3, .ref (q j)), (0, .ref (a 0)), (1, .int (nI j)), (2, .int 0)]) hx hb d_Hop_about_5 rfl hl (by decide) rfl (fun ls hl => ?_)
  refine lv_iload_n hx hb d_Hop_about_6 rfl (lv_at hl 3 rfl) ?_
  refine lv_tableIn (off := 25) (tgt := 32) hx hb d_Hop_about_7 (by decide) (by decide) (by decide) (by decide) ?_
  refine lv_aload_n hx hb d_Hop_about_32 rfl (lv_at hl 0 rfl) ?_
  refine hg_capacity X hK hP hj4 d_Hop_about_33 ?_
  refine W.widen (k := 2) (n := 12) (Nat.le_of_ble_eq_true rfl) (Nat.le_of_ble_eq_true rfl) ?_
  exact vx_ret (W.iret (v := nI (P j)) hx hb hr (fun t ht hW => ⟨_, rfl, rfl, by rw [ht]; exact hP, hS.F ht⟩) hS.2.2 d_Hop_about_36)
set_option maxHeartbeats 4000000 in
set_option maxRecDepth 100000 in
/-- about -/
theorem c_Hop_about_1 (l : Launch) (hlt : l.stackTraces = false) (D : va_G) (ca a q : Nat → Nat) (K V : IT) (T : BT) (C : IT) (B P : Nat → Nat) (S : IT) (sa : Nat → Nat) (j : Nat) (hj : j < 3) (hc : pw (P j)) (hbd : B j + P j ≤ 256)  : vx_Met l y_Hop_about w_Hop_about (rmD 7 2 12) (va_Pc [.ref (a 0), .int (nI j), .int 1] (hb_X D hCl (wH ca a q K V T C B P S) (tyH ca) sa)) (hX_Q (.inl (some (.int (nI (B j))))) D hCl (wH ca a q K V T C B P S) (hA (wH ca a q K V T C B P S))) (hX_X (.inl (some (.int (nI (B j))))) D hCl (wH ca a q K V T C B P S) (hA (wH ca a q K V T C B P S))) 2 12 (hA (wH ca a q K V T C B P S)) := by
  refine vx_ofW (cc := b_Hop_about) (maxL := 4) (ret := some .int) (by decide) rfl ?_
  intro p e s m args below meth c0 s₁ B0 hml hnt hv
  obtain ⟨rfl, hP, hK, hD0, hF, hZ⟩ := hv
  have hx := B0.exec
  have hb := B0.bytes
  have hr := B0.returns
  have hts := atoms_spec (ws := w_Hop_about) B0.pre
  have hown : s.vm.findClass R_Hop = some m.cls := findClass_of_methodNamed B0.named
  have hlocks := B0.notSynchronized
  have hwA : ∀ w ∈ wsA, w.before ([.ref (a 0), .int (nI j), .int 1] : List Value).toArray s = true := fun w h => hts w (List.mem_cons_of_mem _ h)
  have X : CallFix p m c0 b_Hop_about 4 s ([.ref (a 0), .int (nI j), .int 1] : List Value).toArray wsA R_Hop := ⟨hx, hb, hml, hown, hwA⟩
  have hD := hA_D hD0
  have hS : va_S (hA (wH ca a q K V T C B P S)) s.heap s.heap [] := va_S.rf
  have hl := lv_entry ([.ref (a 0), .int (nI j), .int 1]) (n := 4) (Nat.le_of_ble_eq_true rfl)
  rw [lg_entry_eq]
  generalize (lg_sl ([.ref (a 0), .int (nI j), .int 1]) ++ List.replicate (4 - (lg_sl ([.ref (a 0), .int (nI j), .int 1])).length) Slot.unset).toArray = ls at hl ⊢
  have hl : lv_has ls 4 [(0, .ref (a 0)), (1, .int (nI j)), (2, .int 1)] := hl
  have hj4 : j < 4 := by omega
  refine lv_aload_n hx hb d_Hop_about_0 rfl (lv_at hl 0 rfl) ?_
  refine lv_iload_n hx hb d_Hop_about_1 rfl (lv_at hl 1 rfl) ?_
  refine k_partOf X hlt hK hP hD hS hF hZ hl.1 hj (Nat.le_of_ble_eq_true rfl) ⟨Nat.le_of_ble_eq_true rfl, Nat.le_of_ble_eq_true rfl⟩ ⟨Nat.le_of_ble_eq_true rfl, Nat.le_of_ble_eq_true rfl⟩ d_Hop_about_2 (fun H locs hP hD hS => ?_)
  refine lv_astore_n (lv' := [(3, .ref (q j)), (0, .ref (a 0)), (1, .int (nI j)), (2, .int 1)]) hx hb d_Hop_about_5 rfl hl (by decide) rfl (fun ls hl => ?_)
  refine lv_iload_n hx hb d_Hop_about_6 rfl (lv_at hl 3 rfl) ?_
  refine lv_tableIn (off := 30) (tgt := 37) hx hb d_Hop_about_7 (by decide) (by decide) (by decide) (by decide) ?_
  refine lv_aload_n hx hb d_Hop_about_37 rfl (lv_at hl 0 rfl) ?_
  refine hg_base X hK hP hj4 d_Hop_about_38 ?_
  refine W.widen (k := 2) (n := 12) (Nat.le_of_ble_eq_true rfl) (Nat.le_of_ble_eq_true rfl) ?_
  exact vx_ret (W.iret (v := nI (B j)) hx hb hr (fun t ht hW => ⟨_, rfl, rfl, by rw [ht]; exact hP, hS.F ht⟩) hS.2.2 d_Hop_about_41)
set_option maxHeartbeats 4000000 in
set_option maxRecDepth 100000 in
/-- about -/
theorem c_Hop_about_2 (l : Launch) (hlt : l.stackTraces = false) (D : va_G) (ca a q : Nat → Nat) (K V : IT) (T : BT) (C : IT) (B P : Nat → Nat) (S : IT) (sa : Nat → Nat) (j : Nat) (hj : j < 3) (hc : pw (P j)) (hbd : B j + P j ≤ 256)  : vx_Met l y_Hop_about w_Hop_about (rmD 7 2 12) (va_Pc [.ref (a 0), .int (nI j), .int 2] (hb_X D hCl (wH ca a q K V T C B P S) (tyH ca) sa)) (hX_Q (.inl (some (.int (S j)))) D hCl (wH ca a q K V T C B P S) (hA (wH ca a q K V T C B P S))) (hX_X (.inl (some (.int (S j)))) D hCl (wH ca a q K V T C B P S) (hA (wH ca a q K V T C B P S))) 2 12 (hA (wH ca a q K V T C B P S)) := by
  refine vx_ofW (cc := b_Hop_about) (maxL := 4) (ret := some .int) (by decide) rfl ?_
  intro p e s m args below meth c0 s₁ B0 hml hnt hv
  obtain ⟨rfl, hP, hK, hD0, hF, hZ⟩ := hv
  have hx := B0.exec
  have hb := B0.bytes
  have hr := B0.returns
  have hts := atoms_spec (ws := w_Hop_about) B0.pre
  have hown : s.vm.findClass R_Hop = some m.cls := findClass_of_methodNamed B0.named
  have hlocks := B0.notSynchronized
  have hwA : ∀ w ∈ wsA, w.before ([.ref (a 0), .int (nI j), .int 2] : List Value).toArray s = true := fun w h => hts w (List.mem_cons_of_mem _ h)
  have X : CallFix p m c0 b_Hop_about 4 s ([.ref (a 0), .int (nI j), .int 2] : List Value).toArray wsA R_Hop := ⟨hx, hb, hml, hown, hwA⟩
  have hD := hA_D hD0
  have hS : va_S (hA (wH ca a q K V T C B P S)) s.heap s.heap [] := va_S.rf
  have hl := lv_entry ([.ref (a 0), .int (nI j), .int 2]) (n := 4) (Nat.le_of_ble_eq_true rfl)
  rw [lg_entry_eq]
  generalize (lg_sl ([.ref (a 0), .int (nI j), .int 2]) ++ List.replicate (4 - (lg_sl ([.ref (a 0), .int (nI j), .int 2])).length) Slot.unset).toArray = ls at hl ⊢
  have hl : lv_has ls 4 [(0, .ref (a 0)), (1, .int (nI j)), (2, .int 2)] := hl
  have hj4 : j < 4 := by omega
  refine lv_aload_n hx hb d_Hop_about_0 rfl (lv_at hl 0 rfl) ?_
  refine lv_iload_n hx hb d_Hop_about_1 rfl (lv_at hl 1 rfl) ?_
  refine k_partOf X hlt hK hP hD hS hF hZ hl.1 hj (Nat.le_of_ble_eq_true rfl) ⟨Nat.le_of_ble_eq_true rfl, Nat.le_of_ble_eq_true rfl⟩ ⟨Nat.le_of_ble_eq_true rfl, Nat.le_of_ble_eq_true rfl⟩ d_Hop_about_2 (fun H locs hP hD hS => ?_)
  refine lv_astore_n (lv' := [(3, .ref (q j)), (0, .ref (a 0)), (1, .int (nI j)), (2, .int 2)]) hx hb d_Hop_about_5 rfl hl (by decide) rfl (fun ls hl => ?_)
  refine lv_iload_n hx hb d_Hop_about_6 rfl (lv_at hl 3 rfl) ?_
  refine lv_tableIn (off := 35) (tgt := 42) hx hb d_Hop_about_7 (by decide) (by decide) (by decide) (by decide) ?_
  refine lv_aload_n hx hb d_Hop_about_42 rfl (lv_at hl 0 rfl) ?_
  refine hg_seed X hK hP hj4 d_Hop_about_43 ?_
  refine W.widen (k := 2) (n := 12) (Nat.le_of_ble_eq_true rfl) (Nat.le_of_ble_eq_true rfl) ?_
  exact vx_ret (W.iret (v := S j) hx hb hr (fun t ht hW => ⟨_, rfl, rfl, by rw [ht]; exact hP, hS.F ht⟩) hS.2.2 d_Hop_about_46)
set_option maxHeartbeats 4000000 in
set_option maxRecDepth 100000 in
/-- about -/
theorem c_Hop_about_no (l : Launch) (hlt : l.stackTraces = false) (D : va_G) (ca a q : Nat → Nat) (K V : IT) (T : BT) (C : IT) (B P : Nat → Nat) (S : IT) (sa : Nat → Nat) (j : Nat) (hj : j < 3) (hc : pw (P j)) (hbd : B j + P j ≤ 256) (wh : Int32) (hw : wh.toInt < 0 ∨ 2 < wh.toInt) : vx_Met l y_Hop_about w_Hop_about (rmD 7 2 12) (va_Pc [.ref (a 0), .int (nI j), .int wh] (hb_X D hCl (wH ca a q K V T C B P S) (tyH ca) sa)) (hX_Q (.inr "java/lang/IllegalArgumentException") D hCl (wH ca a q K V T C B P S) (hA (wH ca a q K V T C B P S))) (hX_X (.inr "java/lang/IllegalArgumentException") D hCl (wH ca a q K V T C B P S) (hA (wH ca a q K V T C B P S))) 2 12 (hA (wH ca a q K V T C B P S)) := by
  refine vx_ofW (cc := b_Hop_about) (maxL := 4) (ret := some .int) (by decide) rfl ?_
  intro p e s m args below meth c0 s₁ B0 hml hnt hv
  obtain ⟨rfl, hP, hK, hD0, hF, hZ⟩ := hv
  have hx := B0.exec
  have hb := B0.bytes
  have hr := B0.returns
  have hts := atoms_spec (ws := w_Hop_about) B0.pre
  have hown : s.vm.findClass R_Hop = some m.cls := findClass_of_methodNamed B0.named
  have hlocks := B0.notSynchronized
  have hwA : ∀ w ∈ wsA, w.before ([.ref (a 0), .int (nI j), .int wh] : List Value).toArray s = true := fun w h => hts w (List.mem_cons_of_mem _ h)
  have X : CallFix p m c0 b_Hop_about 4 s ([.ref (a 0), .int (nI j), .int wh] : List Value).toArray wsA R_Hop := ⟨hx, hb, hml, hown, hwA⟩
  have hD := hA_D hD0
  have hS : va_S (hA (wH ca a q K V T C B P S)) s.heap s.heap [] := va_S.rf
  have hl := lv_entry ([.ref (a 0), .int (nI j), .int wh]) (n := 4) (Nat.le_of_ble_eq_true rfl)
  rw [lg_entry_eq]
  generalize (lg_sl ([.ref (a 0), .int (nI j), .int wh]) ++ List.replicate (4 - (lg_sl ([.ref (a 0), .int (nI j), .int wh])).length) Slot.unset).toArray = ls at hl ⊢
  have hl : lv_has ls 4 [(0, .ref (a 0)), (1, .int (nI j)), (2, .int wh)] := hl
  have hj4 : j < 4 := by omega
  refine lv_aload_n hx hb d_Hop_about_0 rfl (lv_at hl 0 rfl) ?_
  refine lv_iload_n hx hb d_Hop_about_1 rfl (lv_at hl 1 rfl) ?_
  refine k_partOf X hlt hK hP hD hS hF hZ hl.1 hj (Nat.le_of_ble_eq_true rfl) ⟨Nat.le_of_ble_eq_true rfl, Nat.le_of_ble_eq_true rfl⟩ ⟨Nat.le_of_ble_eq_true rfl, Nat.le_of_ble_eq_true rfl⟩ d_Hop_about_2 (fun H locs hP hD hS => ?_)
  refine lv_astore_n (lv' := [(3, .ref (q j)), (0, .ref (a 0)), (1, .int (nI j)), (2, .int wh)]) hx hb d_Hop_about_5 rfl hl (by decide) rfl (fun ls hl => ?_)
  refine lv_iload_n hx hb d_Hop_about_6 rfl (lv_at hl 3 rfl) ?_
  refine lv_tableOut (tgt := 47) hx hb d_Hop_about_7 hw (by decide) ?_
  exact hX_throw (k := 3) (text := "no such thing about a map") X hlt hF hZ hP hS hl.1 by7_0 by7_1 by7_2 by7_5 (by decide) m_348 m_50 (by decide +kernel) at_IAE ot_IAE d_Hop_about_47 d_Hop_about_50 d_Hop_about_51 d_Hop_about_53 d_Hop_about_56 hnt ⟨Nat.le_of_ble_eq_true rfl, Nat.le_of_ble_eq_true rfl⟩ (Nat.le_of_ble_eq_true rfl) (Nat.le_of_ble_eq_true rfl) (Nat.le_of_ble_eq_true rfl) hlocks rfl (Nat.le_of_ble_eq_true rfl) (Nat.le_of_ble_eq_true rfl)
set_option maxHeartbeats 4000000 in
set_option maxRecDepth 100000 in
/-- home -/
theorem c_Hop_home (l : Launch) (hlt : l.stackTraces = false) (D : va_G) (ca a q : Nat → Nat) (K V : IT) (T : BT) (C : IT) (B P : Nat → Nat) (S : IT) (sa : Nat → Nat) (j : Nat) (hj : j < 3) (hc : pw (P j)) (hbd : B j + P j ≤ 256) (key : Int32)  : vx_Met l y_Hop_home w_Hop_home (rmD 7 1 6) (va_Pc [.ref (a 0), .int (nI j), .int key] (hb_X D hCl (wH ca a q K V T C B P S) (tyH ca) sa)) (hX_Q (.inl (some (.int (nI (hom key (S j) (P j)))))) D hCl (wH ca a q K V T C B P S) (hA (wH ca a q K V T C B P S))) (hX_X (.inl (some (.int (nI (hom key (S j) (P j)))))) D hCl (wH ca a q K V T C B P S) (hA (wH ca a q K V T C B P S))) 1 6 (hA (wH ca a q K V T C B P S)) := by
  refine vx_ofW (cc := b_Hop_home) (maxL := 3) (ret := some .int) (by decide) rfl ?_
  intro p e s m args below meth c0 s₁ B0 hml hnt hv
  obtain ⟨rfl, hP, hK, hD0, hF, hZ⟩ := hv
  have hx := B0.exec
  have hb := B0.bytes
  have hr := B0.returns
  have hts := atoms_spec (ws := w_Hop_home) B0.pre
  have hown : s.vm.findClass R_Hop = some m.cls := findClass_of_methodNamed B0.named
  have hlocks := B0.notSynchronized
  have hwA : ∀ w ∈ wsA, w.before ([.ref (a 0), .int (nI j), .int key] : List Value).toArray s = true := fun w h => hts w (List.mem_cons_of_mem _ h)
  have X : CallFix p m c0 b_Hop_home 3 s ([.ref (a 0), .int (nI j), .int key] : List Value).toArray wsA R_Hop := ⟨hx, hb, hml, hown, hwA⟩
  have hD := hA_D hD0
  have hS : va_S (hA (wH ca a q K V T C B P S)) s.heap s.heap [] := va_S.rf
  have hl := lv_entry ([.ref (a 0), .int (nI j), .int key]) (n := 3) (Nat.le_of_ble_eq_true rfl)
  rw [lg_entry_eq]
  generalize (lg_sl ([.ref (a 0), .int (nI j), .int key]) ++ List.replicate (3 - (lg_sl ([.ref (a 0), .int (nI j), .int key])).length) Slot.unset).toArray = ls at hl ⊢
  have hl : lv_has ls 3 [(0, .ref (a 0)), (1, .int (nI j)), (2, .int key)] := hl
  have hj4 : j < 4 := by omega
  refine lv_aload_n hx hb d_Hop_home_0 rfl (lv_at hl 0 rfl) ?_
  refine lv_iload_n hx hb d_Hop_home_1 rfl (lv_at hl 1 rfl) ?_
  refine k_partOf X hlt hK hP hD hS hF hZ hl.1 hj (Nat.le_of_ble_eq_true rfl) ⟨Nat.le_of_ble_eq_true rfl, Nat.le_of_ble_eq_true rfl⟩ ⟨Nat.le_of_ble_eq_true rfl, Nat.le_of_ble_eq_true rfl⟩ d_Hop_home_2 (fun H locs hP hD hS => ?_)
  refine lv_iload_n hx hb d_Hop_home_5 rfl (lv_at hl 2 rfl) ?_
  refine k_homeOf X hK hP hl.1 hc hj4 (Nat.le_of_ble_eq_true rfl) ⟨Nat.le_of_ble_eq_true rfl, Nat.le_of_ble_eq_true rfl⟩ ⟨Nat.le_of_ble_eq_true rfl, Nat.le_of_ble_eq_true rfl⟩ d_Hop_home_6 ?_
  refine W.widen (k := 1) (n := 6) (Nat.le_of_ble_eq_true rfl) (Nat.le_of_ble_eq_true rfl) ?_
  exact vx_ret (W.iret (v := nI (hom key (S j) (P j))) hx hb hr (fun t ht hW => ⟨_, rfl, rfl, by rw [ht]; exact hP, hS.F ht⟩) hS.2.2 d_Hop_home_9)
