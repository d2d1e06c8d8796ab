set_option maxHeartbeats 4000000 in
set_option maxRecDepth 100000 in
/-- the law's put -/
theorem c_Law_put_ok (l : Launch) (D : va_G) (ws w1 : va_W) (tys : List (ClassId × FieldType)) (sa : Nat → Nat) (h0 o co : Nat) (fs : List Value) (f : Nat → Int64) (p0 p1 p2 : Int32) (v : Int32) (hr0 : ws[0]? = some (h0, .inr (0, fs))) (hsub : ∀ x, hA w1 x → hA ws x) (hd1 : ∀ A : Nat → Prop, va_D A ws → va_D A w1) (hM : vx_Met l y_Hop_put w_Hop_put (rmD 7 2 12) (va_Pc [.ref h0, .int p0, .int p1, .int p2] (hb_X D hCl ws tys sa)) (hX_Q (.inl (some (.int v))) D hCl w1 (hA ws)) (hX_X (.inl (some (.int v))) D hCl w1 (hA ws)) 2 12 (hA ws)) : Met l y_Law_put w_Law_put (rmD 8 2 12) (va_Pc [.ref h0, .int p0, .int p1, .int p2, .ref o] (fun U => hb_X D hCl (oc o co f :: ws) ((co, .long) :: tys) sa U ∧ xN U)) (hq_W (some (.int 0)) D hCl (oc o co (vp_updL f 0 (if v = 0 then 0 else 1)) :: w1) (hA (oc o co f :: ws))) 2 12 (hA (oc o co f :: ws)) := by
  refine va_MetW (cc := b_Law_put) (maxL := 6) (ret := some .int) (by decide) rfl ?_
  intro p e s m args below meth c0 s₁ B0 hml hv
  obtain ⟨rfl, ⟨hPL, hKL, hD0, hF, hZ⟩, hN⟩ := hv
  have hx := B0.exec
  have hb := B0.bytes
  have hr := B0.returns
  have hts := atoms_spec (ws := w_Law_put) B0.pre
  have hown : s.vm.findClass R_Law = some m.cls := findClass_of_methodNamed B0.named
  have hlocks := B0.notSynchronized
  have hwA : ∀ w ∈ wsA, w.before ([.ref h0, .int p0, .int p1, .int p2, .ref o] : List Value).toArray s = true := fun w h => hts w (List.mem_cons_of_mem _ h)
  have X : CallFix p m c0 b_Law_put 6 s ([.ref h0, .int p0, .int p1, .int p2, .ref o] : List Value).toArray wsA R_Law := ⟨hx, hb, hml, hown, hwA⟩
  have hDL := hA_D hD0
  have hS : va_S (hA (oc o co f :: ws)) s.heap s.heap [] := va_S.rf
  have hl := lv_entry ([.ref h0, .int p0, .int p1, .int p2, .ref o]) (n := 6) (Nat.le_of_ble_eq_true rfl)
  rw [lg_entry_eq]
  generalize (lg_sl ([.ref h0, .int p0, .int p1, .int p2, .ref o]) ++ List.replicate (6 - (lg_sl ([.ref h0, .int p0, .int p1, .int p2, .ref o])).length) Slot.unset).toArray = ls at hl ⊢
  have hl : lv_has ls 6 [(0, .ref h0), (1, .int p0), (2, .int p1), (3, .int p2), (4, .ref o)] := hl
  have htab := vx_table (x := y_Law_put) B0 (hts _ List.mem_cons_self)
  have hP := P_tl hPL
  have hK := K_tl hKL
  have hD := D_tl hDL
  have hno := D_hd hDL
  have hol : o < s.heap.size := (hPL 0 _ rfl).lt
  refine lv_aload hx hb d_Law_put_0 (lv_at hl 4 rfl) ?_
  refine lv_iconst (v := 0) hx hb d_Law_put_2 (by decide) ?_
  refine lv_aload_n hx hb d_Law_put_3 rfl (lv_at hl 0 rfl) ?_
  refine lv_iload_n hx hb d_Law_put_4 rfl (lv_at hl 1 rfl) ?_
  refine lv_iload_n hx hb d_Law_put_5 rfl (lv_at hl 2 rfl) ?_
  refine lv_iload_n hx hb d_Law_put_6 rfl (lv_at hl 3 rfl) ?_
  refine hX_VF (As := [.int p0, .int p1, .int p2]) (C := R_Hop) X hM (cwV 3 X.2.2.2.2 g_Law_Hop_put rfl rfl rfl (by decide +kernel) ⟨Nat.le_of_ble_eq_true rfl, Nat.le_of_ble_eq_true rfl⟩) hP hK hD (hd1 _ hD) hS hF hZ (va_recv hK hP (ci := 0) (q := (R_Hop, F_Hop, 6)) rfl hr0) rfl hl.1 rfl (Nat.le_of_ble_eq_true rfl) ⟨Nat.le_of_ble_eq_true rfl, Nat.le_of_ble_eq_true rfl⟩ d_Law_put_7 (fun E ce q9 H1 locs1 h _ _ _ _ _ _ _ => nomatch h) (fun v9 H locs h hP hD hS hfr => ?_)
  cases h
  have hPL1 := P_cons ((hPL 0 _ rfl).kept (hfr o hol hno)) hP
  have hDL1 := D_cons (x := oc o co f) (hDL.2 0 _ rfl) hD (fun z => hno (hsub o z))
  refine lv_if_eq (tgt := 17) hx hb d_Law_put_10 (by decide) (fun h1 => ?_) (fun h1 => ?_)
  · refine lv_lconst (v := 0) hx hb d_Law_put_17 rfl ?_
    refine va_last hx hb hKL hPL1 hDL1 hS 0 0 rfl rfl (vp_in_nI (n := 0) (by decide) (by decide)) d_Law_put_18 (fun H locs hP hD hS => ?_)
    refine lv_goto (tgt := 30) hx hb d_Law_put_19 (by decide) ?_
    refine lv_iconst (v := 0) hx hb d_Law_put_30 (by decide) ?_
    refine W.widen (k := 2) (n := 12) (Nat.le_of_ble_eq_true rfl) (Nat.le_of_ble_eq_true rfl) ?_
    exact W.iret (v := 0) hx hb hr (fun t ht hW => ⟨rfl, by rw [ht, if_pos h1]; exact hP, hS.F ht⟩) hS.2.2 d_Law_put_31
  · refine lv_lconst (v := 1) hx hb d_Law_put_13 rfl ?_
    refine lv_goto (tgt := 18) hx hb d_Law_put_14 (by decide) ?_
    refine va_last hx hb hKL hPL1 hDL1 hS 0 0 rfl rfl (vp_in_nI (n := 0) (by decide) (by decide)) d_Law_put_18 (fun H locs hP hD hS => ?_)
    refine lv_goto (tgt := 30) hx hb d_Law_put_19 (by decide) ?_
    refine lv_iconst (v := 0) hx hb d_Law_put_30 (by decide) ?_
    refine W.widen (k := 2) (n := 12) (Nat.le_of_ble_eq_true rfl) (Nat.le_of_ble_eq_true rfl) ?_
    exact W.iret (v := 0) hx hb hr (fun t ht hW => ⟨rfl, by rw [ht, if_neg h1]; exact hP, hS.F ht⟩) hS.2.2 d_Law_put_31
set_option maxHeartbeats 4000000 in
set_option maxRecDepth 100000 in
/-- the law's put -/
theorem c_Law_put_io (l : Launch) (D : va_G) (ws w1 : va_W) (tys : List (ClassId × FieldType)) (sa : Nat → Nat) (h0 o co : Nat) (fs : List Value) (f : Nat → Int64) (p0 p1 p2 : Int32)  (hr0 : ws[0]? = some (h0, .inr (0, fs))) (hsub : ∀ x, hA w1 x → hA ws x) (hd1 : ∀ A : Nat → Prop, va_D A ws → va_D A w1) (hM : vx_Met l y_Hop_put w_Hop_put (rmD 7 2 12) (va_Pc [.ref h0, .int p0, .int p1, .int p2] (hb_X D hCl ws tys sa)) (hX_Q (.inr "java/lang/IndexOutOfBoundsException") D hCl w1 (hA ws)) (hX_X (.inr "java/lang/IndexOutOfBoundsException") D hCl w1 (hA ws)) 2 12 (hA ws)) : Met l y_Law_put w_Law_put (rmD 8 2 12) (va_Pc [.ref h0, .int p0, .int p1, .int p2, .ref o] (fun U => hb_X D hCl (oc o co f :: ws) ((co, .long) :: tys) sa U ∧ xN U)) (hq_W (some (.int 1)) D hCl (oc o co (f) :: w1) (hA (oc o co f :: ws))) 2 12 (hA (oc o co f :: ws)) := by
  refine va_MetW (cc := b_Law_put) (maxL := 6) (ret := some .int) (by decide) rfl ?_
  intro p e s m args below meth c0 s₁ B0 hml hv
  obtain ⟨rfl, ⟨hPL, hKL, hD0, hF, hZ⟩, hN⟩ := hv
  have hx := B0.exec
  have hb := B0.bytes
  have hr := B0.returns
  have hts := atoms_spec (ws := w_Law_put) B0.pre
  have hown : s.vm.findClass R_Law = some m.cls := findClass_of_methodNamed B0.named
  have hlocks := B0.notSynchronized
  have hwA : ∀ w ∈ wsA, w.before ([.ref h0, .int p0, .int p1, .int p2, .ref o] : List Value).toArray s = true := fun w h => hts w (List.mem_cons_of_mem _ h)
  have X : CallFix p m c0 b_Law_put 6 s ([.ref h0, .int p0, .int p1, .int p2, .ref o] : List Value).toArray wsA R_Law := ⟨hx, hb, hml, hown, hwA⟩
  have hDL := hA_D hD0
  have hS : va_S (hA (oc o co f :: ws)) s.heap s.heap [] := va_S.rf
  have hl := lv_entry ([.ref h0, .int p0, .int p1, .int p2, .ref o]) (n := 6) (Nat.le_of_ble_eq_true rfl)
  rw [lg_entry_eq]
  generalize (lg_sl ([.ref h0, .int p0, .int p1, .int p2, .ref o]) ++ List.replicate (6 - (lg_sl ([.ref h0, .int p0, .int p1, .int p2, .ref o])).length) Slot.unset).toArray = ls at hl ⊢
  have hl : lv_has ls 6 [(0, .ref h0), (1, .int p0), (2, .int p1), (3, .int p2), (4, .ref o)] := hl
  have htab := vx_table (x := y_Law_put) B0 (hts _ List.mem_cons_self)
  have hP := P_tl hPL
  have hK := K_tl hKL
  have hD := D_tl hDL
  have hno := D_hd hDL
  have hol : o < s.heap.size := (hPL 0 _ rfl).lt
  refine lv_aload hx hb d_Law_put_0 (lv_at hl 4 rfl) ?_
  refine lv_iconst (v := 0) hx hb d_Law_put_2 (by decide) ?_
  refine lv_aload_n hx hb d_Law_put_3 rfl (lv_at hl 0 rfl) ?_
  refine lv_iload_n hx hb d_Law_put_4 rfl (lv_at hl 1 rfl) ?_
  refine lv_iload_n hx hb d_Law_put_5 rfl (lv_at hl 2 rfl) ?_
  refine lv_iload_n hx hb d_Law_put_6 rfl (lv_at hl 3 rfl) ?_
  refine hX_VF (As := [.int p0, .int p1, .int p2]) (C := R_Hop) X hM (cwV 3 X.2.2.2.2 g_Law_Hop_put rfl rfl rfl (by decide +kernel) ⟨Nat.le_of_ble_eq_true rfl, Nat.le_of_ble_eq_true rfl⟩) hP hK hD (hd1 _ hD) hS hF hZ (va_recv hK hP (ci := 0) (q := (R_Hop, F_Hop, 6)) rfl hr0) rfl hl.1 rfl (Nat.le_of_ble_eq_true rfl) ⟨Nat.le_of_ble_eq_true rfl, Nat.le_of_ble_eq_true rfl⟩ d_Law_put_7 (fun E ce q9 H locs h hP hD hS h4 h5 h6 hfr => ?_) (fun v9 H1 locs1 h _ _ _ _ => nomatch h)
  cases h
  have hPL1 := P_cons ((hPL 0 _ rfl).kept (hfr o hol hno)) hP
  refine vx_catch (own := R_Law) (name := "java/lang/IndexOutOfBoundsException") hown [] ⟨0, 19, 22, 13⟩ [⟨0, 19, 26, 15⟩] htab (fun z hz => by cases hz) (by decide) (by decide) (hwA (.classLink R_Law 13 "java/lang/IndexOutOfBoundsException") m_103) (wF_sm (w := .castable "java/lang/IndexOutOfBoundsException" "java/lang/IndexOutOfBoundsException") cst_io rfl (hF.1 _ cst_io)) h4 h5 h6 ?_
  refine lv_astore (lv' := [(5, .ref q9), (0, .ref h0), (1, .int p0), (2, .int p1), (3, .int p2), (4, .ref o)]) hx hb d_Law_put_22 hl (by decide) rfl (fun ls hl => ?_)
  refine lv_iconst (v := 1) hx hb d_Law_put_24 (by decide) ?_
  refine W.widen (k := 2) (n := 12) (Nat.le_of_ble_eq_true rfl) (Nat.le_of_ble_eq_true rfl) ?_
  exact W.iret (v := 1) hx hb hr (fun t ht hW => ⟨rfl, by rw [ht]; exact hPL1, hS.F ht⟩) hS.2.2 d_Law_put_25
set_option maxHeartbeats 4000000 in
set_option maxRecDepth 100000 in
/-- the law's put -/
theorem c_Law_put_ae (l : Launch) (D : va_G) (ws w1 : va_W) (tys : List (ClassId × FieldType)) (sa : Nat → Nat) (h0 o co : Nat) (fs : List Value) (f : Nat → Int64) (p0 p1 p2 : Int32)  (hr0 : ws[0]? = some (h0, .inr (0, fs))) (hsub : ∀ x, hA w1 x → hA ws x) (hd1 : ∀ A : Nat → Prop, va_D A ws → va_D A w1) (hM : vx_Met l y_Hop_put w_Hop_put (rmD 7 2 12) (va_Pc [.ref h0, .int p0, .int p1, .int p2] (hb_X D hCl ws tys sa)) (hX_Q (.inr "java/lang/ArithmeticException") D hCl w1 (hA ws)) (hX_X (.inr "java/lang/ArithmeticException") D hCl w1 (hA ws)) 2 12 (hA ws)) : Met l y_Law_put w_Law_put (rmD 8 2 12) (va_Pc [.ref h0, .int p0, .int p1, .int p2, .ref o] (fun U => hb_X D hCl (oc o co f :: ws) ((co, .long) :: tys) sa U ∧ xN U)) (hq_W (some (.int 2)) D hCl (oc o co (f) :: w1) (hA (oc o co f :: ws))) 2 12 (hA (oc o co f :: ws)) := by
  refine va_MetW (cc := b_Law_put) (maxL := 6) (ret := some .int) (by decide) rfl ?_
  intro p e s m args below meth c0 s₁ B0 hml hv
  obtain ⟨rfl, ⟨hPL, hKL, hD0, hF, hZ⟩, hN⟩ := hv
  have hx := B0.exec
  have hb := B0.bytes
  have hr := B0.returns
  have hts := atoms_spec (ws := w_Law_put) B0.pre
  have hown : s.vm.findClass R_Law = some m.cls := findClass_of_methodNamed B0.named
  have hlocks := B0.notSynchronized
  have hwA : ∀ w ∈ wsA, w.before ([.ref h0, .int p0, .int p1, .int p2, .ref o] : List Value).toArray s = true := fun w h => hts w (List.mem_cons_of_mem _ h)
  have X : CallFix p m c0 b_Law_put 6 s ([.ref h0, .int p0, .int p1, .int p2, .ref o] : List Value).toArray wsA R_Law := ⟨hx, hb, hml, hown, hwA⟩
  have hDL := hA_D hD0
  have hS : va_S (hA (oc o co f :: ws)) s.heap s.heap [] := va_S.rf
  have hl := lv_entry ([.ref h0, .int p0, .int p1, .int p2, .ref o]) (n := 6) (Nat.le_of_ble_eq_true rfl)
  rw [lg_entry_eq]
  generalize (lg_sl ([.ref h0, .int p0, .int p1, .int p2, .ref o]) ++ List.replicate (6 - (lg_sl ([.ref h0, .int p0, .int p1, .int p2, .ref o])).length) Slot.unset).toArray = ls at hl ⊢
  have hl : lv_has ls 6 [(0, .ref h0), (1, .int p0), (2, .int p1), (3, .int p2), (4, .ref o)] := hl
  have htab := vx_table (x := y_Law_put) B0 (hts _ List.mem_cons_self)
  have hP := P_tl hPL
  have hK := K_tl hKL
  have hD := D_tl hDL
  have hno := D_hd hDL
  have hol : o < s.heap.size := (hPL 0 _ rfl).lt
  refine lv_aload hx hb d_Law_put_0 (lv_at hl 4 rfl) ?_
  refine lv_iconst (v := 0) hx hb d_Law_put_2 (by decide) ?_
  refine lv_aload_n hx hb d_Law_put_3 rfl (lv_at hl 0 rfl) ?_
  refine lv_iload_n hx hb d_Law_put_4 rfl (lv_at hl 1 rfl) ?_
  refine lv_iload_n hx hb d_Law_put_5 rfl (lv_at hl 2 rfl) ?_
  refine lv_iload_n hx hb d_Law_put_6 rfl (lv_at hl 3 rfl) ?_
  refine hX_VF (As := [.int p0, .int p1, .int p2]) (C := R_Hop) X hM (cwV 3 X.2.2.2.2 g_Law_Hop_put rfl rfl rfl (by decide +kernel) ⟨Nat.le_of_ble_eq_true rfl, Nat.le_of_ble_eq_true rfl⟩) hP hK hD (hd1 _ hD) hS hF hZ (va_recv hK hP (ci := 0) (q := (R_Hop, F_Hop, 6)) rfl hr0) rfl hl.1 rfl (Nat.le_of_ble_eq_true rfl) ⟨Nat.le_of_ble_eq_true rfl, Nat.le_of_ble_eq_true rfl⟩ d_Law_put_7 (fun E ce q9 H locs h hP hD hS h4 h5 h6 hfr => ?_) (fun v9 H1 locs1 h _ _ _ _ => nomatch h)
  cases h
  have hPL1 := P_cons ((hPL 0 _ rfl).kept (hfr o hol hno)) hP
  refine vx_catch (own := R_Law) (name := "java/lang/ArithmeticException") hown [⟨0, 19, 22, 13⟩] ⟨0, 19, 26, 15⟩ [] htab (fun z hz => by simp only [List.mem_cons, List.not_mem_nil, or_false] at hz; subst hz; exact Or.inr ⟨by decide, "java/lang/IndexOutOfBoundsException", hwA (.classLink R_Law 13 "java/lang/IndexOutOfBoundsException") m_103, hN ("java/lang/ArithmeticException", "java/lang/IndexOutOfBoundsException") (by decide +kernel)⟩) (by decide) (by decide) (hwA (.classLink R_Law 15 "java/lang/ArithmeticException") m_104) (wF_sm (w := .castable "java/lang/ArithmeticException" "java/lang/ArithmeticException") cst_ae rfl (hF.1 _ cst_ae)) h4 h5 h6 ?_
  refine lv_astore (lv' := [(5, .ref q9), (0, .ref h0), (1, .int p0), (2, .int p1), (3, .int p2), (4, .ref o)]) hx hb d_Law_put_26 hl (by decide) rfl (fun ls hl => ?_)
  refine lv_iconst (v := 2) hx hb d_Law_put_28 (by decide) ?_
  refine W.widen (k := 2) (n := 12) (Nat.le_of_ble_eq_true rfl) (Nat.le_of_ble_eq_true rfl) ?_
  exact W.iret (v := 2) hx hb hr (fun t ht hW => ⟨rfl, by rw [ht]; exact hPL1, hS.F ht⟩) hS.2.2 d_Law_put_29
set_option maxHeartbeats 4000000 in
set_option maxRecDepth 100000 in
/-- the law's get -/
theorem c_Law_get_ok (l : Launch) (D : va_G) (ws w1 : va_W) (tys : List (ClassId × FieldType)) (sa : Nat → Nat) (h0 o co : Nat) (fs : List Value) (f : Nat → Int64) (p0 p1 : Int32) (v : Int32) (hr0 : ws[0]? = some (h0, .inr (0, fs))) (hsub : ∀ x, hA w1 x → hA ws x) (hd1 : ∀ A : Nat → Prop, va_D A ws → va_D A w1) (hM : vx_Met l y_Hop_get w_Hop_get (rmD 7 2 12) (va_Pc [.ref h0, .int p0, .int p1] (hb_X D hCl ws tys sa)) (hX_Q (.inl (some (.int v))) D hCl w1 (hA ws)) (hX_X (.inl (some (.int v))) D hCl w1 (hA ws)) 2 12 (hA ws)) : Met l y_Law_get w_Law_get (rmD 8 2 12) (va_Pc [.ref h0, .int p0, .int p1, .ref o] (fun U => hb_X D hCl (oc o co f :: ws) ((co, .long) :: tys) sa U ∧ xN U)) (hq_W (some (.int 0)) D hCl (oc o co (vp_updL f 0 (Int32.toInt64 v)) :: w1) (hA (oc o co f :: ws))) 2 12 (hA (oc o co f :: ws)) := by
  refine va_MetW (cc := b_Law_get) (maxL := 5) (ret := some .int) (by decide) rfl ?_
  intro p e s m args below meth c0 s₁ B0 hml hv
  obtain ⟨rfl, ⟨hPL, hKL, hD0, hF, hZ⟩, hN⟩ := hv
  have hx := B0.exec
  have hb := B0.bytes
  have hr := B0.returns
  have hts := atoms_spec (ws := w_Law_get) B0.pre
  have hown : s.vm.findClass R_Law = some m.cls := findClass_of_methodNamed B0.named
  have hlocks := B0.notSynchronized
  have hwA : ∀ w ∈ wsA, w.before ([.ref h0, .int p0, .int p1, .ref o] : List Value).toArray s = true := fun w h => hts w (List.mem_cons_of_mem _ h)
  have X : CallFix p m c0 b_Law_get 5 s ([.ref h0, .int p0, .int p1, .ref o] : List Value).toArray wsA R_Law := ⟨hx, hb, hml, hown, hwA⟩
  have hDL := hA_D hD0
  have hS : va_S (hA (oc o co f :: ws)) s.heap s.heap [] := va_S.rf
  have hl := lv_entry ([.ref h0, .int p0, .int p1, .ref o]) (n := 5) (Nat.le_of_ble_eq_true rfl)
  rw [lg_entry_eq]
  generalize (lg_sl ([.ref h0, .int p0, .int p1, .ref o]) ++ List.replicate (5 - (lg_sl ([.ref h0, .int p0, .int p1, .ref o])).length) Slot.unset).toArray = ls at hl ⊢
  have hl : lv_has ls 5 [(0, .ref h0), (1, .int p0), (2, .int p1), (3, .ref o)] := hl
  have htab := vx_table (x := y_Law_get) B0 (hts _ List.mem_cons_self)
  have hP := P_tl hPL
  have hK := K_tl hKL
  have hD := D_tl hDL
  have hno := D_hd hDL
  have hol : o < s.heap.size := (hPL 0 _ rfl).lt
  refine lv_aload_n hx hb d_Law_get_0 rfl (lv_at hl 3 rfl) ?_
  refine lv_iconst (v := 0) hx hb d_Law_get_1 (by decide) ?_
  refine lv_aload_n hx hb d_Law_get_2 rfl (lv_at hl 0 rfl) ?_
  refine lv_iload_n hx hb d_Law_get_3 rfl (lv_at hl 1 rfl) ?_
  refine lv_iload_n hx hb d_Law_get_4 rfl (lv_at hl 2 rfl) ?_
  refine hX_VF (As := [.int p0, .int p1]) (C := R_Hop) X hM (cwV 2 X.2.2.2.2 g_Law_Hop_get rfl rfl rfl (by decide +kernel) ⟨Nat.le_of_ble_eq_true rfl, Nat.le_of_ble_eq_true rfl⟩) hP hK hD (hd1 _ hD) hS hF hZ (va_recv hK hP (ci := 0) (q := (R_Hop, F_Hop, 6)) rfl hr0) rfl hl.1 rfl (Nat.le_of_ble_eq_true rfl) ⟨Nat.le_of_ble_eq_true rfl, Nat.le_of_ble_eq_true rfl⟩ d_Law_get_5 (fun E ce q9 H1 locs1 h _ _ _ _ _ _ _ => nomatch h) (fun v9 H locs h hP hD hS hfr => ?_)
  cases h
  have hPL1 := P_cons ((hPL 0 _ rfl).kept (hfr o hol hno)) hP
  have hDL1 := D_cons (x := oc o co f) (hDL.2 0 _ rfl) hD (fun z => hno (hsub o z))
  refine lv_i2l hx hb d_Law_get_8 rfl ?_
  refine va_last hx hb hKL hPL1 hDL1 hS 0 0 rfl rfl (vp_in_nI (n := 0) (by decide) (by decide)) d_Law_get_9 (fun H locs hP hD hS => ?_)
  refine lv_goto (tgt := 21) hx hb d_Law_get_10 (by decide) ?_
  refine lv_iconst (v := 0) hx hb d_Law_get_21 (by decide) ?_
  refine W.widen (k := 2) (n := 12) (Nat.le_of_ble_eq_true rfl) (Nat.le_of_ble_eq_true rfl) ?_
  exact W.iret (v := 0) hx hb hr (fun t ht hW => ⟨rfl, by rw [ht]; exact hP, hS.F ht⟩) hS.2.2 d_Law_get_22
set_option maxHeartbeats 4000000 in
set_option maxRecDepth 100000 in
/-- the law's get -/
theorem c_Law_get_io (l : Launch) (D : va_G) (ws w1 : va_W) (tys : List (ClassId × FieldType)) (sa : Nat → Nat) (h0 o co : Nat) (fs : List Value) (f : Nat → Int64) (p0 p1 : Int32)  (hr0 : ws[0]? = some (h0, .inr (0, fs))) (hsub : ∀ x, hA w1 x → hA ws x) (hd1 : ∀ A : Nat → Prop, va_D A ws → va_D A w1) (hM : vx_Met l y_Hop_get w_Hop_get (rmD 7 2 12) (va_Pc [.ref h0, .int p0, .int p1] (hb_X D hCl ws tys sa)) (hX_Q (.inr "java/lang/IndexOutOfBoundsException") D hCl w1 (hA ws)) (hX_X (.inr "java/lang/IndexOutOfBoundsException") D hCl w1 (hA ws)) 2 12 (hA ws)) : Met l y_Law_get w_Law_get (rmD 8 2 12) (va_Pc [.ref h0, .int p0, .int p1, .ref o] (fun U => hb_X D hCl (oc o co f :: ws) ((co, .long) :: tys) sa U ∧ xN U)) (hq_W (some (.int 1)) D hCl (oc o co (f) :: w1) (hA (oc o co f :: ws))) 2 12 (hA (oc o co f :: ws)) := by
  refine va_MetW (cc := b_Law_get) (maxL := 5) (ret := some .int) (by decide) rfl ?_
  intro p e s m args below meth c0 s₁ B0 hml hv
  obtain ⟨rfl, ⟨hPL, hKL, hD0, hF, hZ⟩, hN⟩ := hv
  have hx := B0.exec
  have hb := B0.bytes
  have hr := B0.returns
  have hts := atoms_spec (ws := w_Law_get) B0.pre
  have hown : s.vm.findClass R_Law = some m.cls := findClass_of_methodNamed B0.named
  have hlocks := B0.notSynchronized
  have hwA : ∀ w ∈ wsA, w.before ([.ref h0, .int p0, .int p1, .ref o] : List Value).toArray s = true := fun w h => hts w (List.mem_cons_of_mem _ h)
  have X : CallFix p m c0 b_Law_get 5 s ([.ref h0, .int p0, .int p1, .ref o] : List Value).toArray wsA R_Law := ⟨hx, hb, hml, hown, hwA⟩
  have hDL := hA_D hD0
  have hS : va_S (hA (oc o co f :: ws)) s.heap s.heap [] := va_S.rf
  have hl := lv_entry ([.ref h0, .int p0, .int p1, .ref o]) (n := 5) (Nat.le_of_ble_eq_true rfl)
  rw [lg_entry_eq]
  generalize (lg_sl ([.ref h0, .int p0, .int p1, .ref o]) ++ List.replicate (5 - (lg_sl ([.ref h0, .int p0, .int p1, .ref o])).length) Slot.unset).toArray = ls at hl ⊢
  have hl : lv_has ls 5 [(0, .ref h0), (1, .int p0), (2, .int p1), (3, .ref o)] := hl
  have htab := vx_table (x := y_Law_get) B0 (hts _ List.mem_cons_self)
  have hP := P_tl hPL
  have hK := K_tl hKL
  have hD := D_tl hDL
  have hno := D_hd hDL
  have hol : o < s.heap.size := (hPL 0 _ rfl).lt
  refine lv_aload_n hx hb d_Law_get_0 rfl (lv_at hl 3 rfl) ?_
  refine lv_iconst (v := 0) hx hb d_Law_get_1 (by decide) ?_
  refine lv_aload_n hx hb d_Law_get_2 rfl (lv_at hl 0 rfl) ?_
  refine lv_iload_n hx hb d_Law_get_3 rfl (lv_at hl 1 rfl) ?_
  refine lv_iload_n hx hb d_Law_get_4 rfl (lv_at hl 2 rfl) ?_
  refine hX_VF (As := [.int p0, .int p1]) (C := R_Hop) X hM (cwV 2 X.2.2.2.2 g_Law_Hop_get rfl rfl rfl (by decide +kernel) ⟨Nat.le_of_ble_eq_true rfl, Nat.le_of_ble_eq_true rfl⟩) hP hK hD (hd1 _ hD) hS hF hZ (va_recv hK hP (ci := 0) (q := (R_Hop, F_Hop, 6)) rfl hr0) rfl hl.1 rfl (Nat.le_of_ble_eq_true rfl) ⟨Nat.le_of_ble_eq_true rfl, Nat.le_of_ble_eq_true rfl⟩ d_Law_get_5 (fun E ce q9 H locs h hP hD hS h4 h5 h6 hfr => ?_) (fun v9 H1 locs1 h _ _ _ _ => nomatch h)
  cases h
  have hPL1 := P_cons ((hPL 0 _ rfl).kept (hfr o hol hno)) hP
  refine vx_catch (own := R_Law) (name := "java/lang/IndexOutOfBoundsException") hown [] ⟨0, 10, 13, 13⟩ [⟨0, 10, 17, 21⟩] htab (fun z hz => by cases hz) (by decide) (by decide) (hwA (.classLink R_Law 13 "java/lang/IndexOutOfBoundsException") m_103) (wF_sm (w := .castable "java/lang/IndexOutOfBoundsException" "java/lang/IndexOutOfBoundsException") cst_io rfl (hF.1 _ cst_io)) h4 h5 h6 ?_
  refine lv_astore (lv' := [(4, .ref q9), (0, .ref h0), (1, .int p0), (2, .int p1), (3, .ref o)]) hx hb d_Law_get_13 hl (by decide) rfl (fun ls hl => ?_)
  refine lv_iconst (v := 1) hx hb d_Law_get_15 (by decide) ?_
  refine W.widen (k := 2) (n := 12) (Nat.le_of_ble_eq_true rfl) (Nat.le_of_ble_eq_true rfl) ?_
  exact W.iret (v := 1) hx hb hr (fun t ht hW => ⟨rfl, by rw [ht]; exact hPL1, hS.F ht⟩) hS.2.2 d_Law_get_16
set_option maxHeartbeats 4000000 in
set_option maxRecDepth 100000 in
/-- the law's get -/
theorem c_Law_get_ns (l : Launch) (D : va_G) (ws w1 : va_W) (tys : List (ClassId × FieldType)) (sa : Nat → Nat) (h0 o co : Nat) (fs : List Value) (f : Nat → Int64) (p0 p1 : Int32)  (hr0 : ws[0]? = some (h0, .inr (0, fs))) (hsub : ∀ x, hA w1 x → hA ws x) (hd1 : ∀ A : Nat → Prop, va_D A ws → va_D A w1) (hM : vx_Met l y_Hop_get w_Hop_get (rmD 7 2 12) (va_Pc [.ref h0, .int p0, .int p1] (hb_X D hCl ws tys sa)) (hX_Q (.inr "java/util/NoSuchElementException") D hCl w1 (hA ws)) (hX_X (.inr "java/util/NoSuchElementException") D hCl w1 (hA ws)) 2 12 (hA ws)) : Met l y_Law_get w_Law_get (rmD 8 2 12) (va_Pc [.ref h0, .int p0, .int p1, .ref o] (fun U => hb_X D hCl (oc o co f :: ws) ((co, .long) :: tys) sa U ∧ xN U)) (hq_W (some (.int 2)) D hCl (oc o co (f) :: w1) (hA (oc o co f :: ws))) 2 12 (hA (oc o co f :: ws)) := by
  refine va_MetW (cc := b_Law_get) (maxL := 5) (ret := some .int) (by decide) rfl ?_
  intro p e s m args below meth c0 s₁ B0 hml hv
  obtain ⟨rfl, ⟨hPL, hKL, hD0, hF, hZ⟩, hN⟩ := hv
  have hx := B0.exec
  have hb := B0.bytes
  have hr := B0.returns
  have hts := atoms_spec (ws := w_Law_get) B0.pre
  have hown : s.vm.findClass R_Law = some m.cls := findClass_of_methodNamed B0.named
  have hlocks := B0.notSynchronized
  have hwA : ∀ w ∈ wsA, w.before ([.ref h0, .int p0, .int p1, .ref o] : List Value).toArray s = true := fun w h => hts w (List.mem_cons_of_mem _ h)
  have X : CallFix p m c0 b_Law_get 5 s ([.ref h0, .int p0, .int p1, .ref o] : List Value).toArray wsA R_Law := ⟨hx, hb, hml, hown, hwA⟩
  have hDL := hA_D hD0
  have hS : va_S (hA (oc o co f :: ws)) s.heap s.heap [] := va_S.rf
  have hl := lv_entry ([.ref h0, .int p0, .int p1, .ref o]) (n := 5) (Nat.le_of_ble_eq_true rfl)
  rw [lg_entry_eq]
  generalize (lg_sl ([.ref h0, .int p0, .int p1, .ref o]) ++ List.replicate (5 - (lg_sl ([.ref h0, .int p0, .int p1, .ref o])).length) Slot.unset).toArray = ls at hl ⊢
  have hl : lv_has ls 5 [(0, .ref h0), (1, .int p0), (2, .int p1), (3, .ref o)] := hl
  have htab := vx_table (x := y_Law_get) B0 (hts _ List.mem_cons_self)
  have hP := P_tl hPL
  have hK := K_tl hKL
  have hD := D_tl hDL
  have hno := D_hd hDL
  have hol : o < s.heap.size := (hPL 0 _ rfl).lt
  refine lv_aload_n hx hb d_Law_get_0 rfl (lv_at hl 3 rfl) ?_
  refine lv_iconst (v := 0) hx hb d_Law_get_1 (by decide) ?_
  refine lv_aload_n hx hb d_Law_get_2 rfl (lv_at hl 0 rfl) ?_
  refine lv_iload_n hx hb d_Law_get_3 rfl (lv_at hl 1 rfl) ?_
  refine lv_iload_n hx hb d_Law_get_4 rfl (lv_at hl 2 rfl) ?_
  refine hX_VF (As := [.int p0, .int p1]) (C := R_Hop) X hM (cwV 2 X.2.2.2.2 g_Law_Hop_get rfl rfl rfl (by decide +kernel) ⟨Nat.le_of_ble_eq_true rfl, Nat.le_of_ble_eq_true rfl⟩) hP hK hD (hd1 _ hD) hS hF hZ (va_recv hK hP (ci := 0) (q := (R_Hop, F_Hop, 6)) rfl hr0) rfl hl.1 rfl (Nat.le_of_ble_eq_true rfl) ⟨Nat.le_of_ble_eq_true rfl, Nat.le_of_ble_eq_true rfl⟩ d_Law_get_5 (fun E ce q9 H locs h hP hD hS h4 h5 h6 hfr => ?_) (fun v9 H1 locs1 h _ _ _ _ => nomatch h)
  cases h
  have hPL1 := P_cons ((hPL 0 _ rfl).kept (hfr o hol hno)) hP
  refine vx_catch (own := R_Law) (name := "java/util/NoSuchElementException") hown [⟨0, 10, 13, 13⟩] ⟨0, 10, 17, 21⟩ [] htab (fun z hz => by simp only [List.mem_cons, List.not_mem_nil, or_false] at hz; subst hz; exact Or.inr ⟨by decide, "java/lang/IndexOutOfBoundsException", hwA (.classLink R_Law 13 "java/lang/IndexOutOfBoundsException") m_103, hN ("java/util/NoSuchElementException", "java/lang/IndexOutOfBoundsException") (by decide +kernel)⟩) (by decide) (by decide) (hwA (.classLink R_Law 21 "java/util/NoSuchElementException") m_283) (wF_sm (w := .castable "java/util/NoSuchElementException" "java/util/NoSuchElementException") cst_ns rfl (hF.1 _ cst_ns)) h4 h5 h6 ?_
  refine lv_astore (lv' := [(4, .ref q9), (0, .ref h0), (1, .int p0), (2, .int p1), (3, .ref o)]) hx hb d_Law_get_17 hl (by decide) rfl (fun ls hl => ?_)
  refine lv_iconst (v := 2) hx hb d_Law_get_19 (by decide) ?_
  refine W.widen (k := 2) (n := 12) (Nat.le_of_ble_eq_true rfl) (Nat.le_of_ble_eq_true rfl) ?_
  exact W.iret (v := 2) hx hb hr (fun t ht hW => ⟨rfl, by rw [ht]; exact hPL1, hS.F ht⟩) hS.2.2 d_Law_get_20
set_option maxHeartbeats 4000000 in
set_option maxRecDepth 100000 in
/-- the law's remove -/
theorem c_Law_remove_ok (l : Launch) (D : va_G) (ws w1 : va_W) (tys : List (ClassId × FieldType)) (sa : Nat → Nat) (h0 o co : Nat) (fs : List Value) (f : Nat → Int64) (p0 p1 : Int32) (v : Int32) (hr0 : ws[0]? = some (h0, .inr (0, fs))) (hsub : ∀ x, hA w1 x → hA ws x) (hd1 : ∀ A : Nat → Prop, va_D A ws → va_D A w1) (hM : vx_Met l y_Hop_remove w_Hop_remove (rmD 7 2 12) (va_Pc [.ref h0, .int p0, .int p1] (hb_X D hCl ws tys sa)) (hX_Q (.inl (some (.int v))) D hCl w1 (hA ws)) (hX_X (.inl (some (.int v))) D hCl w1 (hA ws)) 2 12 (hA ws)) : Met l y_Law_remove w_Law_remove (rmD 8 2 12) (va_Pc [.ref h0, .int p0, .int p1, .ref o] (fun U => hb_X D hCl (oc o co f :: ws) ((co, .long) :: tys) sa U ∧ xN U)) (hq_W (some (.int 0)) D hCl (oc o co (vp_updL f 0 (Int32.toInt64 v)) :: w1) (hA (oc o co f :: ws))) 2 12 (hA (oc o co f :: ws)) := by
  refine va_MetW (cc := b_Law_remove) (maxL := 5) (ret := some .int) (by decide) rfl ?_
  intro p e s m args below meth c0 s₁ B0 hml hv
  obtain ⟨rfl, ⟨hPL, hKL, hD0, hF, hZ⟩, hN⟩ := hv
  have hx := B0.exec
  have hb := B0.bytes
  have hr := B0.returns
  have hts := atoms_spec (ws := w_Law_remove) B0.pre
  have hown : s.vm.findClass R_Law = some m.cls := findClass_of_methodNamed B0.named
  have hlocks := B0.notSynchronized
  have hwA : ∀ w ∈ wsA, w.before ([.ref h0, .int p0, .int p1, .ref o] : List Value).toArray s = true := fun w h => hts w (List.mem_cons_of_mem _ h)
  have X : CallFix p m c0 b_Law_remove 5 s ([.ref h0, .int p0, .int p1, .ref o] : List Value).toArray wsA R_Law := ⟨hx, hb, hml, hown, hwA⟩
  have hDL := hA_D hD0
  have hS : va_S (hA (oc o co f :: ws)) s.heap s.heap [] := va_S.rf
  have hl := lv_entry ([.ref h0, .int p0, .int p1, .ref o]) (n := 5) (Nat.le_of_ble_eq_true rfl)
  rw [lg_entry_eq]
  generalize (lg_sl ([.ref h0, .int p0, .int p1, .ref o]) ++ List.replicate (5 - (lg_sl ([.ref h0, .int p0, .int p1, .ref o])).length) Slot.unset).toArray = ls at hl ⊢
  have hl : lv_has ls 5 [(0, .ref h0), (1, .int p0), (2, .int p1), (3, .ref o)] := hl
  have htab := vx_table (x := y_Law_remove) B0 (hts _ List.mem_cons_self)
  have hP := P_tl hPL
  have hK := K_tl hKL
  have hD := D_tl hDL
  have hno := D_hd hDL
  have hol : o < s.heap.size := (hPL 0 _ rfl).lt
  refine lv_aload_n hx hb d_Law_remove_0 rfl (lv_at hl 3 rfl) ?_
  refine lv_iconst (v := 0) hx hb d_Law_remove_1 (by decide) ?_
  refine lv_aload_n hx hb d_Law_remove_2 rfl (lv_at hl 0 rfl) ?_
  refine lv_iload_n hx hb d_Law_remove_3 rfl (lv_at hl 1 rfl) ?_
  refine lv_iload_n hx hb d_Law_remove_4 rfl (lv_at hl 2 rfl) ?_
  refine hX_VF (As := [.int p0, .int p1]) (C := R_Hop) X hM (cwV 2 X.2.2.2.2 g_Law_Hop_remove rfl rfl rfl (by decide +kernel) ⟨Nat.le_of_ble_eq_true rfl, Nat.le_of_ble_eq_true rfl⟩) hP hK hD (hd1 _ hD) hS hF hZ (va_recv hK hP (ci := 0) (q := (R_Hop, F_Hop, 6)) rfl hr0) rfl hl.1 rfl (Nat.le_of_ble_eq_true rfl) ⟨Nat.le_of_ble_eq_true rfl, Nat.le_of_ble_eq_true rfl⟩ d_Law_remove_5 (fun E ce q9 H1 locs1 h _ _ _ _ _ _ _ => nomatch h) (fun v9 H locs h hP hD hS hfr => ?_)
  cases h
  have hPL1 := P_cons ((hPL 0 _ rfl).kept (hfr o hol hno)) hP
  have hDL1 := D_cons (x := oc o co f) (hDL.2 0 _ rfl) hD (fun z => hno (hsub o z))
  refine lv_i2l hx hb d_Law_remove_8 rfl ?_
  refine va_last hx hb hKL hPL1 hDL1 hS 0 0 rfl rfl (vp_in_nI (n := 0) (by decide) (by decide)) d_Law_remove_9 (fun H locs hP hD hS => ?_)
  refine lv_goto (tgt := 21) hx hb d_Law_remove_10 (by decide) ?_
  refine lv_iconst (v := 0) hx hb d_Law_remove_21 (by decide) ?_
  refine W.widen (k := 2) (n := 12) (Nat.le_of_ble_eq_true rfl) (Nat.le_of_ble_eq_true rfl) ?_
  exact W.iret (v := 0) hx hb hr (fun t ht hW => ⟨rfl, by rw [ht]; exact hP, hS.F ht⟩) hS.2.2 d_Law_remove_22
set_option maxHeartbeats 4000000 in
set_option maxRecDepth 100000 in
/-- the law's remove -/
theorem c_Law_remove_io (l : Launch) (D : va_G) (ws w1 : va_W) (tys : List (ClassId × FieldType)) (sa : Nat → Nat) (h0 o co : Nat) (fs : List Value) (f : Nat → Int64) (p0 p1 : Int32)  (hr0 : ws[0]? = some (h0, .inr (0, fs))) (hsub : ∀ x, hA w1 x → hA ws x) (hd1 : ∀ A : Nat → Prop, va_D A ws → va_D A w1) (hM : vx_Met l y_Hop_remove w_Hop_remove (rmD 7 2 12) (va_Pc [.ref h0, .int p0, .int p1] (hb_X D hCl ws tys sa)) (hX_Q (.inr "java/lang/IndexOutOfBoundsException") D hCl w1 (hA ws)) (hX_X (.inr "java/lang/IndexOutOfBoundsException") D hCl w1 (hA ws)) 2 12 (hA ws)) : Met l y_Law_remove w_Law_remove (rmD 8 2 12) (va_Pc [.ref h0, .int p0, .int p1, .ref o] (fun U => hb_X D hCl (oc o co f :: ws) ((co, .long) :: tys) sa U ∧ xN U)) (hq_W (some (.int 1)) D hCl (oc o co (f) :: w1) (hA (oc o co f :: ws))) 2 12 (hA (oc o co f :: ws)) := by
  refine va_MetW (cc := b_Law_remove) (maxL := 5) (ret := some .int) (by decide) rfl ?_
  intro p e s m args below meth c0 s₁ B0 hml hv
  obtain ⟨rfl, ⟨hPL, hKL, hD0, hF, hZ⟩, hN⟩ := hv
  have hx := B0.exec
  have hb := B0.bytes
  have hr := B0.returns
  have hts := atoms_spec (ws := w_Law_remove) B0.pre
  have hown : s.vm.findClass R_Law = some m.cls := findClass_of_methodNamed B0.named
  have hlocks := B0.notSynchronized
  have hwA : ∀ w ∈ wsA, w.before ([.ref h0, .int p0, .int p1, .ref o] : List Value).toArray s = true := fun w h => hts w (List.mem_cons_of_mem _ h)
  have X : CallFix p m c0 b_Law_remove 5 s ([.ref h0, .int p0, .int p1, .ref o] : List Value).toArray wsA R_Law := ⟨hx, hb, hml, hown, hwA⟩
  have hDL := hA_D hD0
  have hS : va_S (hA (oc o co f :: ws)) s.heap s.heap [] := va_S.rf
  have hl := lv_entry ([.ref h0, .int p0, .int p1, .ref o]) (n := 5) (Nat.le_of_ble_eq_true rfl)
  rw [lg_entry_eq]
  generalize (lg_sl ([.ref h0, .int p0, .int p1, .ref o]) ++ List.replicate (5 - (lg_sl ([.ref h0, .int p0, .int p1, .ref o])).length) Slot.unset).toArray = ls at hl ⊢
  have hl : lv_has ls 5 [(0, .ref h0), (1, .int p0), (2, .int p1), (3, .ref o)] := hl
  have htab := vx_table (x := y_Law_remove) B0 (hts _ List.mem_cons_self)
  have hP := P_tl hPL
  have hK := K_tl hKL
  have hD := D_tl hDL
  have hno := D_hd hDL
  have hol : o < s.heap.size := (hPL 0 _ rfl).lt
  refine lv_aload_n hx hb d_Law_remove_0 rfl (lv_at hl 3 rfl) ?_
  refine lv_iconst (v := 0) hx hb d_Law_remove_1 (by decide) ?_
  refine lv_aload_n hx hb d_Law_remove_2 rfl (lv_at hl 0 rfl) ?_
  refine lv_iload_n hx hb d_Law_remove_3 rfl (lv_at hl 1 rfl) ?_
  refine lv_iload_n hx hb d_Law_remove_4 rfl (lv_at hl 2 rfl) ?_
  refine hX_VF (As := [.int p0, .int p1]) (C := R_Hop) X hM (cwV 2 X.2.2.2.2 g_Law_Hop_remove rfl rfl rfl (by decide +kernel) ⟨Nat.le_of_ble_eq_true rfl, Nat.le_of_ble_eq_true rfl⟩) hP hK hD (hd1 _ hD) hS hF hZ (va_recv hK hP (ci := 0) (q := (R_Hop, F_Hop, 6)) rfl hr0) rfl hl.1 rfl (Nat.le_of_ble_eq_true rfl) ⟨Nat.le_of_ble_eq_true rfl, Nat.le_of_ble_eq_true rfl⟩ d_Law_remove_5 (fun E ce q9 H locs h hP hD hS h4 h5 h6 hfr => ?_) (fun v9 H1 locs1 h _ _ _ _ => nomatch h)
  cases h
  have hPL1 := P_cons ((hPL 0 _ rfl).kept (hfr o hol hno)) hP
  refine vx_catch (own := R_Law) (name := "java/lang/IndexOutOfBoundsException") hown [] ⟨0, 10, 13, 13⟩ [⟨0, 10, 17, 21⟩] htab (fun z hz => by cases hz) (by decide) (by decide) (hwA (.classLink R_Law 13 "java/lang/IndexOutOfBoundsException") m_103) (wF_sm (w := .castable "java/lang/IndexOutOfBoundsException" "java/lang/IndexOutOfBoundsException") cst_io rfl (hF.1 _ cst_io)) h4 h5 h6 ?_
  refine lv_astore (lv' := [(4, .ref q9), (0, .ref h0), (1, .int p0), (2, .int p1), (3, .ref o)]) hx hb d_Law_remove_13 hl (by decide) rfl (fun ls hl => ?_)
  refine lv_iconst (v := 1) hx hb d_Law_remove_15 (by decide) ?_
  refine W.widen (k := 2) (n := 12) (Nat.le_of_ble_eq_true rfl) (Nat.le_of_ble_eq_true rfl) ?_
  exact W.iret (v := 1) hx hb hr (fun t ht hW => ⟨rfl, by rw [ht]; exact hPL1, hS.F ht⟩) hS.2.2 d_Law_remove_16
set_option maxHeartbeats 4000000 in
set_option maxRecDepth 100000 in
/-- the law's remove -/
theorem c_Law_remove_ns (l : Launch) (D : va_G) (ws w1 : va_W) (tys : List (ClassId × FieldType)) (sa : Nat → Nat) (h0 o co : Nat) (fs : List Value) (f : Nat → Int64) (p0 p1 : Int32)  (hr0 : ws[0]? = some (h0, .inr (0, fs))) (hsub : ∀ x, hA w1 x → hA ws x) (hd1 : ∀ A : Nat → Prop, va_D A ws → va_D A w1) (hM : vx_Met l y_Hop_remove w_Hop_remove (rmD 7 2 12) (va_Pc [.ref h0, .int p0, .int p1] (hb_X D hCl ws tys sa)) (hX_Q (.inr "java/util/NoSuchElementException") D hCl w1 (hA ws)) (hX_X (.inr "java/util/NoSuchElementException") D hCl w1 (hA ws)) 2 12 (hA ws)) : Met l y_Law_remove w_Law_remove (rmD 8 2 12) (va_Pc [.ref h0, .int p0, .int p1, .ref o] (fun U => hb_X D hCl (oc o co f :: ws) ((co, .long) :: tys) sa U ∧ xN U)) (hq_W (some (.int 2)) D hCl (oc o co (f) :: w1) (hA (oc o co f :: ws))) 2 12 (hA (oc o co f :: ws)) := by
  refine va_MetW (cc := b_Law_remove) (maxL := 5) (ret := some .int) (by decide) rfl ?_
  intro p e s m args below meth c0 s₁ B0 hml hv
  obtain ⟨rfl, ⟨hPL, hKL, hD0, hF, hZ⟩, hN⟩ := hv
  have hx := B0.exec
  have hb := B0.bytes
  have hr := B0.returns
  have hts := atoms_spec (ws := w_Law_remove) B0.pre
  have hown : s.vm.findClass R_Law = some m.cls := findClass_of_methodNamed B0.named
  have hlocks := B0.notSynchronized
  have hwA : ∀ w ∈ wsA, w.before ([.ref h0, .int p0, .int p1, .ref o] : List Value).toArray s = true := fun w h => hts w (List.mem_cons_of_mem _ h)
  have X : CallFix p m c0 b_Law_remove 5 s ([.ref h0, .int p0, .int p1, .ref o] : List Value).toArray wsA R_Law := ⟨hx, hb, hml, hown, hwA⟩
  have hDL := hA_D hD0
  have hS : va_S (hA (oc o co f :: ws)) s.heap s.heap [] := va_S.rf
  have hl := lv_entry ([.ref h0, .int p0, .int p1, .ref o]) (n := 5) (Nat.le_of_ble_eq_true rfl)
  rw [lg_entry_eq]
  generalize (lg_sl ([.ref h0, .int p0, .int p1, .ref o]) ++ List.replicate (5 - (lg_sl ([.ref h0, .int p0, .int p1, .ref o])).length) Slot.unset).toArray = ls at hl ⊢
  have hl : lv_has ls 5 [(0, .ref h0), (1, .int p0), (2, .int p1), (3, .ref o)] := hl
  have htab := vx_table (x := y_Law_remove) B0 (hts _ List.mem_cons_self)
  have hP := P_tl hPL
  have hK := K_tl hKL
  have hD := D_tl hDL
  have hno := D_hd hDL
  have hol : o < s.heap.size := (hPL 0 _ rfl).lt
  refine lv_aload_n hx hb d_Law_remove_0 rfl (lv_at hl 3 rfl) ?_
  refine lv_iconst (v := 0) hx hb d_Law_remove_1 (by decide) ?_
  refine lv_aload_n hx hb d_Law_remove_2 rfl (lv_at hl 0 rfl) ?_
  refine lv_iload_n hx hb d_Law_remove_3 rfl (lv_at hl 1 rfl) ?_
  refine lv_iload_n hx hb d_Law_remove_4 rfl (lv_at hl 2 rfl) ?_
  refine hX_VF (As := [.int p0, .int p1]) (C := R_Hop) X hM (cwV 2 X.2.2.2.2 g_Law_Hop_remove rfl rfl rfl (by decide +kernel) ⟨Nat.le_of_ble_eq_true rfl, Nat.le_of_ble_eq_true rfl⟩) hP hK hD (hd1 _ hD) hS hF hZ (va_recv hK hP (ci := 0) (q := (R_Hop, F_Hop, 6)) rfl hr0) rfl hl.1 rfl (Nat.le_of_ble_eq_true rfl) ⟨Nat.le_of_ble_eq_true rfl, Nat.le_of_ble_eq_true rfl⟩ d_Law_remove_5 (fun E ce q9 H locs h hP hD hS h4 h5 h6 hfr => ?_) (fun v9 H1 locs1 h _ _ _ _ => nomatch h)
  cases h
  have hPL1 := P_cons ((hPL 0 _ rfl).kept (hfr o hol hno)) hP
  refine vx_catch (own := R_Law) (name := "java/util/NoSuchElementException") hown [⟨0, 10, 13, 13⟩] ⟨0, 10, 17, 21⟩ [] htab (fun z hz => by simp only [List.mem_cons, List.not_mem_nil, or_false] at hz; subst hz; exact Or.inr ⟨by decide, "java/lang/IndexOutOfBoundsException", hwA (.classLink R_Law 13 "java/lang/IndexOutOfBoundsException") m_103, hN ("java/util/NoSuchElementException", "java/lang/IndexOutOfBoundsException") (by decide +kernel)⟩) (by decide) (by decide) (hwA (.classLink R_Law 21 "java/util/NoSuchElementException") m_283) (wF_sm (w := .castable "java/util/NoSuchElementException" "java/util/NoSuchElementException") cst_ns rfl (hF.1 _ cst_ns)) h4 h5 h6 ?_
  refine lv_astore (lv' := [(4, .ref q9), (0, .ref h0), (1, .int p0), (2, .int p1), (3, .ref o)]) hx hb d_Law_remove_17 hl (by decide) rfl (fun ls hl => ?_)
  refine lv_iconst (v := 2) hx hb d_Law_remove_19 (by decide) ?_
  refine W.widen (k := 2) (n := 12) (Nat.le_of_ble_eq_true rfl) (Nat.le_of_ble_eq_true rfl) ?_
  exact W.iret (v := 2) hx hb hr (fun t ht hW => ⟨rfl, by rw [ht]; exact hPL1, hS.F ht⟩) hS.2.2 d_Law_remove_20
set_option maxHeartbeats 4000000 in
set_option maxRecDepth 100000 in
/-- the law's has -/
theorem c_Law_has_ok (l : Launch) (D : va_G) (ws w1 : va_W) (tys : List (ClassId × FieldType)) (sa : Nat → Nat) (h0 o co : Nat) (fs : List Value) (f : Nat → Int64) (p0 p1 : Int32) (v : Int32) (hr0 : ws[0]? = some (h0, .inr (0, fs))) (hsub : ∀ x, hA w1 x → hA ws x) (hd1 : ∀ A : Nat → Prop, va_D A ws → va_D A w1) (hM : vx_Met l y_Hop_has w_Hop_has (rmD 7 1 6) (va_Pc [.ref h0, .int p0, .int p1] (hb_X D hCl ws tys sa)) (hX_Q (.inl (some (.int v))) D hCl w1 (hA ws)) (hX_X (.inl (some (.int v))) D hCl w1 (hA ws)) 1 6 (hA ws)) : Met l y_Law_has w_Law_has (rmD 8 1 6) (va_Pc [.ref h0, .int p0, .int p1, .ref o] (fun U => hb_X D hCl (oc o co f :: ws) ((co, .long) :: tys) sa U ∧ xN U)) (hq_W (some (.int 0)) D hCl (oc o co (vp_updL f 0 (if v = 0 then 0 else 1)) :: w1) (hA (oc o co f :: ws))) 1 6 (hA (oc o co f :: ws)) := by
  refine va_MetW (cc := b_Law_has) (maxL := 5) (ret := some .int) (by decide) rfl ?_
  intro p e s m args below meth c0 s₁ B0 hml hv
  obtain ⟨rfl, ⟨hPL, hKL, hD0, hF, hZ⟩, hN⟩ := hv
  have hx := B0.exec
  have hb := B0.bytes
  have hr := B0.returns
  have hts := atoms_spec (ws := w_Law_has) B0.pre
  have hown : s.vm.findClass R_Law = some m.cls := findClass_of_methodNamed B0.named
  have hlocks := B0.notSynchronized
  have hwA : ∀ w ∈ wsA, w.before ([.ref h0, .int p0, .int p1, .ref o] : List Value).toArray s = true := fun w h => hts w (List.mem_cons_of_mem _ h)
  have X : CallFix p m c0 b_Law_has 5 s ([.ref h0, .int p0, .int p1, .ref o] : List Value).toArray wsA R_Law := ⟨hx, hb, hml, hown, hwA⟩
  have hDL := hA_D hD0
  have hS : va_S (hA (oc o co f :: ws)) s.heap s.heap [] := va_S.rf
  have hl := lv_entry ([.ref h0, .int p0, .int p1, .ref o]) (n := 5) (Nat.le_of_ble_eq_true rfl)
  rw [lg_entry_eq]
  generalize (lg_sl ([.ref h0, .int p0, .int p1, .ref o]) ++ List.replicate (5 - (lg_sl ([.ref h0, .int p0, .int p1, .ref o])).length) Slot.unset).toArray = ls at hl ⊢
  have hl : lv_has ls 5 [(0, .ref h0), (1, .int p0), (2, .int p1), (3, .ref o)] := hl
  have htab := vx_table (x := y_Law_has) B0 (hts _ List.mem_cons_self)
  have hP := P_tl hPL
  have hK := K_tl hKL
  have hD := D_tl hDL
  have hno := D_hd hDL
  have hol : o < s.heap.size := (hPL 0 _ rfl).lt
  refine lv_aload_n hx hb d_Law_has_0 rfl (lv_at hl 3 rfl) ?_
  refine lv_iconst (v := 0) hx hb d_Law_has_1 (by decide) ?_
  refine lv_aload_n hx hb d_Law_has_2 rfl (lv_at hl 0 rfl) ?_
  refine lv_iload_n hx hb d_Law_has_3 rfl (lv_at hl 1 rfl) ?_
  refine lv_iload_n hx hb d_Law_has_4 rfl (lv_at hl 2 rfl) ?_
  refine hX_VF (As := [.int p0, .int p1]) (C := R_Hop) X hM (cwV 2 X.2.2.2.2 g_Law_Hop_has rfl rfl rfl (by decide +kernel) ⟨Nat.le_of_ble_eq_true rfl, Nat.le_of_ble_eq_true rfl⟩) hP hK hD (hd1 _ hD) hS hF hZ (va_recv hK hP (ci := 0) (q := (R_Hop, F_Hop, 6)) rfl hr0) rfl hl.1 rfl (Nat.le_of_ble_eq_true rfl) ⟨Nat.le_of_ble_eq_true rfl, Nat.le_of_ble_eq_true rfl⟩ d_Law_has_5 (fun E ce q9 H1 locs1 h _ _ _ _ _ _ _ => nomatch h) (fun v9 H locs h hP hD hS hfr => ?_)
  cases h
  have hPL1 := P_cons ((hPL 0 _ rfl).kept (hfr o hol hno)) hP
  have hDL1 := D_cons (x := oc o co f) (hDL.2 0 _ rfl) hD (fun z => hno (hsub o z))
  refine lv_if_eq (tgt := 15) hx hb d_Law_has_8 (by decide) (fun h1 => ?_) (fun h1 => ?_)
  · refine lv_lconst (v := 0) hx hb d_Law_has_15 rfl ?_
    refine va_last hx hb hKL hPL1 hDL1 hS 0 0 rfl rfl (vp_in_nI (n := 0) (by decide) (by decide)) d_Law_has_16 (fun H locs hP hD hS => ?_)
    refine lv_goto (tgt := 24) hx hb d_Law_has_17 (by decide) ?_
    refine lv_iconst (v := 0) hx hb d_Law_has_24 (by decide) ?_
    refine W.widen (k := 1) (n := 6) (Nat.le_of_ble_eq_true rfl) (Nat.le_of_ble_eq_true rfl) ?_
    exact W.iret (v := 0) hx hb hr (fun t ht hW => ⟨rfl, by rw [ht, if_pos h1]; exact hP, hS.F ht⟩) hS.2.2 d_Law_has_25
  · refine lv_lconst (v := 1) hx hb d_Law_has_11 rfl ?_
    refine lv_goto (tgt := 16) hx hb d_Law_has_12 (by decide) ?_
    refine va_last hx hb hKL hPL1 hDL1 hS 0 0 rfl rfl (vp_in_nI (n := 0) (by decide) (by decide)) d_Law_has_16 (fun H locs hP hD hS => ?_)
    refine lv_goto (tgt := 24) hx hb d_Law_has_17 (by decide) ?_
    refine lv_iconst (v := 0) hx hb d_Law_has_24 (by decide) ?_
    refine W.widen (k := 1) (n := 6) (Nat.le_of_ble_eq_true rfl) (Nat.le_of_ble_eq_true rfl) ?_
    exact W.iret (v := 0) hx hb hr (fun t ht hW => ⟨rfl, by rw [ht, if_neg h1]; exact hP, hS.F ht⟩) hS.2.2 d_Law_has_25
set_option maxHeartbeats 4000000 in
set_option maxRecDepth 100000 in
/-- the law's has -/
theorem c_Law_has_io (l : Launch) (D : va_G) (ws w1 : va_W) (tys : List (ClassId × FieldType)) (sa : Nat → Nat) (h0 o co : Nat) (fs : List Value) (f : Nat → Int64) (p0 p1 : Int32)  (hr0 : ws[0]? = some (h0, .inr (0, fs))) (hsub : ∀ x, hA w1 x → hA ws x) (hd1 : ∀ A : Nat → Prop, va_D A ws → va_D A w1) (hM : vx_Met l y_Hop_has w_Hop_has (rmD 7 1 6) (va_Pc [.ref h0, .int p0, .int p1] (hb_X D hCl ws tys sa)) (hX_Q (.inr "java/lang/IndexOutOfBoundsException") D hCl w1 (hA ws)) (hX_X (.inr "java/lang/IndexOutOfBoundsException") D hCl w1 (hA ws)) 1 6 (hA ws)) : Met l y_Law_has w_Law_has (rmD 8 1 6) (va_Pc [.ref h0, .int p0, .int p1, .ref o] (fun U => hb_X D hCl (oc o co f :: ws) ((co, .long) :: tys) sa U ∧ xN U)) (hq_W (some (.int 1)) D hCl (oc o co (f) :: w1) (hA (oc o co f :: ws))) 1 6 (hA (oc o co f :: ws)) := by
  refine va_MetW (cc := b_Law_has) (maxL := 5) (ret := some .int) (by decide) rfl ?_
  intro p e s m args below meth c0 s₁ B0 hml hv
  obtain ⟨rfl, ⟨hPL, hKL, hD0, hF, hZ⟩, hN⟩ := hv
  have hx := B0.exec
  have hb := B0.bytes
  have hr := B0.returns
  have hts := atoms_spec (ws := w_Law_has) B0.pre
  have hown : s.vm.findClass R_Law = some m.cls := findClass_of_methodNamed B0.named
  have hlocks := B0.notSynchronized
  have hwA : ∀ w ∈ wsA, w.before ([.ref h0, .int p0, .int p1, .ref o] : List Value).toArray s = true := fun w h => hts w (List.mem_cons_of_mem _ h)
  have X : CallFix p m c0 b_Law_has 5 s ([.ref h0, .int p0, .int p1, .ref o] : List Value).toArray wsA R_Law := ⟨hx, hb, hml, hown, hwA⟩
  have hDL := hA_D hD0
  have hS : va_S (hA (oc o co f :: ws)) s.heap s.heap [] := va_S.rf
  have hl := lv_entry ([.ref h0, .int p0, .int p1, .ref o]) (n := 5) (Nat.le_of_ble_eq_true rfl)
  rw [lg_entry_eq]
  generalize (lg_sl ([.ref h0, .int p0, .int p1, .ref o]) ++ List.replicate (5 - (lg_sl ([.ref h0, .int p0, .int p1, .ref o])).length) Slot.unset).toArray = ls at hl ⊢
  have hl : lv_has ls 5 [(0, .ref h0), (1, .int p0), (2, .int p1), (3, .ref o)] := hl
  have htab := vx_table (x := y_Law_has) B0 (hts _ List.mem_cons_self)
  have hP := P_tl hPL
  have hK := K_tl hKL
  have hD := D_tl hDL
  have hno := D_hd hDL
  have hol : o < s.heap.size := (hPL 0 _ rfl).lt
  refine lv_aload_n hx hb d_Law_has_0 rfl (lv_at hl 3 rfl) ?_
  refine lv_iconst (v := 0) hx hb d_Law_has_1 (by decide) ?_
  refine lv_aload_n hx hb d_Law_has_2 rfl (lv_at hl 0 rfl) ?_
  refine lv_iload_n hx hb d_Law_has_3 rfl (lv_at hl 1 rfl) ?_
  refine lv_iload_n hx hb d_Law_has_4 rfl (lv_at hl 2 rfl) ?_
  refine hX_VF (As := [.int p0, .int p1]) (C := R_Hop) X hM (cwV 2 X.2.2.2.2 g_Law_Hop_has rfl rfl rfl (by decide +kernel) ⟨Nat.le_of_ble_eq_true rfl, Nat.le_of_ble_eq_true rfl⟩) hP hK hD (hd1 _ hD) hS hF hZ (va_recv hK hP (ci := 0) (q := (R_Hop, F_Hop, 6)) rfl hr0) rfl hl.1 rfl (Nat.le_of_ble_eq_true rfl) ⟨Nat.le_of_ble_eq_true rfl, Nat.le_of_ble_eq_true rfl⟩ d_Law_has_5 (fun E ce q9 H locs h hP hD hS h4 h5 h6 hfr => ?_) (fun v9 H1 locs1 h _ _ _ _ => nomatch h)
  cases h
  have hPL1 := P_cons ((hPL 0 _ rfl).kept (hfr o hol hno)) hP
  refine vx_catch (own := R_Law) (name := "java/lang/IndexOutOfBoundsException") hown [] ⟨0, 17, 20, 13⟩ [] htab (fun z hz => by cases hz) (by decide) (by decide) (hwA (.classLink R_Law 13 "java/lang/IndexOutOfBoundsException") m_103) (wF_sm (w := .castable "java/lang/IndexOutOfBoundsException" "java/lang/IndexOutOfBoundsException") cst_io rfl (hF.1 _ cst_io)) h4 h5 h6 ?_
  refine lv_astore (lv' := [(4, .ref q9), (0, .ref h0), (1, .int p0), (2, .int p1), (3, .ref o)]) hx hb d_Law_has_20 hl (by decide) rfl (fun ls hl => ?_)
  refine lv_iconst (v := 1) hx hb d_Law_has_22 (by decide) ?_
  refine W.widen (k := 1) (n := 6) (Nat.le_of_ble_eq_true rfl) (Nat.le_of_ble_eq_true rfl) ?_
  exact W.iret (v := 1) hx hb hr (fun t ht hW => ⟨rfl, by rw [ht]; exact hPL1, hS.F ht⟩) hS.2.2 d_Law_has_23
set_option maxHeartbeats 4000000 in
set_option maxRecDepth 100000 in
/-- the law's size -/
theorem c_Law_size_ok (l : Launch) (D : va_G) (ws w1 : va_W) (tys : List (ClassId × FieldType)) (sa : Nat → Nat) (h0 o co : Nat) (fs : List Value) (f : Nat → Int64) (p0 : Int32) (v : Int32) (hr0 : ws[0]? = some (h0, .inr (0, fs))) (hsub : ∀ x, hA w1 x → hA ws x) (hd1 : ∀ A : Nat → Prop, va_D A ws → va_D A w1) (hM : vx_Met l y_Hop_size w_Hop_size (rmD 7 1 6) (va_Pc [.ref h0, .int p0] (hb_X D hCl ws tys sa)) (hX_Q (.inl (some (.int v))) D hCl w1 (hA ws)) (hX_X (.inl (some (.int v))) D hCl w1 (hA ws)) 1 6 (hA ws)) : Met l y_Law_size w_Law_size (rmD 8 1 6) (va_Pc [.ref h0, .int p0, .ref o] (fun U => hb_X D hCl (oc o co f :: ws) ((co, .long) :: tys) sa U ∧ xN U)) (hq_W (some (.int 0)) D hCl (oc o co (vp_updL f 0 (Int32.toInt64 v)) :: w1) (hA (oc o co f :: ws))) 1 6 (hA (oc o co f :: ws)) := by
  refine va_MetW (cc := b_Law_size) (maxL := 4) (ret := some .int) (by decide) rfl ?_
  intro p e s m args below meth c0 s₁ B0 hml hv
  obtain ⟨rfl, ⟨hPL, hKL, hD0, hF, hZ⟩, hN⟩ := hv
  have hx := B0.exec
  have hb := B0.bytes
  have hr := B0.returns
  have hts := atoms_spec (ws := w_Law_size) B0.pre
  have hown : s.vm.findClass R_Law = some m.cls := findClass_of_methodNamed B0.named
  have hlocks := B0.notSynchronized
  have hwA : ∀ w ∈ wsA, w.before ([.ref h0, .int p0, .ref o] : List Value).toArray s = true := fun w h => hts w (List.mem_cons_of_mem _ h)
  have X : CallFix p m c0 b_Law_size 4 s ([.ref h0, .int p0, .ref o] : List Value).toArray wsA R_Law := ⟨hx, hb, hml, hown, hwA⟩
  have hDL := hA_D hD0
  have hS : va_S (hA (oc o co f :: ws)) s.heap s.heap [] := va_S.rf
  have hl := lv_entry ([.ref h0, .int p0, .ref o]) (n := 4) (Nat.le_of_ble_eq_true rfl)
  rw [lg_entry_eq]
  generalize (lg_sl ([.ref h0, .int p0, .ref o]) ++ List.replicate (4 - (lg_sl ([.ref h0, .int p0, .ref o])).length) Slot.unset).toArray = ls at hl ⊢
  have hl : lv_has ls 4 [(0, .ref h0), (1, .int p0), (2, .ref o)] := hl
  have htab := vx_table (x := y_Law_size) B0 (hts _ List.mem_cons_self)
  have hP := P_tl hPL
  have hK := K_tl hKL
  have hD := D_tl hDL
  have hno := D_hd hDL
  have hol : o < s.heap.size := (hPL 0 _ rfl).lt
  refine lv_aload_n hx hb d_Law_size_0 rfl (lv_at hl 2 rfl) ?_
  refine lv_iconst (v := 0) hx hb d_Law_size_1 (by decide) ?_
  refine lv_aload_n hx hb d_Law_size_2 rfl (lv_at hl 0 rfl) ?_
  refine lv_iload_n hx hb d_Law_size_3 rfl (lv_at hl 1 rfl) ?_
  refine hX_VF (As := [.int p0]) (C := R_Hop) X hM (cwV 1 X.2.2.2.2 g_Law_Hop_size rfl rfl rfl (by decide +kernel) ⟨Nat.le_of_ble_eq_true rfl, Nat.le_of_ble_eq_true rfl⟩) hP hK hD (hd1 _ hD) hS hF hZ (va_recv hK hP (ci := 0) (q := (R_Hop, F_Hop, 6)) rfl hr0) rfl hl.1 rfl (Nat.le_of_ble_eq_true rfl) ⟨Nat.le_of_ble_eq_true rfl, Nat.le_of_ble_eq_true rfl⟩ d_Law_size_4 (fun E ce q9 H1 locs1 h _ _ _ _ _ _ _ => nomatch h) (fun v9 H locs h hP hD hS hfr => ?_)
  cases h
  have hPL1 := P_cons ((hPL 0 _ rfl).kept (hfr o hol hno)) hP
  have hDL1 := D_cons (x := oc o co f) (hDL.2 0 _ rfl) hD (fun z => hno (hsub o z))
  refine lv_i2l hx hb d_Law_size_7 rfl ?_
  refine va_last hx hb hKL hPL1 hDL1 hS 0 0 rfl rfl (vp_in_nI (n := 0) (by decide) (by decide)) d_Law_size_8 (fun H locs hP hD hS => ?_)
  refine lv_goto (tgt := 15) hx hb d_Law_size_9 (by decide) ?_
  refine lv_iconst (v := 0) hx hb d_Law_size_15 (by decide) ?_
  refine W.widen (k := 1) (n := 6) (Nat.le_of_ble_eq_true rfl) (Nat.le_of_ble_eq_true rfl) ?_
  exact W.iret (v := 0) hx hb hr (fun t ht hW => ⟨rfl, by rw [ht]; exact hP, hS.F ht⟩) hS.2.2 d_Law_size_16
set_option maxHeartbeats 4000000 in
set_option maxRecDepth 100000 in
/-- the law's size -/
theorem c_Law_size_io (l : Launch) (D : va_G) (ws w1 : va_W) (tys : List (ClassId × FieldType)) (sa : Nat → Nat) (h0 o co : Nat) (fs : List Value) (f : Nat → Int64) (p0 : Int32)  (hr0 : ws[0]? = some (h0, .inr (0, fs))) (hsub : ∀ x, hA w1 x → hA ws x) (hd1 : ∀ A : Nat → Prop, va_D A ws → va_D A w1) (hM : vx_Met l y_Hop_size w_Hop_size (rmD 7 1 6) (va_Pc [.ref h0, .int p0] (hb_X D hCl ws tys sa)) (hX_Q (.inr "java/lang/IndexOutOfBoundsException") D hCl w1 (hA ws)) (hX_X (.inr "java/lang/IndexOutOfBoundsException") D hCl w1 (hA ws)) 1 6 (hA ws)) : Met l y_Law_size w_Law_size (rmD 8 1 6) (va_Pc [.ref h0, .int p0, .ref o] (fun U => hb_X D hCl (oc o co f :: ws) ((co, .long) :: tys) sa U ∧ xN U)) (hq_W (some (.int 1)) D hCl (oc o co (f) :: w1) (hA (oc o co f :: ws))) 1 6 (hA (oc o co f :: ws)) := by
  refine va_MetW (cc := b_Law_size) (maxL := 4) (ret := some .int) (by decide) rfl ?_
  intro p e s m args below meth c0 s₁ B0 hml hv
  obtain ⟨rfl, ⟨hPL, hKL, hD0, hF, hZ⟩, hN⟩ := hv
  have hx := B0.exec
  have hb := B0.bytes
  have hr := B0.returns
  have hts := atoms_spec (ws := w_Law_size) B0.pre
  have hown : s.vm.findClass R_Law = some m.cls := findClass_of_methodNamed B0.named
  have hlocks := B0.notSynchronized
  have hwA : ∀ w ∈ wsA, w.before ([.ref h0, .int p0, .ref o] : List Value).toArray s = true := fun w h => hts w (List.mem_cons_of_mem _ h)
  have X : CallFix p m c0 b_Law_size 4 s ([.ref h0, .int p0, .ref o] : List Value).toArray wsA R_Law := ⟨hx, hb, hml, hown, hwA⟩
  have hDL := hA_D hD0
  have hS : va_S (hA (oc o co f :: ws)) s.heap s.heap [] := va_S.rf
  have hl := lv_entry ([.ref h0, .int p0, .ref o]) (n := 4) (Nat.le_of_ble_eq_true rfl)
  rw [lg_entry_eq]
  generalize (lg_sl ([.ref h0, .int p0, .ref o]) ++ List.replicate (4 - (lg_sl ([.ref h0, .int p0, .ref o])).length) Slot.unset).toArray = ls at hl ⊢
  have hl : lv_has ls 4 [(0, .ref h0), (1, .int p0), (2, .ref o)] := hl
  have htab := vx_table (x := y_Law_size) B0 (hts _ List.mem_cons_self)
  have hP := P_tl hPL
  have hK := K_tl hKL
  have hD := D_tl hDL
  have hno := D_hd hDL
  have hol : o < s.heap.size := (hPL 0 _ rfl).lt
  refine lv_aload_n hx hb d_Law_size_0 rfl (lv_at hl 2 rfl) ?_
  refine lv_iconst (v := 0) hx hb d_Law_size_1 (by decide) ?_
  refine lv_aload_n hx hb d_Law_size_2 rfl (lv_at hl 0 rfl) ?_
  refine lv_iload_n hx hb d_Law_size_3 rfl (lv_at hl 1 rfl) ?_
  refine hX_VF (As := [.int p0]) (C := R_Hop) X hM (cwV 1 X.2.2.2.2 g_Law_Hop_size rfl rfl rfl (by decide +kernel) ⟨Nat.le_of_ble_eq_true rfl, Nat.le_of_ble_eq_true rfl⟩) hP hK hD (hd1 _ hD) hS hF hZ (va_recv hK hP (ci := 0) (q := (R_Hop, F_Hop, 6)) rfl hr0) rfl hl.1 rfl (Nat.le_of_ble_eq_true rfl) ⟨Nat.le_of_ble_eq_true rfl, Nat.le_of_ble_eq_true rfl⟩ d_Law_size_4 (fun E ce q9 H locs h hP hD hS h4 h5 h6 hfr => ?_) (fun v9 H1 locs1 h _ _ _ _ => nomatch h)
  cases h
  have hPL1 := P_cons ((hPL 0 _ rfl).kept (hfr o hol hno)) hP
  refine vx_catch (own := R_Law) (name := "java/lang/IndexOutOfBoundsException") hown [] ⟨0, 9, 12, 13⟩ [] htab (fun z hz => by cases hz) (by decide) (by decide) (hwA (.classLink R_Law 13 "java/lang/IndexOutOfBoundsException") m_103) (wF_sm (w := .castable "java/lang/IndexOutOfBoundsException" "java/lang/IndexOutOfBoundsException") cst_io rfl (hF.1 _ cst_io)) h4 h5 h6 ?_
  refine lv_astore_n (lv' := [(3, .ref q9), (0, .ref h0), (1, .int p0), (2, .ref o)]) hx hb d_Law_size_12 rfl hl (by decide) rfl (fun ls hl => ?_)
  refine lv_iconst (v := 1) hx hb d_Law_size_13 (by decide) ?_
  refine W.widen (k := 1) (n := 6) (Nat.le_of_ble_eq_true rfl) (Nat.le_of_ble_eq_true rfl) ?_
  exact W.iret (v := 1) hx hb hr (fun t ht hW => ⟨rfl, by rw [ht]; exact hPL1, hS.F ht⟩) hS.2.2 d_Law_size_14
set_option maxHeartbeats 4000000 in
set_option maxRecDepth 100000 in
/-- the law's clear -/
theorem c_Law_clear_ok (l : Launch) (D : va_G) (ws w1 : va_W) (tys : List (ClassId × FieldType)) (sa : Nat → Nat) (h0 o co : Nat) (fs : List Value) (f : Nat → Int64) (p0 : Int32) (v : Int32) (hr0 : ws[0]? = some (h0, .inr (0, fs))) (hsub : ∀ x, hA w1 x → hA ws x) (hd1 : ∀ A : Nat → Prop, va_D A ws → va_D A w1) (hM : vx_Met l y_Hop_clear w_Hop_clear (rmD 7 1 6) (va_Pc [.ref h0, .int p0] (hb_X D hCl ws tys sa)) (hX_Q (.inl (some (.int v))) D hCl w1 (hA ws)) (hX_X (.inl (some (.int v))) D hCl w1 (hA ws)) 1 6 (hA ws)) : Met l y_Law_clear w_Law_clear (rmD 8 1 6) (va_Pc [.ref h0, .int p0, .ref o] (fun U => hb_X D hCl (oc o co f :: ws) ((co, .long) :: tys) sa U ∧ xN U)) (hq_W (some (.int 0)) D hCl (oc o co (vp_updL f 0 (Int32.toInt64 v)) :: w1) (hA (oc o co f :: ws))) 1 6 (hA (oc o co f :: ws)) := by
  refine va_MetW (cc := b_Law_clear) (maxL := 4) (ret := some .int) (by decide) rfl ?_
  intro p e s m args below meth c0 s₁ B0 hml hv
  obtain ⟨rfl, ⟨hPL, hKL, hD0, hF, hZ⟩, hN⟩ := hv
  have hx := B0.exec
  have hb := B0.bytes
  have hr := B0.returns
  have hts := atoms_spec (ws := w_Law_clear) B0.pre
  have hown : s.vm.findClass R_Law = some m.cls := findClass_of_methodNamed B0.named
  have hlocks := B0.notSynchronized
  have hwA : ∀ w ∈ wsA, w.before ([.ref h0, .int p0, .ref o] : List Value).toArray s = true := fun w h => hts w (List.mem_cons_of_mem _ h)
  have X : CallFix p m c0 b_Law_clear 4 s ([.ref h0, .int p0, .ref o] : List Value).toArray wsA R_Law := ⟨hx, hb, hml, hown, hwA⟩
  have hDL := hA_D hD0
  have hS : va_S (hA (oc o co f :: ws)) s.heap s.heap [] := va_S.rf
  have hl := lv_entry ([.ref h0, .int p0, .ref o]) (n := 4) (Nat.le_of_ble_eq_true rfl)
  rw [lg_entry_eq]
  generalize (lg_sl ([.ref h0, .int p0, .ref o]) ++ List.replicate (4 - (lg_sl ([.ref h0, .int p0, .ref o])).length) Slot.unset).toArray = ls at hl ⊢
  have hl : lv_has ls 4 [(0, .ref h0), (1, .int p0), (2, .ref o)] := hl
  have htab := vx_table (x := y_Law_clear) B0 (hts _ List.mem_cons_self)
  have hP := P_tl hPL
  have hK := K_tl hKL
  have hD := D_tl hDL
  have hno := D_hd hDL
  have hol : o < s.heap.size := (hPL 0 _ rfl).lt
  refine lv_aload_n hx hb d_Law_clear_0 rfl (lv_at hl 2 rfl) ?_
  refine lv_iconst (v := 0) hx hb d_Law_clear_1 (by decide) ?_
  refine lv_aload_n hx hb d_Law_clear_2 rfl (lv_at hl 0 rfl) ?_
  refine lv_iload_n hx hb d_Law_clear_3 rfl (lv_at hl 1 rfl) ?_
  refine hX_VF (As := [.int p0]) (C := R_Hop) X hM (cwV 1 X.2.2.2.2 g_Law_Hop_clear rfl rfl rfl (by decide +kernel) ⟨Nat.le_of_ble_eq_true rfl, Nat.le_of_ble_eq_true rfl⟩) hP hK hD (hd1 _ hD) hS hF hZ (va_recv hK hP (ci := 0) (q := (R_Hop, F_Hop, 6)) rfl hr0) rfl hl.1 rfl (Nat.le_of_ble_eq_true rfl) ⟨Nat.le_of_ble_eq_true rfl, Nat.le_of_ble_eq_true rfl⟩ d_Law_clear_4 (fun E ce q9 H1 locs1 h _ _ _ _ _ _ _ => nomatch h) (fun v9 H locs h hP hD hS hfr => ?_)
  cases h
  have hPL1 := P_cons ((hPL 0 _ rfl).kept (hfr o hol hno)) hP
  have hDL1 := D_cons (x := oc o co f) (hDL.2 0 _ rfl) hD (fun z => hno (hsub o z))
  refine lv_i2l hx hb d_Law_clear_7 rfl ?_
  refine va_last hx hb hKL hPL1 hDL1 hS 0 0 rfl rfl (vp_in_nI (n := 0) (by decide) (by decide)) d_Law_clear_8 (fun H locs hP hD hS => ?_)
  refine lv_goto (tgt := 15) hx hb d_Law_clear_9 (by decide) ?_
  refine lv_iconst (v := 0) hx hb d_Law_clear_15 (by decide) ?_
  refine W.widen (k := 1) (n := 6) (Nat.le_of_ble_eq_true rfl) (Nat.le_of_ble_eq_true rfl) ?_
  exact W.iret (v := 0) hx hb hr (fun t ht hW => ⟨rfl, by rw [ht]; exact hP, hS.F ht⟩) hS.2.2 d_Law_clear_16
set_option maxHeartbeats 4000000 in
set_option maxRecDepth 100000 in
/-- the law's clear -/
theorem c_Law_clear_io (l : Launch) (D : va_G) (ws w1 : va_W) (tys : List (ClassId × FieldType)) (sa : Nat → Nat) (h0 o co : Nat) (fs : List Value) (f : Nat → Int64) (p0 : Int32)  (hr0 : ws[0]? = some (h0, .inr (0, fs))) (hsub : ∀ x, hA w1 x → hA ws x) (hd1 : ∀ A : Nat → Prop, va_D A ws → va_D A w1) (hM : vx_Met l y_Hop_clear w_Hop_clear (rmD 7 1 6) (va_Pc [.ref h0, .int p0] (hb_X D hCl ws tys sa)) (hX_Q (.inr "java/lang/IndexOutOfBoundsException") D hCl w1 (hA ws)) (hX_X (.inr "java/lang/IndexOutOfBoundsException") D hCl w1 (hA ws)) 1 6 (hA ws)) : Met l y_Law_clear w_Law_clear (rmD 8 1 6) (va_Pc [.ref h0, .int p0, .ref o] (fun U => hb_X D hCl (oc o co f :: ws) ((co, .long) :: tys) sa U ∧ xN U)) (hq_W (some (.int 1)) D hCl (oc o co (f) :: w1) (hA (oc o co f :: ws))) 1 6 (hA (oc o co f :: ws)) := by
  refine va_MetW (cc := b_Law_clear) (maxL := 4) (ret := some .int) (by decide) rfl ?_
  intro p e s m args below meth c0 s₁ B0 hml hv
  obtain ⟨rfl, ⟨hPL, hKL, hD0, hF, hZ⟩, hN⟩ := hv
  have hx := B0.exec
  have hb := B0.bytes
  have hr := B0.returns
  have hts := atoms_spec (ws := w_Law_clear) B0.pre
  have hown : s.vm.findClass R_Law = some m.cls := findClass_of_methodNamed B0.named
  have hlocks := B0.notSynchronized
  have hwA : ∀ w ∈ wsA, w.before ([.ref h0, .int p0, .ref o] : List Value).toArray s = true := fun w h => hts w (List.mem_cons_of_mem _ h)
  have X : CallFix p m c0 b_Law_clear 4 s ([.ref h0, .int p0, .ref o] : List Value).toArray wsA R_Law := ⟨hx, hb, hml, hown, hwA⟩
  have hDL := hA_D hD0
  have hS : va_S (hA (oc o co f :: ws)) s.heap s.heap [] := va_S.rf
  have hl := lv_entry ([.ref h0, .int p0, .ref o]) (n := 4) (Nat.le_of_ble_eq_true rfl)
  rw [lg_entry_eq]
  generalize (lg_sl ([.ref h0, .int p0, .ref o]) ++ List.replicate (4 - (lg_sl ([.ref h0, .int p0, .ref o])).length) Slot.unset).toArray = ls at hl ⊢
  have hl : lv_has ls 4 [(0, .ref h0), (1, .int p0), (2, .ref o)] := hl
  have htab := vx_table (x := y_Law_clear) B0 (hts _ List.mem_cons_self)
  have hP := P_tl hPL
  have hK := K_tl hKL
  have hD := D_tl hDL
  have hno := D_hd hDL
  have hol : o < s.heap.size := (hPL 0 _ rfl).lt
  refine lv_aload_n hx hb d_Law_clear_0 rfl (lv_at hl 2 rfl) ?_
  refine lv_iconst (v := 0) hx hb d_Law_clear_1 (by decide) ?_
  refine lv_aload_n hx hb d_Law_clear_2 rfl (lv_at hl 0 rfl) ?_
  refine lv_iload_n hx hb d_Law_clear_3 rfl (lv_at hl 1 rfl) ?_
  refine hX_VF (As := [.int p0]) (C := R_Hop) X hM (cwV 1 X.2.2.2.2 g_Law_Hop_clear rfl rfl rfl (by decide +kernel) ⟨Nat.le_of_ble_eq_true rfl, Nat.le_of_ble_eq_true rfl⟩) hP hK hD (hd1 _ hD) hS hF hZ (va_recv hK hP (ci := 0) (q := (R_Hop, F_Hop, 6)) rfl hr0) rfl hl.1 rfl (Nat.le_of_ble_eq_true rfl) ⟨Nat.le_of_ble_eq_true rfl, Nat.le_of_ble_eq_true rfl⟩ d_Law_clear_4 (fun E ce q9 H locs h hP hD hS h4 h5 h6 hfr => ?_) (fun v9 H1 locs1 h _ _ _ _ => nomatch h)
  cases h
  have hPL1 := P_cons ((hPL 0 _ rfl).kept (hfr o hol hno)) hP
  refine vx_catch (own := R_Law) (name := "java/lang/IndexOutOfBoundsException") hown [] ⟨0, 9, 12, 13⟩ [] htab (fun z hz => by cases hz) (by decide) (by decide) (hwA (.classLink R_Law 13 "java/lang/IndexOutOfBoundsException") m_103) (wF_sm (w := .castable "java/lang/IndexOutOfBoundsException" "java/lang/IndexOutOfBoundsException") cst_io rfl (hF.1 _ cst_io)) h4 h5 h6 ?_
  refine lv_astore_n (lv' := [(3, .ref q9), (0, .ref h0), (1, .int p0), (2, .ref o)]) hx hb d_Law_clear_12 rfl hl (by decide) rfl (fun ls hl => ?_)
  refine lv_iconst (v := 1) hx hb d_Law_clear_13 (by decide) ?_
  refine W.widen (k := 1) (n := 6) (Nat.le_of_ble_eq_true rfl) (Nat.le_of_ble_eq_true rfl) ?_
  exact W.iret (v := 1) hx hb hr (fun t ht hW => ⟨rfl, by rw [ht]; exact hPL1, hS.F ht⟩) hS.2.2 d_Law_clear_14
set_option maxHeartbeats 4000000 in
set_option maxRecDepth 100000 in
/-- the law's about -/
theorem c_Law_about_ok (l : Launch) (D : va_G) (ws w1 : va_W) (tys : List (ClassId × FieldType)) (sa : Nat → Nat) (h0 o co : Nat) (fs : List Value) (f : Nat → Int64) (p0 p1 : Int32) (v : Int32) (hr0 : ws[0]? = some (h0, .inr (0, fs))) (hsub : ∀ x, hA w1 x → hA ws x) (hd1 : ∀ A : Nat → Prop, va_D A ws → va_D A w1) (hM : vx_Met l y_Hop_about w_Hop_about (rmD 7 2 12) (va_Pc [.ref h0, .int p0, .int p1] (hb_X D hCl ws tys sa)) (hX_Q (.inl (some (.int v))) D hCl w1 (hA ws)) (hX_X (.inl (some (.int v))) D hCl w1 (hA ws)) 2 12 (hA ws)) : Met l y_Law_about w_Law_about (rmD 8 2 12) (va_Pc [.ref h0, .int p0, .int p1, .ref o] (fun U => hb_X D hCl (oc o co f :: ws) ((co, .long) :: tys) sa U ∧ xN U)) (hq_W (some (.int 0)) D hCl (oc o co (vp_updL f 0 (Int32.toInt64 v)) :: w1) (hA (oc o co f :: ws))) 2 12 (hA (oc o co f :: ws)) := by
  refine va_MetW (cc := b_Law_about) (maxL := 5) (ret := some .int) (by decide) rfl ?_
  intro p e s m args below meth c0 s₁ B0 hml hv
  obtain ⟨rfl, ⟨hPL, hKL, hD0, hF, hZ⟩, hN⟩ := hv
  have hx := B0.exec
  have hb := B0.bytes
  have hr := B0.returns
  have hts := atoms_spec (ws := w_Law_about) B0.pre
  have hown : s.vm.findClass R_Law = some m.cls := findClass_of_methodNamed B0.named
  have hlocks := B0.notSynchronized
  have hwA : ∀ w ∈ wsA, w.before ([.ref h0, .int p0, .int p1, .ref o] : List Value).toArray s = true := fun w h => hts w (List.mem_cons_of_mem _ h)
  have X : CallFix p m c0 b_Law_about 5 s ([.ref h0, .int p0, .int p1, .ref o] : List Value).toArray wsA R_Law := ⟨hx, hb, hml, hown, hwA⟩
  have hDL := hA_D hD0
  have hS : va_S (hA (oc o co f :: ws)) s.heap s.heap [] := va_S.rf
  have hl := lv_entry ([.ref h0, .int p0, .int p1, .ref o]) (n := 5) (Nat.le_of_ble_eq_true rfl)
  rw [lg_entry_eq]
  generalize (lg_sl ([.ref h0, .int p0, .int p1, .ref o]) ++ List.replicate (5 - (lg_sl ([.ref h0, .int p0, .int p1, .ref o])).length) Slot.unset).toArray = ls at hl ⊢
  have hl : lv_has ls 5 [(0, .ref h0), (1, .int p0), (2, .int p1), (3, .ref o)] := hl
  have htab := vx_table (x := y_Law_about) B0 (hts _ List.mem_cons_self)
  have hP := P_tl hPL
  have hK := K_tl hKL
  have hD := D_tl hDL
  have hno := D_hd hDL
  have hol : o < s.heap.size := (hPL 0 _ rfl).lt
  refine lv_aload_n hx hb d_Law_about_0 rfl (lv_at hl 3 rfl) ?_
  refine lv_iconst (v := 0) hx hb d_Law_about_1 (by decide) ?_
  refine lv_aload_n hx hb d_Law_about_2 rfl (lv_at hl 0 rfl) ?_
  refine lv_iload_n hx hb d_Law_about_3 rfl (lv_at hl 1 rfl) ?_
  refine lv_iload_n hx hb d_Law_about_4 rfl (lv_at hl 2 rfl) ?_
  refine hX_VF (As := [.int p0, .int p1]) (C := R_Hop) X hM (cwV 2 X.2.2.2.2 g_Law_Hop_about rfl rfl rfl (by decide +kernel) ⟨Nat.le_of_ble_eq_true rfl, Nat.le_of_ble_eq_true rfl⟩) hP hK hD (hd1 _ hD) hS hF hZ (va_recv hK hP (ci := 0) (q := (R_Hop, F_Hop, 6)) rfl hr0) rfl hl.1 rfl (Nat.le_of_ble_eq_true rfl) ⟨Nat.le_of_ble_eq_true rfl, Nat.le_of_ble_eq_true rfl⟩ d_Law_about_5 (fun E ce q9 H1 locs1 h _ _ _ _ _ _ _ => nomatch h) (fun v9 H locs h hP hD hS hfr => ?_)
  cases h
  have hPL1 := P_cons ((hPL 0 _ rfl).kept (hfr o hol hno)) hP
  have hDL1 := D_cons (x := oc o co f) (hDL.2 0 _ rfl) hD (fun z => hno (hsub o z))
  refine lv_i2l hx hb d_Law_about_8 rfl ?_
  refine va_last hx hb hKL hPL1 hDL1 hS 0 0 rfl rfl (vp_in_nI (n := 0) (by decide) (by decide)) d_Law_about_9 (fun H locs hP hD hS => ?_)
  refine lv_goto (tgt := 21) hx hb d_Law_about_10 (by decide) ?_
  refine lv_iconst (v := 0) hx hb d_Law_about_21 (by decide) ?_
  refine W.widen (k := 2) (n := 12) (Nat.le_of_ble_eq_true rfl) (Nat.le_of_ble_eq_true rfl) ?_
  exact W.iret (v := 0) hx hb hr (fun t ht hW => ⟨rfl, by rw [ht]; exact hP, hS.F ht⟩) hS.2.2 d_Law_about_22
set_option maxHeartbeats 4000000 in
set_option maxRecDepth 100000 in
/-- the law's about -/
theorem c_Law_about_io (l : Launch) (D : va_G) (ws w1 : va_W) (tys : List (ClassId × FieldType)) (sa : Nat → Nat) (h0 o co : Nat) (fs : List Value) (f : Nat → Int64) (p0 p1 : Int32)  (hr0 : ws[0]? = some (h0, .inr (0, fs))) (hsub : ∀ x, hA w1 x → hA ws x) (hd1 : ∀ A : Nat → Prop, va_D A ws → va_D A w1) (hM : vx_Met l y_Hop_about w_Hop_about (rmD 7 2 12) (va_Pc [.ref h0, .int p0, .int p1] (hb_X D hCl ws tys sa)) (hX_Q (.inr "java/lang/IndexOutOfBoundsException") D hCl w1 (hA ws)) (hX_X (.inr "java/lang/IndexOutOfBoundsException") D hCl w1 (hA ws)) 2 12 (hA ws)) : Met l y_Law_about w_Law_about (rmD 8 2 12) (va_Pc [.ref h0, .int p0, .int p1, .ref o] (fun U => hb_X D hCl (oc o co f :: ws) ((co, .long) :: tys) sa U ∧ xN U)) (hq_W (some (.int 1)) D hCl (oc o co (f) :: w1) (hA (oc o co f :: ws))) 2 12 (hA (oc o co f :: ws)) := by
  refine va_MetW (cc := b_Law_about) (maxL := 5) (ret := some .int) (by decide) rfl ?_
  intro p e s m args below meth c0 s₁ B0 hml hv
  obtain ⟨rfl, ⟨hPL, hKL, hD0, hF, hZ⟩, hN⟩ := hv
  have hx := B0.exec
  have hb := B0.bytes
  have hr := B0.returns
  have hts := atoms_spec (ws := w_Law_about) B0.pre
  have hown : s.vm.findClass R_Law = some m.cls := findClass_of_methodNamed B0.named
  have hlocks := B0.notSynchronized
  have hwA : ∀ w ∈ wsA, w.before ([.ref h0, .int p0, .int p1, .ref o] : List Value).toArray s = true := fun w h => hts w (List.mem_cons_of_mem _ h)
  have X : CallFix p m c0 b_Law_about 5 s ([.ref h0, .int p0, .int p1, .ref o] : List Value).toArray wsA R_Law := ⟨hx, hb, hml, hown, hwA⟩
  have hDL := hA_D hD0
  have hS : va_S (hA (oc o co f :: ws)) s.heap s.heap [] := va_S.rf
  have hl := lv_entry ([.ref h0, .int p0, .int p1, .ref o]) (n := 5) (Nat.le_of_ble_eq_true rfl)
  rw [lg_entry_eq]
  generalize (lg_sl ([.ref h0, .int p0, .int p1, .ref o]) ++ List.replicate (5 - (lg_sl ([.ref h0, .int p0, .int p1, .ref o])).length) Slot.unset).toArray = ls at hl ⊢
  have hl : lv_has ls 5 [(0, .ref h0), (1, .int p0), (2, .int p1), (3, .ref o)] := hl
  have htab := vx_table (x := y_Law_about) B0 (hts _ List.mem_cons_self)
  have hP := P_tl hPL
  have hK := K_tl hKL
  have hD := D_tl hDL
  have hno := D_hd hDL
  have hol : o < s.heap.size := (hPL 0 _ rfl).lt
  refine lv_aload_n hx hb d_Law_about_0 rfl (lv_at hl 3 rfl) ?_
  refine lv_iconst (v := 0) hx hb d_Law_about_1 (by decide) ?_
  refine lv_aload_n hx hb d_Law_about_2 rfl (lv_at hl 0 rfl) ?_
  refine lv_iload_n hx hb d_Law_about_3 rfl (lv_at hl 1 rfl) ?_
  refine lv_iload_n hx hb d_Law_about_4 rfl (lv_at hl 2 rfl) ?_
  refine hX_VF (As := [.int p0, .int p1]) (C := R_Hop) X hM (cwV 2 X.2.2.2.2 g_Law_Hop_about rfl rfl rfl (by decide +kernel) ⟨Nat.le_of_ble_eq_true rfl, Nat.le_of_ble_eq_true rfl⟩) hP hK hD (hd1 _ hD) hS hF hZ (va_recv hK hP (ci := 0) (q := (R_Hop, F_Hop, 6)) rfl hr0) rfl hl.1 rfl (Nat.le_of_ble_eq_true rfl) ⟨Nat.le_of_ble_eq_true rfl, Nat.le_of_ble_eq_true rfl⟩ d_Law_about_5 (fun E ce q9 H locs h hP hD hS h4 h5 h6 hfr => ?_) (fun v9 H1 locs1 h _ _ _ _ => nomatch h)
  cases h
  have hPL1 := P_cons ((hPL 0 _ rfl).kept (hfr o hol hno)) hP
  refine vx_catch (own := R_Law) (name := "java/lang/IndexOutOfBoundsException") hown [] ⟨0, 10, 13, 13⟩ [⟨0, 10, 17, 40⟩] htab (fun z hz => by cases hz) (by decide) (by decide) (hwA (.classLink R_Law 13 "java/lang/IndexOutOfBoundsException") m_103) (wF_sm (w := .castable "java/lang/IndexOutOfBoundsException" "java/lang/IndexOutOfBoundsException") cst_io rfl (hF.1 _ cst_io)) h4 h5 h6 ?_
  refine lv_astore (lv' := [(4, .ref q9), (0, .ref h0), (1, .int p0), (2, .int p1), (3, .ref o)]) hx hb d_Law_about_13 hl (by decide) rfl (fun ls hl => ?_)
  refine lv_iconst (v := 1) hx hb d_Law_about_15 (by decide) ?_
  refine W.widen (k := 2) (n := 12) (Nat.le_of_ble_eq_true rfl) (Nat.le_of_ble_eq_true rfl) ?_
  exact W.iret (v := 1) hx hb hr (fun t ht hW => ⟨rfl, by rw [ht]; exact hPL1, hS.F ht⟩) hS.2.2 d_Law_about_16
set_option maxHeartbeats 4000000 in
set_option maxRecDepth 100000 in
/-- the law's about -/
theorem c_Law_about_ia (l : Launch) (D : va_G) (ws w1 : va_W) (tys : List (ClassId × FieldType)) (sa : Nat → Nat) (h0 o co : Nat) (fs : List Value) (f : Nat → Int64) (p0 p1 : Int32)  (hr0 : ws[0]? = some (h0, .inr (0, fs))) (hsub : ∀ x, hA w1 x → hA ws x) (hd1 : ∀ A : Nat → Prop, va_D A ws → va_D A w1) (hM : vx_Met l y_Hop_about w_Hop_about (rmD 7 2 12) (va_Pc [.ref h0, .int p0, .int p1] (hb_X D hCl ws tys sa)) (hX_Q (.inr "java/lang/IllegalArgumentException") D hCl w1 (hA ws)) (hX_X (.inr "java/lang/IllegalArgumentException") D hCl w1 (hA ws)) 2 12 (hA ws)) : Met l y_Law_about w_Law_about (rmD 8 2 12) (va_Pc [.ref h0, .int p0, .int p1, .ref o] (fun U => hb_X D hCl (oc o co f :: ws) ((co, .long) :: tys) sa U ∧ xN U)) (hq_W (some (.int 2)) D hCl (oc o co (f) :: w1) (hA (oc o co f :: ws))) 2 12 (hA (oc o co f :: ws)) := by
  refine va_MetW (cc := b_Law_about) (maxL := 5) (ret := some .int) (by decide) rfl ?_
  intro p e s m args below meth c0 s₁ B0 hml hv
  obtain ⟨rfl, ⟨hPL, hKL, hD0, hF, hZ⟩, hN⟩ := hv
  have hx := B0.exec
  have hb := B0.bytes
  have hr := B0.returns
  have hts := atoms_spec (ws := w_Law_about) B0.pre
  have hown : s.vm.findClass R_Law = some m.cls := findClass_of_methodNamed B0.named
  have hlocks := B0.notSynchronized
  have hwA : ∀ w ∈ wsA, w.before ([.ref h0, .int p0, .int p1, .ref o] : List Value).toArray s = true := fun w h => hts w (List.mem_cons_of_mem _ h)
  have X : CallFix p m c0 b_Law_about 5 s ([.ref h0, .int p0, .int p1, .ref o] : List Value).toArray wsA R_Law := ⟨hx, hb, hml, hown, hwA⟩
  have hDL := hA_D hD0
  have hS : va_S (hA (oc o co f :: ws)) s.heap s.heap [] := va_S.rf
  have hl := lv_entry ([.ref h0, .int p0, .int p1, .ref o]) (n := 5) (Nat.le_of_ble_eq_true rfl)
  rw [lg_entry_eq]
  generalize (lg_sl ([.ref h0, .int p0, .int p1, .ref o]) ++ List.replicate (5 - (lg_sl ([.ref h0, .int p0, .int p1, .ref o])).length) Slot.unset).toArray = ls at hl ⊢
  have hl : lv_has ls 5 [(0, .ref h0), (1, .int p0), (2, .int p1), (3, .ref o)] := hl
  have htab := vx_table (x := y_Law_about) B0 (hts _ List.mem_cons_self)
  have hP := P_tl hPL
  have hK := K_tl hKL
  have hD := D_tl hDL
  have hno := D_hd hDL
  have hol : o < s.heap.size := (hPL 0 _ rfl).lt
  refine lv_aload_n hx hb d_Law_about_0 rfl (lv_at hl 3 rfl) ?_
  refine lv_iconst (v := 0) hx hb d_Law_about_1 (by decide) ?_
  refine lv_aload_n hx hb d_Law_about_2 rfl (lv_at hl 0 rfl) ?_
  refine lv_iload_n hx hb d_Law_about_3 rfl (lv_at hl 1 rfl) ?_
  refine lv_iload_n hx hb d_Law_about_4 rfl (lv_at hl 2 rfl) ?_
  refine hX_VF (As := [.int p0, .int p1]) (C := R_Hop) X hM (cwV 2 X.2.2.2.2 g_Law_Hop_about rfl rfl rfl (by decide +kernel) ⟨Nat.le_of_ble_eq_true rfl, Nat.le_of_ble_eq_true rfl⟩) hP hK hD (hd1 _ hD) hS hF hZ (va_recv hK hP (ci := 0) (q := (R_Hop, F_Hop, 6)) rfl hr0) rfl hl.1 rfl (Nat.le_of_ble_eq_true rfl) ⟨Nat.le_of_ble_eq_true rfl, Nat.le_of_ble_eq_true rfl⟩ d_Law_about_5 (fun E ce q9 H locs h hP hD hS h4 h5 h6 hfr => ?_) (fun v9 H1 locs1 h _ _ _ _ => nomatch h)
  cases h
  have hPL1 := P_cons ((hPL 0 _ rfl).kept (hfr o hol hno)) hP
  refine vx_catch (own := R_Law) (name := "java/lang/IllegalArgumentException") hown [⟨0, 10, 13, 13⟩] ⟨0, 10, 17, 40⟩ [] htab (fun z hz => by simp only [List.mem_cons, List.not_mem_nil, or_false] at hz; subst hz; exact Or.inr ⟨by decide, "java/lang/IndexOutOfBoundsException", hwA (.classLink R_Law 13 "java/lang/IndexOutOfBoundsException") m_103, hN ("java/lang/IllegalArgumentException", "java/lang/IndexOutOfBoundsException") (by decide +kernel)⟩) (by decide) (by decide) (hwA (.classLink R_Law 40 "java/lang/IllegalArgumentException") m_343) (wF_sm (w := .castable "java/lang/IllegalArgumentException" "java/lang/IllegalArgumentException") cst_ia rfl (hF.1 _ cst_ia)) h4 h5 h6 ?_
  refine lv_astore (lv' := [(4, .ref q9), (0, .ref h0), (1, .int p0), (2, .int p1), (3, .ref o)]) hx hb d_Law_about_17 hl (by decide) rfl (fun ls hl => ?_)
  refine lv_iconst (v := 2) hx hb d_Law_about_19 (by decide) ?_
  refine W.widen (k := 2) (n := 12) (Nat.le_of_ble_eq_true rfl) (Nat.le_of_ble_eq_true rfl) ?_
  exact W.iret (v := 2) hx hb hr (fun t ht hW => ⟨rfl, by rw [ht]; exact hPL1, hS.F ht⟩) hS.2.2 d_Law_about_20
set_option maxHeartbeats 4000000 in
set_option maxRecDepth 100000 in
/-- the law's home -/
theorem c_Law_home_ok (l : Launch) (D : va_G) (ws w1 : va_W) (tys : List (ClassId × FieldType)) (sa : Nat → Nat) (h0 o co : Nat) (fs : List Value) (f : Nat → Int64) (p0 p1 : Int32) (v : Int32) (hr0 : ws[0]? = some (h0, .inr (0, fs))) (hsub : ∀ x, hA w1 x → hA ws x) (hd1 : ∀ A : Nat → Prop, va_D A ws → va_D A w1) (hM : vx_Met l y_Hop_home w_Hop_home (rmD 7 1 6) (va_Pc [.ref h0, .int p0, .int p1] (hb_X D hCl ws tys sa)) (hX_Q (.inl (some (.int v))) D hCl w1 (hA ws)) (hX_X (.inl (some (.int v))) D hCl w1 (hA ws)) 1 6 (hA ws)) : Met l y_Law_home w_Law_home (rmD 8 1 6) (va_Pc [.ref h0, .int p0, .int p1, .ref o] (fun U => hb_X D hCl (oc o co f :: ws) ((co, .long) :: tys) sa U ∧ xN U)) (hq_W (some (.int 0)) D hCl (oc o co (vp_updL f 0 (Int32.toInt64 v)) :: w1) (hA (oc o co f :: ws))) 1 6 (hA (oc o co f :: ws)) := by
  refine va_MetW (cc := b_Law_home) (maxL := 5) (ret := some .int) (by decide) rfl ?_
  intro p e s m args below meth c0 s₁ B0 hml hv
  obtain ⟨rfl, ⟨hPL, hKL, hD0, hF, hZ⟩, hN⟩ := hv
  have hx := B0.exec
  have hb := B0.bytes
  have hr := B0.returns
  have hts := atoms_spec (ws := w_Law_home) B0.pre
  have hown : s.vm.findClass R_Law = some m.cls := findClass_of_methodNamed B0.named
  have hlocks := B0.notSynchronized
  have hwA : ∀ w ∈ wsA, w.before ([.ref h0, .int p0, .int p1, .ref o] : List Value).toArray s = true := fun w h => hts w (List.mem_cons_of_mem _ h)
  have X : CallFix p m c0 b_Law_home 5 s ([.ref h0, .int p0, .int p1, .ref o] : List Value).toArray wsA R_Law := ⟨hx, hb, hml, hown, hwA⟩
  have hDL := hA_D hD0
  have hS : va_S (hA (oc o co f :: ws)) s.heap s.heap [] := va_S.rf
  have hl := lv_entry ([.ref h0, .int p0, .int p1, .ref o]) (n := 5) (Nat.le_of_ble_eq_true rfl)
  rw [lg_entry_eq]
  generalize (lg_sl ([.ref h0, .int p0, .int p1, .ref o]) ++ List.replicate (5 - (lg_sl ([.ref h0, .int p0, .int p1, .ref o])).length) Slot.unset).toArray = ls at hl ⊢
  have hl : lv_has ls 5 [(0, .ref h0), (1, .int p0), (2, .int p1), (3, .ref o)] := hl
  have htab := vx_table (x := y_Law_home) B0 (hts _ List.mem_cons_self)
  have hP := P_tl hPL
  have hK := K_tl hKL
  have hD := D_tl hDL
  have hno := D_hd hDL
  have hol : o < s.heap.size := (hPL 0 _ rfl).lt
  refine lv_aload_n hx hb d_Law_home_0 rfl (lv_at hl 3 rfl) ?_
  refine lv_iconst (v := 0) hx hb d_Law_home_1 (by decide) ?_
  refine lv_aload_n hx hb d_Law_home_2 rfl (lv_at hl 0 rfl) ?_
  refine lv_iload_n hx hb d_Law_home_3 rfl (lv_at hl 1 rfl) ?_
  refine lv_iload_n hx hb d_Law_home_4 rfl (lv_at hl 2 rfl) ?_
  refine hX_VF (As := [.int p0, .int p1]) (C := R_Hop) X hM (cwV 2 X.2.2.2.2 g_Law_Hop_home rfl rfl rfl (by decide +kernel) ⟨Nat.le_of_ble_eq_true rfl, Nat.le_of_ble_eq_true rfl⟩) hP hK hD (hd1 _ hD) hS hF hZ (va_recv hK hP (ci := 0) (q := (R_Hop, F_Hop, 6)) rfl hr0) rfl hl.1 rfl (Nat.le_of_ble_eq_true rfl) ⟨Nat.le_of_ble_eq_true rfl, Nat.le_of_ble_eq_true rfl⟩ d_Law_home_5 (fun E ce q9 H1 locs1 h _ _ _ _ _ _ _ => nomatch h) (fun v9 H locs h hP hD hS hfr => ?_)
  cases h
  have hPL1 := P_cons ((hPL 0 _ rfl).kept (hfr o hol hno)) hP
  have hDL1 := D_cons (x := oc o co f) (hDL.2 0 _ rfl) hD (fun z => hno (hsub o z))
  refine lv_i2l hx hb d_Law_home_8 rfl ?_
  refine va_last hx hb hKL hPL1 hDL1 hS 0 0 rfl rfl (vp_in_nI (n := 0) (by decide) (by decide)) d_Law_home_9 (fun H locs hP hD hS => ?_)
  refine lv_goto (tgt := 17) hx hb d_Law_home_10 (by decide) ?_
  refine lv_iconst (v := 0) hx hb d_Law_home_17 (by decide) ?_
  refine W.widen (k := 1) (n := 6) (Nat.le_of_ble_eq_true rfl) (Nat.le_of_ble_eq_true rfl) ?_
  exact W.iret (v := 0) hx hb hr (fun t ht hW => ⟨rfl, by rw [ht]; exact hP, hS.F ht⟩) hS.2.2 d_Law_home_18
set_option maxHeartbeats 4000000 in
set_option maxRecDepth 100000 in
/-- the law's home -/
theorem c_Law_home_io (l : Launch) (D : va_G) (ws w1 : va_W) (tys : List (ClassId × FieldType)) (sa : Nat → Nat) (h0 o co : Nat) (fs : List Value) (f : Nat → Int64) (p0 p1 : Int32)  (hr0 : ws[0]? = some (h0, .inr (0, fs))) (hsub : ∀ x, hA w1 x → hA ws x) (hd1 : ∀ A : Nat → Prop, va_D A ws → va_D A w1) (hM : vx_Met l y_Hop_home w_Hop_home (rmD 7 1 6) (va_Pc [.ref h0, .int p0, .int p1] (hb_X D hCl ws tys sa)) (hX_Q (.inr "java/lang/IndexOutOfBoundsException") D hCl w1 (hA ws)) (hX_X (.inr "java/lang/IndexOutOfBoundsException") D hCl w1 (hA ws)) 1 6 (hA ws)) : Met l y_Law_home w_Law_home (rmD 8 1 6) (va_Pc [.ref h0, .int p0, .int p1, .ref o] (fun U => hb_X D hCl (oc o co f :: ws) ((co, .long) :: tys) sa U ∧ xN U)) (hq_W (some (.int 1)) D hCl (oc o co (f) :: w1) (hA (oc o co f :: ws))) 1 6 (hA (oc o co f :: ws)) := by
  refine va_MetW (cc := b_Law_home) (maxL := 5) (ret := some .int) (by decide) rfl ?_
  intro p e s m args below meth c0 s₁ B0 hml hv
  obtain ⟨rfl, ⟨hPL, hKL, hD0, hF, hZ⟩, hN⟩ := hv
  have hx := B0.exec
  have hb := B0.bytes
  have hr := B0.returns
  have hts := atoms_spec (ws := w_Law_home) B0.pre
  have hown : s.vm.findClass R_Law = some m.cls := findClass_of_methodNamed B0.named
  have hlocks := B0.notSynchronized
  have hwA : ∀ w ∈ wsA, w.before ([.ref h0, .int p0, .int p1, .ref o] : List Value).toArray s = true := fun w h => hts w (List.mem_cons_of_mem _ h)
  have X : CallFix p m c0 b_Law_home 5 s ([.ref h0, .int p0, .int p1, .ref o] : List Value).toArray wsA R_Law := ⟨hx, hb, hml, hown, hwA⟩
  have hDL := hA_D hD0
  have hS : va_S (hA (oc o co f :: ws)) s.heap s.heap [] := va_S.rf
  have hl := lv_entry ([.ref h0, .int p0, .int p1, .ref o]) (n := 5) (Nat.le_of_ble_eq_true rfl)
  rw [lg_entry_eq]
  generalize (lg_sl ([.ref h0, .int p0, .int p1, .ref o]) ++ List.replicate (5 - (lg_sl ([.ref h0, .int p0, .int p1, .ref o])).length) Slot.unset).toArray = ls at hl ⊢
  have hl : lv_has ls 5 [(0, .ref h0), (1, .int p0), (2, .int p1), (3, .ref o)] := hl
  have htab := vx_table (x := y_Law_home) B0 (hts _ List.mem_cons_self)
  have hP := P_tl hPL
  have hK := K_tl hKL
  have hD := D_tl hDL
  have hno := D_hd hDL
  have hol : o < s.heap.size := (hPL 0 _ rfl).lt
  refine lv_aload_n hx hb d_Law_home_0 rfl (lv_at hl 3 rfl) ?_
  refine lv_iconst (v := 0) hx hb d_Law_home_1 (by decide) ?_
  refine lv_aload_n hx hb d_Law_home_2 rfl (lv_at hl 0 rfl) ?_
  refine lv_iload_n hx hb d_Law_home_3 rfl (lv_at hl 1 rfl) ?_
  refine lv_iload_n hx hb d_Law_home_4 rfl (lv_at hl 2 rfl) ?_
  refine hX_VF (As := [.int p0, .int p1]) (C := R_Hop) X hM (cwV 2 X.2.2.2.2 g_Law_Hop_home rfl rfl rfl (by decide +kernel) ⟨Nat.le_of_ble_eq_true rfl, Nat.le_of_ble_eq_true rfl⟩) hP hK hD (hd1 _ hD) hS hF hZ (va_recv hK hP (ci := 0) (q := (R_Hop, F_Hop, 6)) rfl hr0) rfl hl.1 rfl (Nat.le_of_ble_eq_true rfl) ⟨Nat.le_of_ble_eq_true rfl, Nat.le_of_ble_eq_true rfl⟩ d_Law_home_5 (fun E ce q9 H locs h hP hD hS h4 h5 h6 hfr => ?_) (fun v9 H1 locs1 h _ _ _ _ => nomatch h)
  cases h
  have hPL1 := P_cons ((hPL 0 _ rfl).kept (hfr o hol hno)) hP
  refine vx_catch (own := R_Law) (name := "java/lang/IndexOutOfBoundsException") hown [] ⟨0, 10, 13, 13⟩ [] htab (fun z hz => by cases hz) (by decide) (by decide) (hwA (.classLink R_Law 13 "java/lang/IndexOutOfBoundsException") m_103) (wF_sm (w := .castable "java/lang/IndexOutOfBoundsException" "java/lang/IndexOutOfBoundsException") cst_io rfl (hF.1 _ cst_io)) h4 h5 h6 ?_
  refine lv_astore (lv' := [(4, .ref q9), (0, .ref h0), (1, .int p0), (2, .int p1), (3, .ref o)]) hx hb d_Law_home_13 hl (by decide) rfl (fun ls hl => ?_)
  refine lv_iconst (v := 1) hx hb d_Law_home_15 (by decide) ?_
  refine W.widen (k := 1) (n := 6) (Nat.le_of_ble_eq_true rfl) (Nat.le_of_ble_eq_true rfl) ?_
  exact W.iret (v := 1) hx hb hr (fun t ht hW => ⟨rfl, by rw [ht]; exact hPL1, hS.F ht⟩) hS.2.2 d_Law_home_16
set_option maxHeartbeats 4000000 in
set_option maxRecDepth 100000 in
/-- the law's distance -/
theorem c_Law_distance_ok (l : Launch) (D : va_G) (ws w1 : va_W) (tys : List (ClassId × FieldType)) (sa : Nat → Nat) (h0 o co : Nat) (fs : List Value) (f : Nat → Int64) (p0 p1 : Int32) (v : Int32) (hr0 : ws[0]? = some (h0, .inr (0, fs))) (hsub : ∀ x, hA w1 x → hA ws x) (hd1 : ∀ A : Nat → Prop, va_D A ws → va_D A w1) (hM : vx_Met l y_Hop_distance w_Hop_distance (rmD 7 2 12) (va_Pc [.ref h0, .int p0, .int p1] (hb_X D hCl ws tys sa)) (hX_Q (.inl (some (.int v))) D hCl w1 (hA ws)) (hX_X (.inl (some (.int v))) D hCl w1 (hA ws)) 2 12 (hA ws)) : Met l y_Law_distance w_Law_distance (rmD 8 2 12) (va_Pc [.ref h0, .int p0, .int p1, .ref o] (fun U => hb_X D hCl (oc o co f :: ws) ((co, .long) :: tys) sa U ∧ xN U)) (hq_W (some (.int 0)) D hCl (oc o co (vp_updL f 0 (Int32.toInt64 v)) :: w1) (hA (oc o co f :: ws))) 2 12 (hA (oc o co f :: ws)) := by
  refine va_MetW (cc := b_Law_distance) (maxL := 5) (ret := some .int) (by decide) rfl ?_
  intro p e s m args below meth c0 s₁ B0 hml hv
  obtain ⟨rfl, ⟨hPL, hKL, hD0, hF, hZ⟩, hN⟩ := hv
  have hx := B0.exec
  have hb := B0.bytes
  have hr := B0.returns
  have hts := atoms_spec (ws := w_Law_distance) B0.pre
  have hown : s.vm.findClass R_Law = some m.cls := findClass_of_methodNamed B0.named
  have hlocks := B0.notSynchronized
  have hwA : ∀ w ∈ wsA, w.before ([.ref h0, .int p0, .int p1, .ref o] : List Value).toArray s = true := fun w h => hts w (List.mem_cons_of_mem _ h)
  have X : CallFix p m c0 b_Law_distance 5 s ([.ref h0, .int p0, .int p1, .ref o] : List Value).toArray wsA R_Law := ⟨hx, hb, hml, hown, hwA⟩
  have hDL := hA_D hD0
  have hS : va_S (hA (oc o co f :: ws)) s.heap s.heap [] := va_S.rf
  have hl := lv_entry ([.ref h0, .int p0, .int p1, .ref o]) (n := 5) (Nat.le_of_ble_eq_true rfl)
  rw [lg_entry_eq]
  generalize (lg_sl ([.ref h0, .int p0, .int p1, .ref o]) ++ List.replicate (5 - (lg_sl ([.ref h0, .int p0, .int p1, .ref o])).length) Slot.unset).toArray = ls at hl ⊢
  have hl : lv_has ls 5 [(0, .ref h0), (1, .int p0), (2, .int p1), (3, .ref o)] := hl
  have htab := vx_table (x := y_Law_distance) B0 (hts _ List.mem_cons_self)
  have hP := P_tl hPL
  have hK := K_tl hKL
  have hD := D_tl hDL
  have hno := D_hd hDL
  have hol : o < s.heap.size := (hPL 0 _ rfl).lt
  refine lv_aload_n hx hb d_Law_distance_0 rfl (lv_at hl 3 rfl) ?_
  refine lv_iconst (v := 0) hx hb d_Law_distance_1 (by decide) ?_
  refine lv_aload_n hx hb d_Law_distance_2 rfl (lv_at hl 0 rfl) ?_
  refine lv_iload_n hx hb d_Law_distance_3 rfl (lv_at hl 1 rfl) ?_
  refine lv_iload_n hx hb d_Law_distance_4 rfl (lv_at hl 2 rfl) ?_
  refine hX_VF (As := [.int p0, .int p1]) (C := R_Hop) X hM (cwV 2 X.2.2.2.2 g_Law_Hop_distance rfl rfl rfl (by decide +kernel) ⟨Nat.le_of_ble_eq_true rfl, Nat.le_of_ble_eq_true rfl⟩) hP hK hD (hd1 _ hD) hS hF hZ (va_recv hK hP (ci := 0) (q := (R_Hop, F_Hop, 6)) rfl hr0) rfl hl.1 rfl (Nat.le_of_ble_eq_true rfl) ⟨Nat.le_of_ble_eq_true rfl, Nat.le_of_ble_eq_true rfl⟩ d_Law_distance_5 (fun E ce q9 H1 locs1 h _ _ _ _ _ _ _ => nomatch h) (fun v9 H locs h hP hD hS hfr => ?_)
  cases h
  have hPL1 := P_cons ((hPL 0 _ rfl).kept (hfr o hol hno)) hP
  have hDL1 := D_cons (x := oc o co f) (hDL.2 0 _ rfl) hD (fun z => hno (hsub o z))
  refine lv_i2l hx hb d_Law_distance_8 rfl ?_
  refine va_last hx hb hKL hPL1 hDL1 hS 0 0 rfl rfl (vp_in_nI (n := 0) (by decide) (by decide)) d_Law_distance_9 (fun H locs hP hD hS => ?_)
  refine lv_goto (tgt := 21) hx hb d_Law_distance_10 (by decide) ?_
  refine lv_iconst (v := 0) hx hb d_Law_distance_21 (by decide) ?_
  refine W.widen (k := 2) (n := 12) (Nat.le_of_ble_eq_true rfl) (Nat.le_of_ble_eq_true rfl) ?_
  exact W.iret (v := 0) hx hb hr (fun t ht hW => ⟨rfl, by rw [ht]; exact hP, hS.F ht⟩) hS.2.2 d_Law_distance_22
set_option maxHeartbeats 4000000 in
set_option maxRecDepth 100000 in
/-- the law's distance -/
theorem c_Law_distance_io (l : Launch) (D : va_G) (ws w1 : va_W) (tys : List (ClassId × FieldType)) (sa : Nat → Nat) (h0 o co : Nat) (fs : List Value) (f : Nat → Int64) (p0 p1 : Int32)  (hr0 : ws[0]? = some (h0, .inr (0, fs))) (hsub : ∀ x, hA w1 x → hA ws x) (hd1 : ∀ A : Nat → Prop, va_D A ws → va_D A w1) (hM : vx_Met l y_Hop_distance w_Hop_distance (rmD 7 2 12) (va_Pc [.ref h0, .int p0, .int p1] (hb_X D hCl ws tys sa)) (hX_Q (.inr "java/lang/IndexOutOfBoundsException") D hCl w1 (hA ws)) (hX_X (.inr "java/lang/IndexOutOfBoundsException") D hCl w1 (hA ws)) 2 12 (hA ws)) : Met l y_Law_distance w_Law_distance (rmD 8 2 12) (va_Pc [.ref h0, .int p0, .int p1, .ref o] (fun U => hb_X D hCl (oc o co f :: ws) ((co, .long) :: tys) sa U ∧ xN U)) (hq_W (some (.int 1)) D hCl (oc o co (f) :: w1) (hA (oc o co f :: ws))) 2 12 (hA (oc o co f :: ws)) := by
  refine va_MetW (cc := b_Law_distance) (maxL := 5) (ret := some .int) (by decide) rfl ?_
  intro p e s m args below meth c0 s₁ B0 hml hv
  obtain ⟨rfl, ⟨hPL, hKL, hD0, hF, hZ⟩, hN⟩ := hv
  have hx := B0.exec
  have hb := B0.bytes
  have hr := B0.returns
  have hts := atoms_spec (ws := w_Law_distance) B0.pre
  have hown : s.vm.findClass R_Law = some m.cls := findClass_of_methodNamed B0.named
  have hlocks := B0.notSynchronized
  have hwA : ∀ w ∈ wsA, w.before ([.ref h0, .int p0, .int p1, .ref o] : List Value).toArray s = true := fun w h => hts w (List.mem_cons_of_mem _ h)
  have X : CallFix p m c0 b_Law_distance 5 s ([.ref h0, .int p0, .int p1, .ref o] : List Value).toArray wsA R_Law := ⟨hx, hb, hml, hown, hwA⟩
  have hDL := hA_D hD0
  have hS : va_S (hA (oc o co f :: ws)) s.heap s.heap [] := va_S.rf
  have hl := lv_entry ([.ref h0, .int p0, .int p1, .ref o]) (n := 5) (Nat.le_of_ble_eq_true rfl)
  rw [lg_entry_eq]
  generalize (lg_sl ([.ref h0, .int p0, .int p1, .ref o]) ++ List.replicate (5 - (lg_sl ([.ref h0, .int p0, .int p1, .ref o])).length) Slot.unset).toArray = ls at hl ⊢
  have hl : lv_has ls 5 [(0, .ref h0), (1, .int p0), (2, .int p1), (3, .ref o)] := hl
  have htab := vx_table (x := y_Law_distance) B0 (hts _ List.mem_cons_self)
  have hP := P_tl hPL
  have hK := K_tl hKL
  have hD := D_tl hDL
  have hno := D_hd hDL
  have hol : o < s.heap.size := (hPL 0 _ rfl).lt
  refine lv_aload_n hx hb d_Law_distance_0 rfl (lv_at hl 3 rfl) ?_
  refine lv_iconst (v := 0) hx hb d_Law_distance_1 (by decide) ?_
  refine lv_aload_n hx hb d_Law_distance_2 rfl (lv_at hl 0 rfl) ?_
  refine lv_iload_n hx hb d_Law_distance_3 rfl (lv_at hl 1 rfl) ?_
  refine lv_iload_n hx hb d_Law_distance_4 rfl (lv_at hl 2 rfl) ?_
  refine hX_VF (As := [.int p0, .int p1]) (C := R_Hop) X hM (cwV 2 X.2.2.2.2 g_Law_Hop_distance rfl rfl rfl (by decide +kernel) ⟨Nat.le_of_ble_eq_true rfl, Nat.le_of_ble_eq_true rfl⟩) hP hK hD (hd1 _ hD) hS hF hZ (va_recv hK hP (ci := 0) (q := (R_Hop, F_Hop, 6)) rfl hr0) rfl hl.1 rfl (Nat.le_of_ble_eq_true rfl) ⟨Nat.le_of_ble_eq_true rfl, Nat.le_of_ble_eq_true rfl⟩ d_Law_distance_5 (fun E ce q9 H locs h hP hD hS h4 h5 h6 hfr => ?_) (fun v9 H1 locs1 h _ _ _ _ => nomatch h)
  cases h
  have hPL1 := P_cons ((hPL 0 _ rfl).kept (hfr o hol hno)) hP
  refine vx_catch (own := R_Law) (name := "java/lang/IndexOutOfBoundsException") hown [] ⟨0, 10, 13, 13⟩ [⟨0, 10, 17, 21⟩] htab (fun z hz => by cases hz) (by decide) (by decide) (hwA (.classLink R_Law 13 "java/lang/IndexOutOfBoundsException") m_103) (wF_sm (w := .castable "java/lang/IndexOutOfBoundsException" "java/lang/IndexOutOfBoundsException") cst_io rfl (hF.1 _ cst_io)) h4 h5 h6 ?_
  refine lv_astore (lv' := [(4, .ref q9), (0, .ref h0), (1, .int p0), (2, .int p1), (3, .ref o)]) hx hb d_Law_distance_13 hl (by decide) rfl (fun ls hl => ?_)
  refine lv_iconst (v := 1) hx hb d_Law_distance_15 (by decide) ?_
  refine W.widen (k := 2) (n := 12) (Nat.le_of_ble_eq_true rfl) (Nat.le_of_ble_eq_true rfl) ?_
  exact W.iret (v := 1) hx hb hr (fun t ht hW => ⟨rfl, by rw [ht]; exact hPL1, hS.F ht⟩) hS.2.2 d_Law_distance_16
set_option maxHeartbeats 4000000 in
set_option maxRecDepth 100000 in
/-- the law's distance -/
theorem c_Law_distance_ns (l : Launch) (D : va_G) (ws w1 : va_W) (tys : List (ClassId × FieldType)) (sa : Nat → Nat) (h0 o co : Nat) (fs : List Value) (f : Nat → Int64) (p0 p1 : Int32)  (hr0 : ws[0]? = some (h0, .inr (0, fs))) (hsub : ∀ x, hA w1 x → hA ws x) (hd1 : ∀ A : Nat → Prop, va_D A ws → va_D A w1) (hM : vx_Met l y_Hop_distance w_Hop_distance (rmD 7 2 12) (va_Pc [.ref h0, .int p0, .int p1] (hb_X D hCl ws tys sa)) (hX_Q (.inr "java/util/NoSuchElementException") D hCl w1 (hA ws)) (hX_X (.inr "java/util/NoSuchElementException") D hCl w1 (hA ws)) 2 12 (hA ws)) : Met l y_Law_distance w_Law_distance (rmD 8 2 12) (va_Pc [.ref h0, .int p0, .int p1, .ref o] (fun U => hb_X D hCl (oc o co f :: ws) ((co, .long) :: tys) sa U ∧ xN U)) (hq_W (some (.int 2)) D hCl (oc o co (f) :: w1) (hA (oc o co f :: ws))) 2 12 (hA (oc o co f :: ws)) := by
  refine va_MetW (cc := b_Law_distance) (maxL := 5) (ret := some .int) (by decide) rfl ?_
  intro p e s m args below meth c0 s₁ B0 hml hv
  obtain ⟨rfl, ⟨hPL, hKL, hD0, hF, hZ⟩, hN⟩ := hv
  have hx := B0.exec
  have hb := B0.bytes
  have hr := B0.returns
  have hts := atoms_spec (ws := w_Law_distance) B0.pre
  have hown : s.vm.findClass R_Law = some m.cls := findClass_of_methodNamed B0.named
  have hlocks := B0.notSynchronized
  have hwA : ∀ w ∈ wsA, w.before ([.ref h0, .int p0, .int p1, .ref o] : List Value).toArray s = true := fun w h => hts w (List.mem_cons_of_mem _ h)
  have X : CallFix p m c0 b_Law_distance 5 s ([.ref h0, .int p0, .int p1, .ref o] : List Value).toArray wsA R_Law := ⟨hx, hb, hml, hown, hwA⟩
  have hDL := hA_D hD0
  have hS : va_S (hA (oc o co f :: ws)) s.heap s.heap [] := va_S.rf
  have hl := lv_entry ([.ref h0, .int p0, .int p1, .ref o]) (n := 5) (Nat.le_of_ble_eq_true rfl)
  rw [lg_entry_eq]
  generalize (lg_sl ([.ref h0, .int p0, .int p1, .ref o]) ++ List.replicate (5 - (lg_sl ([.ref h0, .int p0, .int p1, .ref o])).length) Slot.unset).toArray = ls at hl ⊢
  have hl : lv_has ls 5 [(0, .ref h0), (1, .int p0), (2, .int p1), (3, .ref o)] := hl
  have htab := vx_table (x := y_Law_distance) B0 (hts _ List.mem_cons_self)
  have hP := P_tl hPL
  have hK := K_tl hKL
  have hD := D_tl hDL
  have hno := D_hd hDL
  have hol : o < s.heap.size := (hPL 0 _ rfl).lt
  refine lv_aload_n hx hb d_Law_distance_0 rfl (lv_at hl 3 rfl) ?_
  refine lv_iconst (v := 0) hx hb d_Law_distance_1 (by decide) ?_
  refine lv_aload_n hx hb d_Law_distance_2 rfl (lv_at hl 0 rfl) ?_
  refine lv_iload_n hx hb d_Law_distance_3 rfl (lv_at hl 1 rfl) ?_
  refine lv_iload_n hx hb d_Law_distance_4 rfl (lv_at hl 2 rfl) ?_
  refine hX_VF (As := [.int p0, .int p1]) (C := R_Hop) X hM (cwV 2 X.2.2.2.2 g_Law_Hop_distance rfl rfl rfl (by decide +kernel) ⟨Nat.le_of_ble_eq_true rfl, Nat.le_of_ble_eq_true rfl⟩) hP hK hD (hd1 _ hD) hS hF hZ (va_recv hK hP (ci := 0) (q := (R_Hop, F_Hop, 6)) rfl hr0) rfl hl.1 rfl (Nat.le_of_ble_eq_true rfl) ⟨Nat.le_of_ble_eq_true rfl, Nat.le_of_ble_eq_true rfl⟩ d_Law_distance_5 (fun E ce q9 H locs h hP hD hS h4 h5 h6 hfr => ?_) (fun v9 H1 locs1 h _ _ _ _ => nomatch h)
  cases h
  have hPL1 := P_cons ((hPL 0 _ rfl).kept (hfr o hol hno)) hP
  refine vx_catch (own := R_Law) (name := "java/util/NoSuchElementException") hown [⟨0, 10, 13, 13⟩] ⟨0, 10, 17, 21⟩ [] htab (fun z hz => by simp only [List.mem_cons, List.not_mem_nil, or_false] at hz; subst hz; exact Or.inr ⟨by decide, "java/lang/IndexOutOfBoundsException", hwA (.classLink R_Law 13 "java/lang/IndexOutOfBoundsException") m_103, hN ("java/util/NoSuchElementException", "java/lang/IndexOutOfBoundsException") (by decide +kernel)⟩) (by decide) (by decide) (hwA (.classLink R_Law 21 "java/util/NoSuchElementException") m_283) (wF_sm (w := .castable "java/util/NoSuchElementException" "java/util/NoSuchElementException") cst_ns rfl (hF.1 _ cst_ns)) h4 h5 h6 ?_
  refine lv_astore (lv' := [(4, .ref q9), (0, .ref h0), (1, .int p0), (2, .int p1), (3, .ref o)]) hx hb d_Law_distance_17 hl (by decide) rfl (fun ls hl => ?_)
  refine lv_iconst (v := 2) hx hb d_Law_distance_19 (by decide) ?_
  refine W.widen (k := 2) (n := 12) (Nat.le_of_ble_eq_true rfl) (Nat.le_of_ble_eq_true rfl) ?_
  exact W.iret (v := 2) hx hb hr (fun t ht hW => ⟨rfl, by rw [ht]; exact hPL1, hS.F ht⟩) hS.2.2 d_Law_distance_20
set_option maxHeartbeats 4000000 in
set_option maxRecDepth 100000 in
/-- the law's bits -/
theorem c_Law_bits_ok (l : Launch) (D : va_G) (ws w1 : va_W) (tys : List (ClassId × FieldType)) (sa : Nat → Nat) (h0 o co : Nat) (fs : List Value) (f : Nat → Int64) (p0 p1 : Int32) (v : Int32) (hr0 : ws[0]? = some (h0, .inr (0, fs))) (hsub : ∀ x, hA w1 x → hA ws x) (hd1 : ∀ A : Nat → Prop, va_D A ws → va_D A w1) (hM : vx_Met l y_Hop_bits w_Hop_bits (rmD 7 2 12) (va_Pc [.ref h0, .int p0, .int p1] (hb_X D hCl ws tys sa)) (hX_Q (.inl (some (.int v))) D hCl w1 (hA ws)) (hX_X (.inl (some (.int v))) D hCl w1 (hA ws)) 2 12 (hA ws)) : Met l y_Law_bits w_Law_bits (rmD 8 2 12) (va_Pc [.ref h0, .int p0, .int p1, .ref o] (fun U => hb_X D hCl (oc o co f :: ws) ((co, .long) :: tys) sa U ∧ xN U)) (hq_W (some (.int 0)) D hCl (oc o co (vp_updL f 0 (Int32.toInt64 v)) :: w1) (hA (oc o co f :: ws))) 2 12 (hA (oc o co f :: ws)) := by
  refine va_MetW (cc := b_Law_bits) (maxL := 5) (ret := some .int) (by decide) rfl ?_
  intro p e s m args below meth c0 s₁ B0 hml hv
  obtain ⟨rfl, ⟨hPL, hKL, hD0, hF, hZ⟩, hN⟩ := hv
  have hx := B0.exec
  have hb := B0.bytes
  have hr := B0.returns
  have hts := atoms_spec (ws := w_Law_bits) B0.pre
  have hown : s.vm.findClass R_Law = some m.cls := findClass_of_methodNamed B0.named
  have hlocks := B0.notSynchronized
  have hwA : ∀ w ∈ wsA, w.before ([.ref h0, .int p0, .int p1, .ref o] : List Value).toArray s = true := fun w h => hts w (List.mem_cons_of_mem _ h)
  have X : CallFix p m c0 b_Law_bits 5 s ([.ref h0, .int p0, .int p1, .ref o] : List Value).toArray wsA R_Law := ⟨hx, hb, hml, hown, hwA⟩
  have hDL := hA_D hD0
  have hS : va_S (hA (oc o co f :: ws)) s.heap s.heap [] := va_S.rf
  have hl := lv_entry ([.ref h0, .int p0, .int p1, .ref o]) (n := 5) (Nat.le_of_ble_eq_true rfl)
  rw [lg_entry_eq]
  generalize (lg_sl ([.ref h0, .int p0, .int p1, .ref o]) ++ List.replicate (5 - (lg_sl ([.ref h0, .int p0, .int p1, .ref o])).length) Slot.unset).toArray = ls at hl ⊢
  have hl : lv_has ls 5 [(0, .ref h0), (1, .int p0), (2, .int p1), (3, .ref o)] := hl
  have htab := vx_table (x := y_Law_bits) B0 (hts _ List.mem_cons_self)
  have hP := P_tl hPL
  have hK := K_tl hKL
  have hD := D_tl hDL
  have hno := D_hd hDL
  have hol : o < s.heap.size := (hPL 0 _ rfl).lt
  refine lv_aload_n hx hb d_Law_bits_0 rfl (lv_at hl 3 rfl) ?_
  refine lv_iconst (v := 0) hx hb d_Law_bits_1 (by decide) ?_
  refine lv_aload_n hx hb d_Law_bits_2 rfl (lv_at hl 0 rfl) ?_
  refine lv_iload_n hx hb d_Law_bits_3 rfl (lv_at hl 1 rfl) ?_
  refine lv_iload_n hx hb d_Law_bits_4 rfl (lv_at hl 2 rfl) ?_
  refine hX_VF (As := [.int p0, .int p1]) (C := R_Hop) X hM (cwV 2 X.2.2.2.2 g_Law_Hop_bits rfl rfl rfl (by decide +kernel) ⟨Nat.le_of_ble_eq_true rfl, Nat.le_of_ble_eq_true rfl⟩) hP hK hD (hd1 _ hD) hS hF hZ (va_recv hK hP (ci := 0) (q := (R_Hop, F_Hop, 6)) rfl hr0) rfl hl.1 rfl (Nat.le_of_ble_eq_true rfl) ⟨Nat.le_of_ble_eq_true rfl, Nat.le_of_ble_eq_true rfl⟩ d_Law_bits_5 (fun E ce q9 H1 locs1 h _ _ _ _ _ _ _ => nomatch h) (fun v9 H locs h hP hD hS hfr => ?_)
  cases h
  have hPL1 := P_cons ((hPL 0 _ rfl).kept (hfr o hol hno)) hP
  have hDL1 := D_cons (x := oc o co f) (hDL.2 0 _ rfl) hD (fun z => hno (hsub o z))
  refine lv_i2l hx hb d_Law_bits_8 rfl ?_
  refine va_last hx hb hKL hPL1 hDL1 hS 0 0 rfl rfl (vp_in_nI (n := 0) (by decide) (by decide)) d_Law_bits_9 (fun H locs hP hD hS => ?_)
  refine lv_goto (tgt := 21) hx hb d_Law_bits_10 (by decide) ?_
  refine lv_iconst (v := 0) hx hb d_Law_bits_21 (by decide) ?_
  refine W.widen (k := 2) (n := 12) (Nat.le_of_ble_eq_true rfl) (Nat.le_of_ble_eq_true rfl) ?_
  exact W.iret (v := 0) hx hb hr (fun t ht hW => ⟨rfl, by rw [ht]; exact hP, hS.F ht⟩) hS.2.2 d_Law_bits_22
set_option maxHeartbeats 4000000 in
set_option maxRecDepth 100000 in
/-- the law's bits -/
theorem c_Law_bits_io (l : Launch) (D : va_G) (ws w1 : va_W) (tys : List (ClassId × FieldType)) (sa : Nat → Nat) (h0 o co : Nat) (fs : List Value) (f : Nat → Int64) (p0 p1 : Int32)  (hr0 : ws[0]? = some (h0, .inr (0, fs))) (hsub : ∀ x, hA w1 x → hA ws x) (hd1 : ∀ A : Nat → Prop, va_D A ws → va_D A w1) (hM : vx_Met l y_Hop_bits w_Hop_bits (rmD 7 2 12) (va_Pc [.ref h0, .int p0, .int p1] (hb_X D hCl ws tys sa)) (hX_Q (.inr "java/lang/IndexOutOfBoundsException") D hCl w1 (hA ws)) (hX_X (.inr "java/lang/IndexOutOfBoundsException") D hCl w1 (hA ws)) 2 12 (hA ws)) : Met l y_Law_bits w_Law_bits (rmD 8 2 12) (va_Pc [.ref h0, .int p0, .int p1, .ref o] (fun U => hb_X D hCl (oc o co f :: ws) ((co, .long) :: tys) sa U ∧ xN U)) (hq_W (some (.int 1)) D hCl (oc o co (f) :: w1) (hA (oc o co f :: ws))) 2 12 (hA (oc o co f :: ws)) := by
  refine va_MetW (cc := b_Law_bits) (maxL := 5) (ret := some .int) (by decide) rfl ?_
  intro p e s m args below meth c0 s₁ B0 hml hv
  obtain ⟨rfl, ⟨hPL, hKL, hD0, hF, hZ⟩, hN⟩ := hv
  have hx := B0.exec
  have hb := B0.bytes
  have hr := B0.returns
  have hts := atoms_spec (ws := w_Law_bits) B0.pre
  have hown : s.vm.findClass R_Law = some m.cls := findClass_of_methodNamed B0.named
  have hlocks := B0.notSynchronized
  have hwA : ∀ w ∈ wsA, w.before ([.ref h0, .int p0, .int p1, .ref o] : List Value).toArray s = true := fun w h => hts w (List.mem_cons_of_mem _ h)
  have X : CallFix p m c0 b_Law_bits 5 s ([.ref h0, .int p0, .int p1, .ref o] : List Value).toArray wsA R_Law := ⟨hx, hb, hml, hown, hwA⟩
  have hDL := hA_D hD0
  have hS : va_S (hA (oc o co f :: ws)) s.heap s.heap [] := va_S.rf
  have hl := lv_entry ([.ref h0, .int p0, .int p1, .ref o]) (n := 5) (Nat.le_of_ble_eq_true rfl)
  rw [lg_entry_eq]
  generalize (lg_sl ([.ref h0, .int p0, .int p1, .ref o]) ++ List.replicate (5 - (lg_sl ([.ref h0, .int p0, .int p1, .ref o])).length) Slot.unset).toArray = ls at hl ⊢
  have hl : lv_has ls 5 [(0, .ref h0), (1, .int p0), (2, .int p1), (3, .ref o)] := hl
  have htab := vx_table (x := y_Law_bits) B0 (hts _ List.mem_cons_self)
  have hP := P_tl hPL
  have hK := K_tl hKL
  have hD := D_tl hDL
  have hno := D_hd hDL
  have hol : o < s.heap.size := (hPL 0 _ rfl).lt
  refine lv_aload_n hx hb d_Law_bits_0 rfl (lv_at hl 3 rfl) ?_
  refine lv_iconst (v := 0) hx hb d_Law_bits_1 (by decide) ?_
  refine lv_aload_n hx hb d_Law_bits_2 rfl (lv_at hl 0 rfl) ?_
  refine lv_iload_n hx hb d_Law_bits_3 rfl (lv_at hl 1 rfl) ?_
  refine lv_iload_n hx hb d_Law_bits_4 rfl (lv_at hl 2 rfl) ?_
  refine hX_VF (As := [.int p0, .int p1]) (C := R_Hop) X hM (cwV 2 X.2.2.2.2 g_Law_Hop_bits rfl rfl rfl (by decide +kernel) ⟨Nat.le_of_ble_eq_true rfl, Nat.le_of_ble_eq_true rfl⟩) hP hK hD (hd1 _ hD) hS hF hZ (va_recv hK hP (ci := 0) (q := (R_Hop, F_Hop, 6)) rfl hr0) rfl hl.1 rfl (Nat.le_of_ble_eq_true rfl) ⟨Nat.le_of_ble_eq_true rfl, Nat.le_of_ble_eq_true rfl⟩ d_Law_bits_5 (fun E ce q9 H locs h hP hD hS h4 h5 h6 hfr => ?_) (fun v9 H1 locs1 h _ _ _ _ => nomatch h)
  cases h
  have hPL1 := P_cons ((hPL 0 _ rfl).kept (hfr o hol hno)) hP
  refine vx_catch (own := R_Law) (name := "java/lang/IndexOutOfBoundsException") hown [] ⟨0, 10, 13, 13⟩ [⟨0, 10, 17, 40⟩] htab (fun z hz => by cases hz) (by decide) (by decide) (hwA (.classLink R_Law 13 "java/lang/IndexOutOfBoundsException") m_103) (wF_sm (w := .castable "java/lang/IndexOutOfBoundsException" "java/lang/IndexOutOfBoundsException") cst_io rfl (hF.1 _ cst_io)) h4 h5 h6 ?_
  refine lv_astore (lv' := [(4, .ref q9), (0, .ref h0), (1, .int p0), (2, .int p1), (3, .ref o)]) hx hb d_Law_bits_13 hl (by decide) rfl (fun ls hl => ?_)
  refine lv_iconst (v := 1) hx hb d_Law_bits_15 (by decide) ?_
  refine W.widen (k := 2) (n := 12) (Nat.le_of_ble_eq_true rfl) (Nat.le_of_ble_eq_true rfl) ?_
  exact W.iret (v := 1) hx hb hr (fun t ht hW => ⟨rfl, by rw [ht]; exact hPL1, hS.F ht⟩) hS.2.2 d_Law_bits_16
set_option maxHeartbeats 4000000 in
set_option maxRecDepth 100000 in
/-- the law's bits -/
theorem c_Law_bits_ia (l : Launch) (D : va_G) (ws w1 : va_W) (tys : List (ClassId × FieldType)) (sa : Nat → Nat) (h0 o co : Nat) (fs : List Value) (f : Nat → Int64) (p0 p1 : Int32)  (hr0 : ws[0]? = some (h0, .inr (0, fs))) (hsub : ∀ x, hA w1 x → hA ws x) (hd1 : ∀ A : Nat → Prop, va_D A ws → va_D A w1) (hM : vx_Met l y_Hop_bits w_Hop_bits (rmD 7 2 12) (va_Pc [.ref h0, .int p0, .int p1] (hb_X D hCl ws tys sa)) (hX_Q (.inr "java/lang/IllegalArgumentException") D hCl w1 (hA ws)) (hX_X (.inr "java/lang/IllegalArgumentException") D hCl w1 (hA ws)) 2 12 (hA ws)) : Met l y_Law_bits w_Law_bits (rmD 8 2 12) (va_Pc [.ref h0, .int p0, .int p1, .ref o] (fun U => hb_X D hCl (oc o co f :: ws) ((co, .long) :: tys) sa U ∧ xN U)) (hq_W (some (.int 2)) D hCl (oc o co (f) :: w1) (hA (oc o co f :: ws))) 2 12 (hA (oc o co f :: ws)) := by
  refine va_MetW (cc := b_Law_bits) (maxL := 5) (ret := some .int) (by decide) rfl ?_
  intro p e s m args below meth c0 s₁ B0 hml hv
  obtain ⟨rfl, ⟨hPL, hKL, hD0, hF, hZ⟩, hN⟩ := hv
  have hx := B0.exec
  have hb := B0.bytes
  have hr := B0.returns
  have hts := atoms_spec (ws := w_Law_bits) B0.pre
  have hown : s.vm.findClass R_Law = some m.cls := findClass_of_methodNamed B0.named
  have hlocks := B0.notSynchronized
  have hwA : ∀ w ∈ wsA, w.before ([.ref h0, .int p0, .int p1, .ref o] : List Value).toArray s = true := fun w h => hts w (List.mem_cons_of_mem _ h)
  have X : CallFix p m c0 b_Law_bits 5 s ([.ref h0, .int p0, .int p1, .ref o] : List Value).toArray wsA R_Law := ⟨hx, hb, hml, hown, hwA⟩
  have hDL := hA_D hD0
  have hS : va_S (hA (oc o co f :: ws)) s.heap s.heap [] := va_S.rf
  have hl := lv_entry ([.ref h0, .int p0, .int p1, .ref o]) (n := 5) (Nat.le_of_ble_eq_true rfl)
  rw [lg_entry_eq]
  generalize (lg_sl ([.ref h0, .int p0, .int p1, .ref o]) ++ List.replicate (5 - (lg_sl ([.ref h0, .int p0, .int p1, .ref o])).length) Slot.unset).toArray = ls at hl ⊢
  have hl : lv_has ls 5 [(0, .ref h0), (1, .int p0), (2, .int p1), (3, .ref o)] := hl
  have htab := vx_table (x := y_Law_bits) B0 (hts _ List.mem_cons_self)
  have hP := P_tl hPL
  have hK := K_tl hKL
  have hD := D_tl hDL
  have hno := D_hd hDL
  have hol : o < s.heap.size := (hPL 0 _ rfl).lt
  refine lv_aload_n hx hb d_Law_bits_0 rfl (lv_at hl 3 rfl) ?_
  refine lv_iconst (v := 0) hx hb d_Law_bits_1 (by decide) ?_
  refine lv_aload_n hx hb d_Law_bits_2 rfl (lv_at hl 0 rfl) ?_
  refine lv_iload_n hx hb d_Law_bits_3 rfl (lv_at hl 1 rfl) ?_
  refine lv_iload_n hx hb d_Law_bits_4 rfl (lv_at hl 2 rfl) ?_
  refine hX_VF (As := [.int p0, .int p1]) (C := R_Hop) X hM (cwV 2 X.2.2.2.2 g_Law_Hop_bits rfl rfl rfl (by decide +kernel) ⟨Nat.le_of_ble_eq_true rfl, Nat.le_of_ble_eq_true rfl⟩) hP hK hD (hd1 _ hD) hS hF hZ (va_recv hK hP (ci := 0) (q := (R_Hop, F_Hop, 6)) rfl hr0) rfl hl.1 rfl (Nat.le_of_ble_eq_true rfl) ⟨Nat.le_of_ble_eq_true rfl, Nat.le_of_ble_eq_true rfl⟩ d_Law_bits_5 (fun E ce q9 H locs h hP hD hS h4 h5 h6 hfr => ?_) (fun v9 H1 locs1 h _ _ _ _ => nomatch h)
  cases h
  have hPL1 := P_cons ((hPL 0 _ rfl).kept (hfr o hol hno)) hP
  refine vx_catch (own := R_Law) (name := "java/lang/IllegalArgumentException") hown [⟨0, 10, 13, 13⟩] ⟨0, 10, 17, 40⟩ [] htab (fun z hz => by simp only [List.mem_cons, List.not_mem_nil, or_false] at hz; subst hz; exact Or.inr ⟨by decide, "java/lang/IndexOutOfBoundsException", hwA (.classLink R_Law 13 "java/lang/IndexOutOfBoundsException") m_103, hN ("java/lang/IllegalArgumentException", "java/lang/IndexOutOfBoundsException") (by decide +kernel)⟩) (by decide) (by decide) (hwA (.classLink R_Law 40 "java/lang/IllegalArgumentException") m_343) (wF_sm (w := .castable "java/lang/IllegalArgumentException" "java/lang/IllegalArgumentException") cst_ia rfl (hF.1 _ cst_ia)) h4 h5 h6 ?_
  refine lv_astore (lv' := [(4, .ref q9), (0, .ref h0), (1, .int p0), (2, .int p1), (3, .ref o)]) hx hb d_Law_bits_17 hl (by decide) rfl (fun ls hl => ?_)
  refine lv_iconst (v := 2) hx hb d_Law_bits_19 (by decide) ?_
  refine W.widen (k := 2) (n := 12) (Nat.le_of_ble_eq_true rfl) (Nat.le_of_ble_eq_true rfl) ?_
  exact W.iret (v := 2) hx hb hr (fun t ht hW => ⟨rfl, by rw [ht]; exact hPL1, hS.F ht⟩) hS.2.2 d_Law_bits_20
set_option maxHeartbeats 4000000 in
set_option maxRecDepth 100000 in
/-- the law's next -/
theorem c_Law_next_ok (l : Launch) (D : va_G) (ws w1 : va_W) (tys : List (ClassId × FieldType)) (sa : Nat → Nat) (h0 o co : Nat) (fs : List Value) (f : Nat → Int64) (p0 p1 : Int32) (v : Int32) (hr0 : ws[0]? = some (h0, .inr (0, fs))) (hsub : ∀ x, hA w1 x → hA ws x) (hd1 : ∀ A : Nat → Prop, va_D A ws → va_D A w1) (hM : vx_Met l y_Hop_next w_Hop_next (rmD 7 2 12) (va_Pc [.ref h0, .int p0, .int p1] (hb_X D hCl ws tys sa)) (hX_Q (.inl (some (.int v))) D hCl w1 (hA ws)) (hX_X (.inl (some (.int v))) D hCl w1 (hA ws)) 2 12 (hA ws)) : Met l y_Law_next w_Law_next (rmD 8 2 12) (va_Pc [.ref h0, .int p0, .int p1, .ref o] (fun U => hb_X D hCl (oc o co f :: ws) ((co, .long) :: tys) sa U ∧ xN U)) (hq_W (some (.int 0)) D hCl (oc o co (vp_updL f 0 (Int32.toInt64 v)) :: w1) (hA (oc o co f :: ws))) 2 12 (hA (oc o co f :: ws)) := by
  refine va_MetW (cc := b_Law_next) (maxL := 5) (ret := some .int) (by decide) rfl ?_
  intro p e s m args below meth c0 s₁ B0 hml hv
  obtain ⟨rfl, ⟨hPL, hKL, hD0, hF, hZ⟩, hN⟩ := hv
  have hx := B0.exec
  have hb := B0.bytes
  have hr := B0.returns
  have hts := atoms_spec (ws := w_Law_next) B0.pre
  have hown : s.vm.findClass R_Law = some m.cls := findClass_of_methodNamed B0.named
  have hlocks := B0.notSynchronized
  have hwA : ∀ w ∈ wsA, w.before ([.ref h0, .int p0, .int p1, .ref o] : List Value).toArray s = true := fun w h => hts w (List.mem_cons_of_mem _ h)
  have X : CallFix p m c0 b_Law_next 5 s ([.ref h0, .int p0, .int p1, .ref o] : List Value).toArray wsA R_Law := ⟨hx, hb, hml, hown, hwA⟩
  have hDL := hA_D hD0
  have hS : va_S (hA (oc o co f :: ws)) s.heap s.heap [] := va_S.rf
  have hl := lv_entry ([.ref h0, .int p0, .int p1, .ref o]) (n := 5) (Nat.le_of_ble_eq_true rfl)
  rw [lg_entry_eq]
  generalize (lg_sl ([.ref h0, .int p0, .int p1, .ref o]) ++ List.replicate (5 - (lg_sl ([.ref h0, .int p0, .int p1, .ref o])).length) Slot.unset).toArray = ls at hl ⊢
  have hl : lv_has ls 5 [(0, .ref h0), (1, .int p0), (2, .int p1), (3, .ref o)] := hl
  have htab := vx_table (x := y_Law_next) B0 (hts _ List.mem_cons_self)
  have hP := P_tl hPL
  have hK := K_tl hKL
  have hD := D_tl hDL
  have hno := D_hd hDL
  have hol : o < s.heap.size := (hPL 0 _ rfl).lt
  refine lv_aload_n hx hb d_Law_next_0 rfl (lv_at hl 3 rfl) ?_
  refine lv_iconst (v := 0) hx hb d_Law_next_1 (by decide) ?_
  refine lv_aload_n hx hb d_Law_next_2 rfl (lv_at hl 0 rfl) ?_
  refine lv_iload_n hx hb d_Law_next_3 rfl (lv_at hl 1 rfl) ?_
  refine lv_iload_n hx hb d_Law_next_4 rfl (lv_at hl 2 rfl) ?_
  refine hX_VF (As := [.int p0, .int p1]) (C := R_Hop) X hM (cwV 2 X.2.2.2.2 g_Law_Hop_next rfl rfl rfl (by decide +kernel) ⟨Nat.le_of_ble_eq_true rfl, Nat.le_of_ble_eq_true rfl⟩) hP hK hD (hd1 _ hD) hS hF hZ (va_recv hK hP (ci := 0) (q := (R_Hop, F_Hop, 6)) rfl hr0) rfl hl.1 rfl (Nat.le_of_ble_eq_true rfl) ⟨Nat.le_of_ble_eq_true rfl, Nat.le_of_ble_eq_true rfl⟩ d_Law_next_5 (fun E ce q9 H1 locs1 h _ _ _ _ _ _ _ => nomatch h) (fun v9 H locs h hP hD hS hfr => ?_)
  cases h
  have hPL1 := P_cons ((hPL 0 _ rfl).kept (hfr o hol hno)) hP
  have hDL1 := D_cons (x := oc o co f) (hDL.2 0 _ rfl) hD (fun z => hno (hsub o z))
  refine lv_i2l hx hb d_Law_next_8 rfl ?_
  refine va_last hx hb hKL hPL1 hDL1 hS 0 0 rfl rfl (vp_in_nI (n := 0) (by decide) (by decide)) d_Law_next_9 (fun H locs hP hD hS => ?_)
  refine lv_goto (tgt := 21) hx hb d_Law_next_10 (by decide) ?_
  refine lv_iconst (v := 0) hx hb d_Law_next_21 (by decide) ?_
  refine W.widen (k := 2) (n := 12) (Nat.le_of_ble_eq_true rfl) (Nat.le_of_ble_eq_true rfl) ?_
  exact W.iret (v := 0) hx hb hr (fun t ht hW => ⟨rfl, by rw [ht]; exact hP, hS.F ht⟩) hS.2.2 d_Law_next_22
set_option maxHeartbeats 4000000 in
set_option maxRecDepth 100000 in
/-- the law's next -/
theorem c_Law_next_io (l : Launch) (D : va_G) (ws w1 : va_W) (tys : List (ClassId × FieldType)) (sa : Nat → Nat) (h0 o co : Nat) (fs : List Value) (f : Nat → Int64) (p0 p1 : Int32)  (hr0 : ws[0]? = some (h0, .inr (0, fs))) (hsub : ∀ x, hA w1 x → hA ws x) (hd1 : ∀ A : Nat → Prop, va_D A ws → va_D A w1) (hM : vx_Met l y_Hop_next w_Hop_next (rmD 7 2 12) (va_Pc [.ref h0, .int p0, .int p1] (hb_X D hCl ws tys sa)) (hX_Q (.inr "java/lang/IndexOutOfBoundsException") D hCl w1 (hA ws)) (hX_X (.inr "java/lang/IndexOutOfBoundsException") D hCl w1 (hA ws)) 2 12 (hA ws)) : Met l y_Law_next w_Law_next (rmD 8 2 12) (va_Pc [.ref h0, .int p0, .int p1, .ref o] (fun U => hb_X D hCl (oc o co f :: ws) ((co, .long) :: tys) sa U ∧ xN U)) (hq_W (some (.int 1)) D hCl (oc o co (f) :: w1) (hA (oc o co f :: ws))) 2 12 (hA (oc o co f :: ws)) := by
  refine va_MetW (cc := b_Law_next) (maxL := 5) (ret := some .int) (by decide) rfl ?_
  intro p e s m args below meth c0 s₁ B0 hml hv
  obtain ⟨rfl, ⟨hPL, hKL, hD0, hF, hZ⟩, hN⟩ := hv
  have hx := B0.exec
  have hb := B0.bytes
  have hr := B0.returns
  have hts := atoms_spec (ws := w_Law_next) B0.pre
  have hown : s.vm.findClass R_Law = some m.cls := findClass_of_methodNamed B0.named
  have hlocks := B0.notSynchronized
  have hwA : ∀ w ∈ wsA, w.before ([.ref h0, .int p0, .int p1, .ref o] : List Value).toArray s = true := fun w h => hts w (List.mem_cons_of_mem _ h)
  have X : CallFix p m c0 b_Law_next 5 s ([.ref h0, .int p0, .int p1, .ref o] : List Value).toArray wsA R_Law := ⟨hx, hb, hml, hown, hwA⟩
  have hDL := hA_D hD0
  have hS : va_S (hA (oc o co f :: ws)) s.heap s.heap [] := va_S.rf
  have hl := lv_entry ([.ref h0, .int p0, .int p1, .ref o]) (n := 5) (Nat.le_of_ble_eq_true rfl)
  rw [lg_entry_eq]
  generalize (lg_sl ([.ref h0, .int p0, .int p1, .ref o]) ++ List.replicate (5 - (lg_sl ([.ref h0, .int p0, .int p1, .ref o])).length) Slot.unset).toArray = ls at hl ⊢
  have hl : lv_has ls 5 [(0, .ref h0), (1, .int p0), (2, .int p1), (3, .ref o)] := hl
  have htab := vx_table (x := y_Law_next) B0 (hts _ List.mem_cons_self)
  have hP := P_tl hPL
  have hK := K_tl hKL
  have hD := D_tl hDL
  have hno := D_hd hDL
  have hol : o < s.heap.size := (hPL 0 _ rfl).lt
  refine lv_aload_n hx hb d_Law_next_0 rfl (lv_at hl 3 rfl) ?_
  refine lv_iconst (v := 0) hx hb d_Law_next_1 (by decide) ?_
  refine lv_aload_n hx hb d_Law_next_2 rfl (lv_at hl 0 rfl) ?_
  refine lv_iload_n hx hb d_Law_next_3 rfl (lv_at hl 1 rfl) ?_
  refine lv_iload_n hx hb d_Law_next_4 rfl (lv_at hl 2 rfl) ?_
  refine hX_VF (As := [.int p0, .int p1]) (C := R_Hop) X hM (cwV 2 X.2.2.2.2 g_Law_Hop_next rfl rfl rfl (by decide +kernel) ⟨Nat.le_of_ble_eq_true rfl, Nat.le_of_ble_eq_true rfl⟩) hP hK hD (hd1 _ hD) hS hF hZ (va_recv hK hP (ci := 0) (q := (R_Hop, F_Hop, 6)) rfl hr0) rfl hl.1 rfl (Nat.le_of_ble_eq_true rfl) ⟨Nat.le_of_ble_eq_true rfl, Nat.le_of_ble_eq_true rfl⟩ d_Law_next_5 (fun E ce q9 H locs h hP hD hS h4 h5 h6 hfr => ?_) (fun v9 H1 locs1 h _ _ _ _ => nomatch h)
  cases h
  have hPL1 := P_cons ((hPL 0 _ rfl).kept (hfr o hol hno)) hP
  refine vx_catch (own := R_Law) (name := "java/lang/IndexOutOfBoundsException") hown [] ⟨0, 10, 13, 13⟩ [⟨0, 10, 17, 40⟩] htab (fun z hz => by cases hz) (by decide) (by decide) (hwA (.classLink R_Law 13 "java/lang/IndexOutOfBoundsException") m_103) (wF_sm (w := .castable "java/lang/IndexOutOfBoundsException" "java/lang/IndexOutOfBoundsException") cst_io rfl (hF.1 _ cst_io)) h4 h5 h6 ?_
  refine lv_astore (lv' := [(4, .ref q9), (0, .ref h0), (1, .int p0), (2, .int p1), (3, .ref o)]) hx hb d_Law_next_13 hl (by decide) rfl (fun ls hl => ?_)
  refine lv_iconst (v := 1) hx hb d_Law_next_15 (by decide) ?_
  refine W.widen (k := 2) (n := 12) (Nat.le_of_ble_eq_true rfl) (Nat.le_of_ble_eq_true rfl) ?_
  exact W.iret (v := 1) hx hb hr (fun t ht hW => ⟨rfl, by rw [ht]; exact hPL1, hS.F ht⟩) hS.2.2 d_Law_next_16
set_option maxHeartbeats 4000000 in
set_option maxRecDepth 100000 in
/-- the law's next -/
theorem c_Law_next_ia (l : Launch) (D : va_G) (ws w1 : va_W) (tys : List (ClassId × FieldType)) (sa : Nat → Nat) (h0 o co : Nat) (fs : List Value) (f : Nat → Int64) (p0 p1 : Int32)  (hr0 : ws[0]? = some (h0, .inr (0, fs))) (hsub : ∀ x, hA w1 x → hA ws x) (hd1 : ∀ A : Nat → Prop, va_D A ws → va_D A w1) (hM : vx_Met l y_Hop_next w_Hop_next (rmD 7 2 12) (va_Pc [.ref h0, .int p0, .int p1] (hb_X D hCl ws tys sa)) (hX_Q (.inr "java/lang/IllegalArgumentException") D hCl w1 (hA ws)) (hX_X (.inr "java/lang/IllegalArgumentException") D hCl w1 (hA ws)) 2 12 (hA ws)) : Met l y_Law_next w_Law_next (rmD 8 2 12) (va_Pc [.ref h0, .int p0, .int p1, .ref o] (fun U => hb_X D hCl (oc o co f :: ws) ((co, .long) :: tys) sa U ∧ xN U)) (hq_W (some (.int 2)) D hCl (oc o co (f) :: w1) (hA (oc o co f :: ws))) 2 12 (hA (oc o co f :: ws)) := by
  refine va_MetW (cc := b_Law_next) (maxL := 5) (ret := some .int) (by decide) rfl ?_
  intro p e s m args below meth c0 s₁ B0 hml hv
  obtain ⟨rfl, ⟨hPL, hKL, hD0, hF, hZ⟩, hN⟩ := hv
  have hx := B0.exec
  have hb := B0.bytes
  have hr := B0.returns
  have hts := atoms_spec (ws := w_Law_next) B0.pre
  have hown : s.vm.findClass R_Law = some m.cls := findClass_of_methodNamed B0.named
  have hlocks := B0.notSynchronized
  have hwA : ∀ w ∈ wsA, w.before ([.ref h0, .int p0, .int p1, .ref o] : List Value).toArray s = true := fun w h => hts w (List.mem_cons_of_mem _ h)
  have X : CallFix p m c0 b_Law_next 5 s ([.ref h0, .int p0, .int p1, .ref o] : List Value).toArray wsA R_Law := ⟨hx, hb, hml, hown, hwA⟩
  have hDL := hA_D hD0
  have hS : va_S (hA (oc o co f :: ws)) s.heap s.heap [] := va_S.rf
  have hl := lv_entry ([.ref h0, .int p0, .int p1, .ref o]) (n := 5) (Nat.le_of_ble_eq_true rfl)
  rw [lg_entry_eq]
  generalize (lg_sl ([.ref h0, .int p0, .int p1, .ref o]) ++ List.replicate (5 - (lg_sl ([.ref h0, .int p0, .int p1, .ref o])).length) Slot.unset).toArray = ls at hl ⊢
  have hl : lv_has ls 5 [(0, .ref h0), (1, .int p0), (2, .int p1), (3, .ref o)] := hl
  have htab := vx_table (x := y_Law_next) B0 (hts _ List.mem_cons_self)
  have hP := P_tl hPL
  have hK := K_tl hKL
  have hD := D_tl hDL
  have hno := D_hd hDL
  have hol : o < s.heap.size := (hPL 0 _ rfl).lt
  refine lv_aload_n hx hb d_Law_next_0 rfl (lv_at hl 3 rfl) ?_
  refine lv_iconst (v := 0) hx hb d_Law_next_1 (by decide) ?_
  refine lv_aload_n hx hb d_Law_next_2 rfl (lv_at hl 0 rfl) ?_
  refine lv_iload_n hx hb d_Law_next_3 rfl (lv_at hl 1 rfl) ?_
  refine lv_iload_n hx hb d_Law_next_4 rfl (lv_at hl 2 rfl) ?_
  refine hX_VF (As := [.int p0, .int p1]) (C := R_Hop) X hM (cwV 2 X.2.2.2.2 g_Law_Hop_next rfl rfl rfl (by decide +kernel) ⟨Nat.le_of_ble_eq_true rfl, Nat.le_of_ble_eq_true rfl⟩) hP hK hD (hd1 _ hD) hS hF hZ (va_recv hK hP (ci := 0) (q := (R_Hop, F_Hop, 6)) rfl hr0) rfl hl.1 rfl (Nat.le_of_ble_eq_true rfl) ⟨Nat.le_of_ble_eq_true rfl, Nat.le_of_ble_eq_true rfl⟩ d_Law_next_5 (fun E ce q9 H locs h hP hD hS h4 h5 h6 hfr => ?_) (fun v9 H1 locs1 h _ _ _ _ => nomatch h)
  cases h
  have hPL1 := P_cons ((hPL 0 _ rfl).kept (hfr o hol hno)) hP
  refine vx_catch (own := R_Law) (name := "java/lang/IllegalArgumentException") hown [⟨0, 10, 13, 13⟩] ⟨0, 10, 17, 40⟩ [] htab (fun z hz => by simp only [List.mem_cons, List.not_mem_nil, or_false] at hz; subst hz; exact Or.inr ⟨by decide, "java/lang/IndexOutOfBoundsException", hwA (.classLink R_Law 13 "java/lang/IndexOutOfBoundsException") m_103, hN ("java/lang/IllegalArgumentException", "java/lang/IndexOutOfBoundsException") (by decide +kernel)⟩) (by decide) (by decide) (hwA (.classLink R_Law 40 "java/lang/IllegalArgumentException") m_343) (wF_sm (w := .castable "java/lang/IllegalArgumentException" "java/lang/IllegalArgumentException") cst_ia rfl (hF.1 _ cst_ia)) h4 h5 h6 ?_
  refine lv_astore (lv' := [(4, .ref q9), (0, .ref h0), (1, .int p0), (2, .int p1), (3, .ref o)]) hx hb d_Law_next_17 hl (by decide) rfl (fun ls hl => ?_)
  refine lv_iconst (v := 2) hx hb d_Law_next_19 (by decide) ?_
  refine W.widen (k := 2) (n := 12) (Nat.le_of_ble_eq_true rfl) (Nat.le_of_ble_eq_true rfl) ?_
  exact W.iret (v := 2) hx hb hr (fun t ht hW => ⟨rfl, by rw [ht]; exact hPL1, hS.F ht⟩) hS.2.2 d_Law_next_20
set_option maxHeartbeats 4000000 in
set_option maxRecDepth 100000 in
/-- the law's key -/
theorem c_Law_key_ok (l : Launch) (D : va_G) (ws w1 : va_W) (tys : List (ClassId × FieldType)) (sa : Nat → Nat) (h0 o co : Nat) (fs : List Value) (f : Nat → Int64) (p0 p1 : Int32) (v : Int32) (hr0 : ws[0]? = some (h0, .inr (0, fs))) (hsub : ∀ x, hA w1 x → hA ws x) (hd1 : ∀ A : Nat → Prop, va_D A ws → va_D A w1) (hM : vx_Met l y_Hop_key w_Hop_key (rmD 7 3 18) (va_Pc [.ref h0, .int p0, .int p1] (hb_X D hCl ws tys sa)) (hX_Q (.inl (some (.int v))) D hCl w1 (hA ws)) (hX_X (.inl (some (.int v))) D hCl w1 (hA ws)) 3 18 (hA ws)) : Met l y_Law_key w_Law_key (rmD 8 3 18) (va_Pc [.ref h0, .int p0, .int p1, .ref o] (fun U => hb_X D hCl (oc o co f :: ws) ((co, .long) :: tys) sa U ∧ xN U)) (hq_W (some (.int 0)) D hCl (oc o co (vp_updL f 0 (Int32.toInt64 v)) :: w1) (hA (oc o co f :: ws))) 3 18 (hA (oc o co f :: ws)) := by
  refine va_MetW (cc := b_Law_key) (maxL := 5) (ret := some .int) (by decide) rfl ?_
  intro p e s m args below meth c0 s₁ B0 hml hv
  obtain ⟨rfl, ⟨hPL, hKL, hD0, hF, hZ⟩, hN⟩ := hv
  have hx := B0.exec
  have hb := B0.bytes
  have hr := B0.returns
  have hts := atoms_spec (ws := w_Law_key) B0.pre
  have hown : s.vm.findClass R_Law = some m.cls := findClass_of_methodNamed B0.named
  have hlocks := B0.notSynchronized
  have hwA : ∀ w ∈ wsA, w.before ([.ref h0, .int p0, .int p1, .ref o] : List Value).toArray s = true := fun w h => hts w (List.mem_cons_of_mem _ h)
  have X : CallFix p m c0 b_Law_key 5 s ([.ref h0, .int p0, .int p1, .ref o] : List Value).toArray wsA R_Law := ⟨hx, hb, hml, hown, hwA⟩
  have hDL := hA_D hD0
  have hS : va_S (hA (oc o co f :: ws)) s.heap s.heap [] := va_S.rf
  have hl := lv_entry ([.ref h0, .int p0, .int p1, .ref o]) (n := 5) (Nat.le_of_ble_eq_true rfl)
  rw [lg_entry_eq]
  generalize (lg_sl ([.ref h0, .int p0, .int p1, .ref o]) ++ List.replicate (5 - (lg_sl ([.ref h0, .int p0, .int p1, .ref o])).length) Slot.unset).toArray = ls at hl ⊢
  have hl : lv_has ls 5 [(0, .ref h0), (1, .int p0), (2, .int p1), (3, .ref o)] := hl
  have htab := vx_table (x := y_Law_key) B0 (hts _ List.mem_cons_self)
  have hP := P_tl hPL
  have hK := K_tl hKL
  have hD := D_tl hDL
  have hno := D_hd hDL
  have hol : o < s.heap.size := (hPL 0 _ rfl).lt
  refine lv_aload_n hx hb d_Law_key_0 rfl (lv_at hl 3 rfl) ?_
  refine lv_iconst (v := 0) hx hb d_Law_key_1 (by decide) ?_
  refine lv_aload_n hx hb d_Law_key_2 rfl (lv_at hl 0 rfl) ?_
  refine lv_iload_n hx hb d_Law_key_3 rfl (lv_at hl 1 rfl) ?_
  refine lv_iload_n hx hb d_Law_key_4 rfl (lv_at hl 2 rfl) ?_
  refine hX_VF (As := [.int p0, .int p1]) (C := R_Hop) X hM (cwV 2 X.2.2.2.2 g_Law_Hop_key rfl rfl rfl (by decide +kernel) ⟨Nat.le_of_ble_eq_true rfl, Nat.le_of_ble_eq_true rfl⟩) hP hK hD (hd1 _ hD) hS hF hZ (va_recv hK hP (ci := 0) (q := (R_Hop, F_Hop, 6)) rfl hr0) rfl hl.1 rfl (Nat.le_of_ble_eq_true rfl) ⟨Nat.le_of_ble_eq_true rfl, Nat.le_of_ble_eq_true rfl⟩ d_Law_key_5 (fun E ce q9 H1 locs1 h _ _ _ _ _ _ _ => nomatch h) (fun v9 H locs h hP hD hS hfr => ?_)
  cases h
  have hPL1 := P_cons ((hPL 0 _ rfl).kept (hfr o hol hno)) hP
  have hDL1 := D_cons (x := oc o co f) (hDL.2 0 _ rfl) hD (fun z => hno (hsub o z))
  refine lv_i2l hx hb d_Law_key_8 rfl ?_
  refine va_last hx hb hKL hPL1 hDL1 hS 0 0 rfl rfl (vp_in_nI (n := 0) (by decide) (by decide)) d_Law_key_9 (fun H locs hP hD hS => ?_)
  refine lv_goto (tgt := 25) hx hb d_Law_key_10 (by decide) ?_
  refine lv_iconst (v := 0) hx hb d_Law_key_25 (by decide) ?_
  refine W.widen (k := 3) (n := 18) (Nat.le_of_ble_eq_true rfl) (Nat.le_of_ble_eq_true rfl) ?_
  exact W.iret (v := 0) hx hb hr (fun t ht hW => ⟨rfl, by rw [ht]; exact hP, hS.F ht⟩) hS.2.2 d_Law_key_26
set_option maxHeartbeats 4000000 in
set_option maxRecDepth 100000 in
/-- the law's key -/
theorem c_Law_key_io (l : Launch) (D : va_G) (ws w1 : va_W) (tys : List (ClassId × FieldType)) (sa : Nat → Nat) (h0 o co : Nat) (fs : List Value) (f : Nat → Int64) (p0 p1 : Int32)  (hr0 : ws[0]? = some (h0, .inr (0, fs))) (hsub : ∀ x, hA w1 x → hA ws x) (hd1 : ∀ A : Nat → Prop, va_D A ws → va_D A w1) (hM : vx_Met l y_Hop_key w_Hop_key (rmD 7 3 18) (va_Pc [.ref h0, .int p0, .int p1] (hb_X D hCl ws tys sa)) (hX_Q (.inr "java/lang/IndexOutOfBoundsException") D hCl w1 (hA ws)) (hX_X (.inr "java/lang/IndexOutOfBoundsException") D hCl w1 (hA ws)) 3 18 (hA ws)) : Met l y_Law_key w_Law_key (rmD 8 3 18) (va_Pc [.ref h0, .int p0, .int p1, .ref o] (fun U => hb_X D hCl (oc o co f :: ws) ((co, .long) :: tys) sa U ∧ xN U)) (hq_W (some (.int 1)) D hCl (oc o co (f) :: w1) (hA (oc o co f :: ws))) 3 18 (hA (oc o co f :: ws)) := by
  refine va_MetW (cc := b_Law_key) (maxL := 5) (ret := some .int) (by decide) rfl ?_
  intro p e s m args below meth c0 s₁ B0 hml hv
  obtain ⟨rfl, ⟨hPL, hKL, hD0, hF, hZ⟩, hN⟩ := hv
  have hx := B0.exec
  have hb := B0.bytes
  have hr := B0.returns
  have hts := atoms_spec (ws := w_Law_key) B0.pre
  have hown : s.vm.findClass R_Law = some m.cls := findClass_of_methodNamed B0.named
  have hlocks := B0.notSynchronized
  have hwA : ∀ w ∈ wsA, w.before ([.ref h0, .int p0, .int p1, .ref o] : List Value).toArray s = true := fun w h => hts w (List.mem_cons_of_mem _ h)
  have X : CallFix p m c0 b_Law_key 5 s ([.ref h0, .int p0, .int p1, .ref o] : List Value).toArray wsA R_Law := ⟨hx, hb, hml, hown, hwA⟩
  have hDL := hA_D hD0
  have hS : va_S (hA (oc o co f :: ws)) s.heap s.heap [] := va_S.rf
  have hl := lv_entry ([.ref h0, .int p0, .int p1, .ref o]) (n := 5) (Nat.le_of_ble_eq_true rfl)
  rw [lg_entry_eq]
  generalize (lg_sl ([.ref h0, .int p0, .int p1, .ref o]) ++ List.replicate (5 - (lg_sl ([.ref h0, .int p0, .int p1, .ref o])).length) Slot.unset).toArray = ls at hl ⊢
  have hl : lv_has ls 5 [(0, .ref h0), (1, .int p0), (2, .int p1), (3, .ref o)] := hl
  have htab := vx_table (x := y_Law_key) B0 (hts _ List.mem_cons_self)
  have hP := P_tl hPL
  have hK := K_tl hKL
  have hD := D_tl hDL
  have hno := D_hd hDL
  have hol : o < s.heap.size := (hPL 0 _ rfl).lt
  refine lv_aload_n hx hb d_Law_key_0 rfl (lv_at hl 3 rfl) ?_
  refine lv_iconst (v := 0) hx hb d_Law_key_1 (by decide) ?_
  refine lv_aload_n hx hb d_Law_key_2 rfl (lv_at hl 0 rfl) ?_
  refine lv_iload_n hx hb d_Law_key_3 rfl (lv_at hl 1 rfl) ?_
  refine lv_iload_n hx hb d_Law_key_4 rfl (lv_at hl 2 rfl) ?_
  refine hX_VF (As := [.int p0, .int p1]) (C := R_Hop) X hM (cwV 2 X.2.2.2.2 g_Law_Hop_key rfl rfl rfl (by decide +kernel) ⟨Nat.le_of_ble_eq_true rfl, Nat.le_of_ble_eq_true rfl⟩) hP hK hD (hd1 _ hD) hS hF hZ (va_recv hK hP (ci := 0) (q := (R_Hop, F_Hop, 6)) rfl hr0) rfl hl.1 rfl (Nat.le_of_ble_eq_true rfl) ⟨Nat.le_of_ble_eq_true rfl, Nat.le_of_ble_eq_true rfl⟩ d_Law_key_5 (fun E ce q9 H locs h hP hD hS h4 h5 h6 hfr => ?_) (fun v9 H1 locs1 h _ _ _ _ => nomatch h)
  cases h
  have hPL1 := P_cons ((hPL 0 _ rfl).kept (hfr o hol hno)) hP
  refine vx_catch (own := R_Law) (name := "java/lang/IndexOutOfBoundsException") hown [] ⟨0, 10, 13, 13⟩ [⟨0, 10, 17, 40⟩, ⟨0, 10, 21, 21⟩] htab (fun z hz => by cases hz) (by decide) (by decide) (hwA (.classLink R_Law 13 "java/lang/IndexOutOfBoundsException") m_103) (wF_sm (w := .castable "java/lang/IndexOutOfBoundsException" "java/lang/IndexOutOfBoundsException") cst_io rfl (hF.1 _ cst_io)) h4 h5 h6 ?_
  refine lv_astore (lv' := [(4, .ref q9), (0, .ref h0), (1, .int p0), (2, .int p1), (3, .ref o)]) hx hb d_Law_key_13 hl (by decide) rfl (fun ls hl => ?_)
  refine lv_iconst (v := 1) hx hb d_Law_key_15 (by decide) ?_
  refine W.widen (k := 3) (n := 18) (Nat.le_of_ble_eq_true rfl) (Nat.le_of_ble_eq_true rfl) ?_
  exact W.iret (v := 1) hx hb hr (fun t ht hW => ⟨rfl, by rw [ht]; exact hPL1, hS.F ht⟩) hS.2.2 d_Law_key_16
set_option maxHeartbeats 4000000 in
set_option maxRecDepth 100000 in
/-- the law's key -/
theorem c_Law_key_ia (l : Launch) (D : va_G) (ws w1 : va_W) (tys : List (ClassId × FieldType)) (sa : Nat → Nat) (h0 o co : Nat) (fs : List Value) (f : Nat → Int64) (p0 p1 : Int32)  (hr0 : ws[0]? = some (h0, .inr (0, fs))) (hsub : ∀ x, hA w1 x → hA ws x) (hd1 : ∀ A : Nat → Prop, va_D A ws → va_D A w1) (hM : vx_Met l y_Hop_key w_Hop_key (rmD 7 3 18) (va_Pc [.ref h0, .int p0, .int p1] (hb_X D hCl ws tys sa)) (hX_Q (.inr "java/lang/IllegalArgumentException") D hCl w1 (hA ws)) (hX_X (.inr "java/lang/IllegalArgumentException") D hCl w1 (hA ws)) 3 18 (hA ws)) : Met l y_Law_key w_Law_key (rmD 8 3 18) (va_Pc [.ref h0, .int p0, .int p1, .ref o] (fun U => hb_X D hCl (oc o co f :: ws) ((co, .long) :: tys) sa U ∧ xN U)) (hq_W (some (.int 2)) D hCl (oc o co (f) :: w1) (hA (oc o co f :: ws))) 3 18 (hA (oc o co f :: ws)) := by
  refine va_MetW (cc := b_Law_key) (maxL := 5) (ret := some .int) (by decide) rfl ?_
  intro p e s m args below meth c0 s₁ B0 hml hv
  obtain ⟨rfl, ⟨hPL, hKL, hD0, hF, hZ⟩, hN⟩ := hv
  have hx := B0.exec
  have hb := B0.bytes
  have hr := B0.returns
  have hts := atoms_spec (ws := w_Law_key) B0.pre
  have hown : s.vm.findClass R_Law = some m.cls := findClass_of_methodNamed B0.named
  have hlocks := B0.notSynchronized
  have hwA : ∀ w ∈ wsA, w.before ([.ref h0, .int p0, .int p1, .ref o] : List Value).toArray s = true := fun w h => hts w (List.mem_cons_of_mem _ h)
  have X : CallFix p m c0 b_Law_key 5 s ([.ref h0, .int p0, .int p1, .ref o] : List Value).toArray wsA R_Law := ⟨hx, hb, hml, hown, hwA⟩
  have hDL := hA_D hD0
  have hS : va_S (hA (oc o co f :: ws)) s.heap s.heap [] := va_S.rf
  have hl := lv_entry ([.ref h0, .int p0, .int p1, .ref o]) (n := 5) (Nat.le_of_ble_eq_true rfl)
  rw [lg_entry_eq]
  generalize (lg_sl ([.ref h0, .int p0, .int p1, .ref o]) ++ List.replicate (5 - (lg_sl ([.ref h0, .int p0, .int p1, .ref o])).length) Slot.unset).toArray = ls at hl ⊢
  have hl : lv_has ls 5 [(0, .ref h0), (1, .int p0), (2, .int p1), (3, .ref o)] := hl
  have htab := vx_table (x := y_Law_key) B0 (hts _ List.mem_cons_self)
  have hP := P_tl hPL
  have hK := K_tl hKL
  have hD := D_tl hDL
  have hno := D_hd hDL
  have hol : o < s.heap.size := (hPL 0 _ rfl).lt
  refine lv_aload_n hx hb d_Law_key_0 rfl (lv_at hl 3 rfl) ?_
  refine lv_iconst (v := 0) hx hb d_Law_key_1 (by decide) ?_
  refine lv_aload_n hx hb d_Law_key_2 rfl (lv_at hl 0 rfl) ?_
  refine lv_iload_n hx hb d_Law_key_3 rfl (lv_at hl 1 rfl) ?_
  refine lv_iload_n hx hb d_Law_key_4 rfl (lv_at hl 2 rfl) ?_
  refine hX_VF (As := [.int p0, .int p1]) (C := R_Hop) X hM (cwV 2 X.2.2.2.2 g_Law_Hop_key rfl rfl rfl (by decide +kernel) ⟨Nat.le_of_ble_eq_true rfl, Nat.le_of_ble_eq_true rfl⟩) hP hK hD (hd1 _ hD) hS hF hZ (va_recv hK hP (ci := 0) (q := (R_Hop, F_Hop, 6)) rfl hr0) rfl hl.1 rfl (Nat.le_of_ble_eq_true rfl) ⟨Nat.le_of_ble_eq_true rfl, Nat.le_of_ble_eq_true rfl⟩ d_Law_key_5 (fun E ce q9 H locs h hP hD hS h4 h5 h6 hfr => ?_) (fun v9 H1 locs1 h _ _ _ _ => nomatch h)
  cases h
  have hPL1 := P_cons ((hPL 0 _ rfl).kept (hfr o hol hno)) hP
  refine vx_catch (own := R_Law) (name := "java/lang/IllegalArgumentException") hown [⟨0, 10, 13, 13⟩] ⟨0, 10, 17, 40⟩ [⟨0, 10, 21, 21⟩] htab (fun z hz => by simp only [List.mem_cons, List.not_mem_nil, or_false] at hz; subst hz; exact Or.inr ⟨by decide, "java/lang/IndexOutOfBoundsException", hwA (.classLink R_Law 13 "java/lang/IndexOutOfBoundsException") m_103, hN ("java/lang/IllegalArgumentException", "java/lang/IndexOutOfBoundsException") (by decide +kernel)⟩) (by decide) (by decide) (hwA (.classLink R_Law 40 "java/lang/IllegalArgumentException") m_343) (wF_sm (w := .castable "java/lang/IllegalArgumentException" "java/lang/IllegalArgumentException") cst_ia rfl (hF.1 _ cst_ia)) h4 h5 h6 ?_
  refine lv_astore (lv' := [(4, .ref q9), (0, .ref h0), (1, .int p0), (2, .int p1), (3, .ref o)]) hx hb d_Law_key_17 hl (by decide) rfl (fun ls hl => ?_)
  refine lv_iconst (v := 2) hx hb d_Law_key_19 (by decide) ?_
  refine W.widen (k := 3) (n := 18) (Nat.le_of_ble_eq_true rfl) (Nat.le_of_ble_eq_true rfl) ?_
  exact W.iret (v := 2) hx hb hr (fun t ht hW => ⟨rfl, by rw [ht]; exact hPL1, hS.F ht⟩) hS.2.2 d_Law_key_20
set_option maxHeartbeats 4000000 in
set_option maxRecDepth 100000 in
/-- the law's key -/
theorem c_Law_key_ns (l : Launch) (D : va_G) (ws w1 : va_W) (tys : List (ClassId × FieldType)) (sa : Nat → Nat) (h0 o co : Nat) (fs : List Value) (f : Nat → Int64) (p0 p1 : Int32)  (hr0 : ws[0]? = some (h0, .inr (0, fs))) (hsub : ∀ x, hA w1 x → hA ws x) (hd1 : ∀ A : Nat → Prop, va_D A ws → va_D A w1) (hM : vx_Met l y_Hop_key w_Hop_key (rmD 7 3 18) (va_Pc [.ref h0, .int p0, .int p1] (hb_X D hCl ws tys sa)) (hX_Q (.inr "java/util/NoSuchElementException") D hCl w1 (hA ws)) (hX_X (.inr "java/util/NoSuchElementException") D hCl w1 (hA ws)) 3 18 (hA ws)) : Met l y_Law_key w_Law_key (rmD 8 3 18) (va_Pc [.ref h0, .int p0, .int p1, .ref o] (fun U => hb_X D hCl (oc o co f :: ws) ((co, .long) :: tys) sa U ∧ xN U)) (hq_W (some (.int 3)) D hCl (oc o co (f) :: w1) (hA (oc o co f :: ws))) 3 18 (hA (oc o co f :: ws)) := by
  refine va_MetW (cc := b_Law_key) (maxL := 5) (ret := some .int) (by decide) rfl ?_
  intro p e s m args below meth c0 s₁ B0 hml hv
  obtain ⟨rfl, ⟨hPL, hKL, hD0, hF, hZ⟩, hN⟩ := hv
  have hx := B0.exec
  have hb := B0.bytes
  have hr := B0.returns
  have hts := atoms_spec (ws := w_Law_key) B0.pre
  have hown : s.vm.findClass R_Law = some m.cls := findClass_of_methodNamed B0.named
  have hlocks := B0.notSynchronized
  have hwA : ∀ w ∈ wsA, w.before ([.ref h0, .int p0, .int p1, .ref o] : List Value).toArray s = true := fun w h => hts w (List.mem_cons_of_mem _ h)
  have X : CallFix p m c0 b_Law_key 5 s ([.ref h0, .int p0, .int p1, .ref o] : List Value).toArray wsA R_Law := ⟨hx, hb, hml, hown, hwA⟩
  have hDL := hA_D hD0
  have hS : va_S (hA (oc o co f :: ws)) s.heap s.heap [] := va_S.rf
  have hl := lv_entry ([.ref h0, .int p0, .int p1, .ref o]) (n := 5) (Nat.le_of_ble_eq_true rfl)
  rw [lg_entry_eq]
  generalize (lg_sl ([.ref h0, .int p0, .int p1, .ref o]) ++ List.replicate (5 - (lg_sl ([.ref h0, .int p0, .int p1, .ref o])).length) Slot.unset).toArray = ls at hl ⊢
  have hl : lv_has ls 5 [(0, .ref h0), (1, .int p0), (2, .int p1), (3, .ref o)] := hl
  have htab := vx_table (x := y_Law_key) B0 (hts _ List.mem_cons_self)
  have hP := P_tl hPL
  have hK := K_tl hKL
  have hD := D_tl hDL
  have hno := D_hd hDL
  have hol : o < s.heap.size := (hPL 0 _ rfl).lt
  refine lv_aload_n hx hb d_Law_key_0 rfl (lv_at hl 3 rfl) ?_
  refine lv_iconst (v := 0) hx hb d_Law_key_1 (by decide) ?_
  refine lv_aload_n hx hb d_Law_key_2 rfl (lv_at hl 0 rfl) ?_
  refine lv_iload_n hx hb d_Law_key_3 rfl (lv_at hl 1 rfl) ?_
  refine lv_iload_n hx hb d_Law_key_4 rfl (lv_at hl 2 rfl) ?_
  refine hX_VF (As := [.int p0, .int p1]) (C := R_Hop) X hM (cwV 2 X.2.2.2.2 g_Law_Hop_key rfl rfl rfl (by decide +kernel) ⟨Nat.le_of_ble_eq_true rfl, Nat.le_of_ble_eq_true rfl⟩) hP hK hD (hd1 _ hD) hS hF hZ (va_recv hK hP (ci := 0) (q := (R_Hop, F_Hop, 6)) rfl hr0) rfl hl.1 rfl (Nat.le_of_ble_eq_true rfl) ⟨Nat.le_of_ble_eq_true rfl, Nat.le_of_ble_eq_true rfl⟩ d_Law_key_5 (fun E ce q9 H locs h hP hD hS h4 h5 h6 hfr => ?_) (fun v9 H1 locs1 h _ _ _ _ => nomatch h)
  cases h
  have hPL1 := P_cons ((hPL 0 _ rfl).kept (hfr o hol hno)) hP
  refine vx_catch (own := R_Law) (name := "java/util/NoSuchElementException") hown [⟨0, 10, 13, 13⟩, ⟨0, 10, 17, 40⟩] ⟨0, 10, 21, 21⟩ [] htab (fun z hz => by simp only [List.mem_cons, List.not_mem_nil, or_false] at hz; exact hz.elim (fun e9 => by subst e9; exact Or.inr ⟨by decide, "java/lang/IndexOutOfBoundsException", hwA (.classLink R_Law 13 "java/lang/IndexOutOfBoundsException") m_103, hN ("java/util/NoSuchElementException", "java/lang/IndexOutOfBoundsException") (by decide +kernel)⟩) (fun e9 => by subst e9; exact Or.inr ⟨by decide, "java/lang/IllegalArgumentException", hwA (.classLink R_Law 40 "java/lang/IllegalArgumentException") m_343, hN ("java/util/NoSuchElementException", "java/lang/IllegalArgumentException") (by decide +kernel)⟩)) (by decide) (by decide) (hwA (.classLink R_Law 21 "java/util/NoSuchElementException") m_283) (wF_sm (w := .castable "java/util/NoSuchElementException" "java/util/NoSuchElementException") cst_ns rfl (hF.1 _ cst_ns)) h4 h5 h6 ?_
  refine lv_astore (lv' := [(4, .ref q9), (0, .ref h0), (1, .int p0), (2, .int p1), (3, .ref o)]) hx hb d_Law_key_21 hl (by decide) rfl (fun ls hl => ?_)
  refine lv_iconst (v := 3) hx hb d_Law_key_23 (by decide) ?_
  refine W.widen (k := 3) (n := 18) (Nat.le_of_ble_eq_true rfl) (Nat.le_of_ble_eq_true rfl) ?_
  exact W.iret (v := 3) hx hb hr (fun t ht hW => ⟨rfl, by rw [ht]; exact hPL1, hS.F ht⟩) hS.2.2 d_Law_key_24
set_option maxHeartbeats 4000000 in
set_option maxRecDepth 100000 in
/-- the law's count -/
theorem c_Law_count_ok (l : Launch) (D : va_G) (ws w1 : va_W) (tys : List (ClassId × FieldType)) (sa : Nat → Nat) (h0 o co : Nat) (fs : List Value) (f : Nat → Int64) (p0 : Int32) (v : Int32) (hr0 : ws[0]? = some (h0, .inr (0, fs))) (hsub : ∀ x, hA w1 x → hA ws x) (hd1 : ∀ A : Nat → Prop, va_D A ws → va_D A w1) (hM : vx_Met l y_Hop_count w_Hop_count (rmD 7 1 6) (va_Pc [.ref h0, .int p0] (hb_X D hCl ws tys sa)) (hX_Q (.inl (some (.int v))) D hCl w1 (hA ws)) (hX_X (.inl (some (.int v))) D hCl w1 (hA ws)) 1 6 (hA ws)) : Met l y_Law_count w_Law_count (rmD 8 1 6) (va_Pc [.ref h0, .int p0, .ref o] (fun U => hb_X D hCl (oc o co f :: ws) ((co, .long) :: tys) sa U ∧ xN U)) (hq_W (some (.int 0)) D hCl (oc o co (vp_updL f 0 (Int32.toInt64 v)) :: w1) (hA (oc o co f :: ws))) 1 6 (hA (oc o co f :: ws)) := by
  refine va_MetW (cc := b_Law_count) (maxL := 4) (ret := some .int) (by decide) rfl ?_
  intro p e s m args below meth c0 s₁ B0 hml hv
  obtain ⟨rfl, ⟨hPL, hKL, hD0, hF, hZ⟩, hN⟩ := hv
  have hx := B0.exec
  have hb := B0.bytes
  have hr := B0.returns
  have hts := atoms_spec (ws := w_Law_count) B0.pre
  have hown : s.vm.findClass R_Law = some m.cls := findClass_of_methodNamed B0.named
  have hlocks := B0.notSynchronized
  have hwA : ∀ w ∈ wsA, w.before ([.ref h0, .int p0, .ref o] : List Value).toArray s = true := fun w h => hts w (List.mem_cons_of_mem _ h)
  have X : CallFix p m c0 b_Law_count 4 s ([.ref h0, .int p0, .ref o] : List Value).toArray wsA R_Law := ⟨hx, hb, hml, hown, hwA⟩
  have hDL := hA_D hD0
  have hS : va_S (hA (oc o co f :: ws)) s.heap s.heap [] := va_S.rf
  have hl := lv_entry ([.ref h0, .int p0, .ref o]) (n := 4) (Nat.le_of_ble_eq_true rfl)
  rw [lg_entry_eq]
  generalize (lg_sl ([.ref h0, .int p0, .ref o]) ++ List.replicate (4 - (lg_sl ([.ref h0, .int p0, .ref o])).length) Slot.unset).toArray = ls at hl ⊢
  have hl : lv_has ls 4 [(0, .ref h0), (1, .int p0), (2, .ref o)] := hl
  have htab := vx_table (x := y_Law_count) B0 (hts _ List.mem_cons_self)
  have hP := P_tl hPL
  have hK := K_tl hKL
  have hD := D_tl hDL
  have hno := D_hd hDL
  have hol : o < s.heap.size := (hPL 0 _ rfl).lt
  refine lv_aload_n hx hb d_Law_count_0 rfl (lv_at hl 2 rfl) ?_
  refine lv_iconst (v := 0) hx hb d_Law_count_1 (by decide) ?_
  refine lv_aload_n hx hb d_Law_count_2 rfl (lv_at hl 0 rfl) ?_
  refine lv_iload_n hx hb d_Law_count_3 rfl (lv_at hl 1 rfl) ?_
  refine hX_VF (As := [.int p0]) (C := R_Hop) X hM (cwV 1 X.2.2.2.2 g_Law_Hop_count rfl rfl rfl (by decide +kernel) ⟨Nat.le_of_ble_eq_true rfl, Nat.le_of_ble_eq_true rfl⟩) hP hK hD (hd1 _ hD) hS hF hZ (va_recv hK hP (ci := 0) (q := (R_Hop, F_Hop, 6)) rfl hr0) rfl hl.1 rfl (Nat.le_of_ble_eq_true rfl) ⟨Nat.le_of_ble_eq_true rfl, Nat.le_of_ble_eq_true rfl⟩ d_Law_count_4 (fun E ce q9 H1 locs1 h _ _ _ _ _ _ _ => nomatch h) (fun v9 H locs h hP hD hS hfr => ?_)
  cases h
  have hPL1 := P_cons ((hPL 0 _ rfl).kept (hfr o hol hno)) hP
  have hDL1 := D_cons (x := oc o co f) (hDL.2 0 _ rfl) hD (fun z => hno (hsub o z))
  refine lv_i2l hx hb d_Law_count_7 rfl ?_
  refine va_last hx hb hKL hPL1 hDL1 hS 0 0 rfl rfl (vp_in_nI (n := 0) (by decide) (by decide)) d_Law_count_8 (fun H locs hP hD hS => ?_)
  refine lv_goto (tgt := 15) hx hb d_Law_count_9 (by decide) ?_
  refine lv_iconst (v := 0) hx hb d_Law_count_15 (by decide) ?_
  refine W.widen (k := 1) (n := 6) (Nat.le_of_ble_eq_true rfl) (Nat.le_of_ble_eq_true rfl) ?_
  exact W.iret (v := 0) hx hb hr (fun t ht hW => ⟨rfl, by rw [ht]; exact hP, hS.F ht⟩) hS.2.2 d_Law_count_16
set_option maxHeartbeats 4000000 in
set_option maxRecDepth 100000 in
/-- the law's count -/
theorem c_Law_count_ia (l : Launch) (D : va_G) (ws w1 : va_W) (tys : List (ClassId × FieldType)) (sa : Nat → Nat) (h0 o co : Nat) (fs : List Value) (f : Nat → Int64) (p0 : Int32)  (hr0 : ws[0]? = some (h0, .inr (0, fs))) (hsub : ∀ x, hA w1 x → hA ws x) (hd1 : ∀ A : Nat → Prop, va_D A ws → va_D A w1) (hM : vx_Met l y_Hop_count w_Hop_count (rmD 7 1 6) (va_Pc [.ref h0, .int p0] (hb_X D hCl ws tys sa)) (hX_Q (.inr "java/lang/IllegalArgumentException") D hCl w1 (hA ws)) (hX_X (.inr "java/lang/IllegalArgumentException") D hCl w1 (hA ws)) 1 6 (hA ws)) : Met l y_Law_count w_Law_count (rmD 8 1 6) (va_Pc [.ref h0, .int p0, .ref o] (fun U => hb_X D hCl (oc o co f :: ws) ((co, .long) :: tys) sa U ∧ xN U)) (hq_W (some (.int 1)) D hCl (oc o co (f) :: w1) (hA (oc o co f :: ws))) 1 6 (hA (oc o co f :: ws)) := by
  refine va_MetW (cc := b_Law_count) (maxL := 4) (ret := some .int) (by decide) rfl ?_
  intro p e s m args below meth c0 s₁ B0 hml hv
  obtain ⟨rfl, ⟨hPL, hKL, hD0, hF, hZ⟩, hN⟩ := hv
  have hx := B0.exec
  have hb := B0.bytes
  have hr := B0.returns
  have hts := atoms_spec (ws := w_Law_count) B0.pre
  have hown : s.vm.findClass R_Law = some m.cls := findClass_of_methodNamed B0.named
  have hlocks := B0.notSynchronized
  have hwA : ∀ w ∈ wsA, w.before ([.ref h0, .int p0, .ref o] : List Value).toArray s = true := fun w h => hts w (List.mem_cons_of_mem _ h)
  have X : CallFix p m c0 b_Law_count 4 s ([.ref h0, .int p0, .ref o] : List Value).toArray wsA R_Law := ⟨hx, hb, hml, hown, hwA⟩
  have hDL := hA_D hD0
  have hS : va_S (hA (oc o co f :: ws)) s.heap s.heap [] := va_S.rf
  have hl := lv_entry ([.ref h0, .int p0, .ref o]) (n := 4) (Nat.le_of_ble_eq_true rfl)
  rw [lg_entry_eq]
  generalize (lg_sl ([.ref h0, .int p0, .ref o]) ++ List.replicate (4 - (lg_sl ([.ref h0, .int p0, .ref o])).length) Slot.unset).toArray = ls at hl ⊢
  have hl : lv_has ls 4 [(0, .ref h0), (1, .int p0), (2, .ref o)] := hl
  have htab := vx_table (x := y_Law_count) B0 (hts _ List.mem_cons_self)
  have hP := P_tl hPL
  have hK := K_tl hKL
  have hD := D_tl hDL
  have hno := D_hd hDL
  have hol : o < s.heap.size := (hPL 0 _ rfl).lt
  refine lv_aload_n hx hb d_Law_count_0 rfl (lv_at hl 2 rfl) ?_
  refine lv_iconst (v := 0) hx hb d_Law_count_1 (by decide) ?_
  refine lv_aload_n hx hb d_Law_count_2 rfl (lv_at hl 0 rfl) ?_
  refine lv_iload_n hx hb d_Law_count_3 rfl (lv_at hl 1 rfl) ?_
  refine hX_VF (As := [.int p0]) (C := R_Hop) X hM (cwV 1 X.2.2.2.2 g_Law_Hop_count rfl rfl rfl (by decide +kernel) ⟨Nat.le_of_ble_eq_true rfl, Nat.le_of_ble_eq_true rfl⟩) hP hK hD (hd1 _ hD) hS hF hZ (va_recv hK hP (ci := 0) (q := (R_Hop, F_Hop, 6)) rfl hr0) rfl hl.1 rfl (Nat.le_of_ble_eq_true rfl) ⟨Nat.le_of_ble_eq_true rfl, Nat.le_of_ble_eq_true rfl⟩ d_Law_count_4 (fun E ce q9 H locs h hP hD hS h4 h5 h6 hfr => ?_) (fun v9 H1 locs1 h _ _ _ _ => nomatch h)
  cases h
  have hPL1 := P_cons ((hPL 0 _ rfl).kept (hfr o hol hno)) hP
  refine vx_catch (own := R_Law) (name := "java/lang/IllegalArgumentException") hown [] ⟨0, 9, 12, 40⟩ [] htab (fun z hz => by cases hz) (by decide) (by decide) (hwA (.classLink R_Law 40 "java/lang/IllegalArgumentException") m_343) (wF_sm (w := .castable "java/lang/IllegalArgumentException" "java/lang/IllegalArgumentException") cst_ia rfl (hF.1 _ cst_ia)) h4 h5 h6 ?_
  refine lv_astore_n (lv' := [(3, .ref q9), (0, .ref h0), (1, .int p0), (2, .ref o)]) hx hb d_Law_count_12 rfl hl (by decide) rfl (fun ls hl => ?_)
  refine lv_iconst (v := 1) hx hb d_Law_count_13 (by decide) ?_
  refine W.widen (k := 1) (n := 6) (Nat.le_of_ble_eq_true rfl) (Nat.le_of_ble_eq_true rfl) ?_
  exact W.iret (v := 1) hx hb hr (fun t ht hW => ⟨rfl, by rw [ht]; exact hPL1, hS.F ht⟩) hS.2.2 d_Law_count_14
