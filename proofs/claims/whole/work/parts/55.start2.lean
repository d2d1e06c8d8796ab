set_option maxHeartbeats 4000000 in
set_option maxRecDepth 100000 in
/-- from the entry, for every script of at most 2048 ints, the law comes to its end with true -/
theorem whole_start {p : Program} {e : Env} {s : State} {m : MethodId} {below : List Frame} {meth : Method} {c : Code} (l : Launch) (hlt : l.stackTraces = false) {b L : Nat} {xs : Nat → Int32} (hL : L ≤ 2048) (C0 : lw_At p s m meth c b L xs) : W p l e room_1 s m #[Value.ref b] below meth c s.heap [] 0 0 (lw_Z below #[Value.ref b] s) (entryFrame m ([Value.ref b] : List Value).toArray 7) := by
  obtain ⟨hx, hb, hr, hml, hown, hts, hX, hbl, hlocks, hgv⟩ := C0
  have hwA : ∀ w ∈ wsA, w.before #[Value.ref b] s = true := fun w hw => hts w (List.mem_filter.mp hw).1
  have X : CallFix p m c code 7 s #[Value.ref b] wsA R_Law := ⟨hx, hb, hml, hown, hwA⟩
  obtain ⟨D, hKM⟩ := lw_known hwA
  have hKH := K_dn hKM
  obtain ⟨sa, hF⟩ := lw_xF hts hgv
  have hZ := lw_xZ hts hgv
  have hN := lw_xN hgv
  have hAO : va_AO R_Part s := va_AO.of (hts (.arrayOver (.object R_Part)) (List.mem_of_getElem? (i := 60) (by decide +kernel)))
  have hAA : ∀ q : Nat, s.heap.size ≤ q → (fun q => s.heap.size ≤ q) q := fun q h => h
  have hS : va_S (fun q => s.heap.size ≤ q) s.heap s.heap [] := va_S.rf
  have hP : va_P D hCl [] s.heap := fun k q hk => by cases hk
  have hD : va_D (fun q => s.heap.size ≤ q) ([] : va_W) := ⟨fun i j p q hi => (by cases hi), fun k q hk => (by cases hk)⟩
  have hl := lv_entry ([.ref b]) (n := 7) (Nat.le_of_ble_eq_true rfl)
  rw [lg_entry_eq]
  generalize (lg_sl ([.ref b]) ++ List.replicate (7 - (lg_sl ([.ref b])).length) Slot.unset).toArray = ls at hl ⊢
  have hl : lv_has ls 7 [(0, .ref b)] := hl
  refine va_new (ci := 0) (fs := [.null, .null, .null, .null, .null, .null]) (C := R_Hop) (T := F_Hop) (N := 6) hx hb hwA hin_Hop t_Hop t_Hop_ok hown (hwA (.classLink R_Law 8 R_Hop) m_51) (hwA (.instantiable R_Hop 6) m_52) (hwA (.initialized R_Hop) m_40) hKH hP hD hS hAA rfl (fun j hj => by rcases (show j = 0 ∨ j = 1 ∨ j = 2 ∨ j = 3 ∨ j = 4 ∨ j = 5 by omega) with rfl | rfl | rfl | rfl | rfl | rfl <;> rfl) (Nat.le_of_ble_eq_true rfl) (Nat.le_of_ble_eq_true rfl) d_law_0 (fun h0 H hP hD hS => ?_)
  have hP : va_P D hCl [(h0, .inr (0, [.null, .null, .null, .null, .null, .null]))] H := hP
  have hD : va_D (fun q => s.heap.size ≤ q) [(h0, .inr (0, [.null, .null, .null, .null, .null, .null]))] := hD
  have hsub : ∀ q, va_A [(h0, .inr (0, [.null, .null, .null, .null, .null, .null]))] H.size q → s.heap.size ≤ q := fun q h => h.elim (fun ⟨k, e9, hk⟩ => hD.2 k _ hk) (fun z => Nat.le_trans hS.1 z)
  refine lv_dup hx hb d_law_3 rfl ?_
  refine hI_call (va_runI (As := []) (rest := [.ref h0]) X (c_Hop_init l D h0 H.size) (cwI 0 hwA (gI (gC m_55)) rfl rfl rfl (hwA (.initialized R_Hop) m_40) (hwA (.methodLink R_Law 60 y_Hop_init) m_53) (hwA (.instanceMethod y_Hop_init) m_54) rfl (by decide +kernel) ⟨Nat.le_of_ble_eq_true rfl, Nat.le_of_ble_eq_true rfl⟩) ⟨hI_blind, fun U hU hW => ⟨rfl, va_AO.moved hW.alike hAO, by rw [hU], by rw [hU]; exact hP, va_K.moved hW.alike hKH, hD.weaken (fun _ _ _ _ => trivial)⟩⟩ rfl rfl hl.1 rfl (lv_room (Nat.le_of_ble_eq_true rfl)) d_law_4 ⟨Nat.le_of_ble_eq_true rfl, Nat.le_of_ble_eq_true rfl⟩) hS hsub (fun H locs ca a q ha hPc hKc hD1 hfr hS => ?_)
  have hDc : va_D (fun q => s.heap.size ≤ q) (wH ca a q (fun _ => 0) (fun _ => 0) (fun _ => false) (fun _ => 0) iB iP iS) := hD1.weaken (fun k q hk z => hsub _ z)
  refine lv_topv (v' := .ref (a 0)) (congrArg Value.ref ha.symm) ?_
  refine lv_astore_n (lv' := [(1, .ref (a 0)), (0, .ref b)]) hx hb d_law_7 rfl hl (by decide) rfl (fun ls hl => ?_)
  refine va_new (ci := 2) (fs := [.int 0, .null, .null, .null, .null, .null, .null, .null, .int 0, .null, .null, .null, .null, .null]) (C := R_Mod) (T := F_Mod) (N := 14) hx hb hwA hin_Mod t_Mod t_Mod_ok hown (hwA (.classLink R_Law 61 R_Mod) m_416) (hwA (.instantiable R_Mod 14) m_417) (hwA (.initialized R_Mod) m_42) hKM (P_up hPc) hDc hS hAA rfl (fun j hj => by rcases (show j = 0 ∨ j = 1 ∨ j = 2 ∨ j = 3 ∨ j = 4 ∨ j = 5 ∨ j = 6 ∨ j = 7 ∨ j = 8 ∨ j = 9 ∨ j = 10 ∨ j = 11 ∨ j = 12 ∨ j = 13 by omega) with rfl | rfl | rfl | rfl | rfl | rfl | rfl | rfl | rfl | rfl | rfl | rfl | rfl | rfl <;> rfl) (Nat.le_of_ble_eq_true rfl) (Nat.le_of_ble_eq_true rfl) d_law_8 (fun h1 H hPx hDx hS => ?_)
  have hPc := P_dnH (P_l hPx)
  have hPm0 : va_P D mCl [(h1, .inr (2, [.int 0, .null, .null, .null, .null, .null, .null, .null, .int 0, .null, .null, .null, .null, .null]))] H := P_r hPx
  have hDm0 : va_D (fun q => s.heap.size ≤ q) [(h1, .inr (2, [.int 0, .null, .null, .null, .null, .null, .null, .null, .int 0, .null, .null, .null, .null, .null]))] := ⟨fun i j p q hi hj _ => by have z1 : i < 1 := (List.getElem?_eq_some_iff.mp hi).1; have z2 : j < 1 := (List.getElem?_eq_some_iff.mp hj).1; omega, fun k x9 hk => hDx.2 (10 + k) x9 (app_r (w1 := wH ca a q (fun _ => 0) (fun _ => 0) (fun _ => false) (fun _ => 0) iB iP iS) hk)⟩
  have hx1 := D_x hDx
  have hsub1 : ∀ q, va_A [(h1, .inr (2, [.int 0, .null, .null, .null, .null, .null, .null, .null, .int 0, .null, .null, .null, .null, .null]))] H.size q → s.heap.size ≤ q := fun q h => h.elim (fun ⟨k, e9, hk⟩ => hDm0.2 k _ hk) (fun z => Nat.le_trans hS.1 z)
  have hno : ∀ x, hA (wH ca a q (fun _ => 0) (fun _ => 0) (fun _ => false) (fun _ => 0) iB iP iS) x → ¬ va_A [(h1, .inr (2, [.int 0, .null, .null, .null, .null, .null, .null, .null, .int 0, .null, .null, .null, .null, .null]))] H.size x := fun x h z => z.elim (fun z1 => hx1 x h z1) (fun z2 => by obtain ⟨k, e9, hk⟩ := h; exact absurd (hPc k _ hk).lt (Nat.not_lt.mpr z2))
  refine lv_dup hx hb d_law_11 rfl ?_
  refine mI_call (va_runI (As := []) (rest := [.ref h1]) X (c_Mod_init l D h1 H.size) (cwI 0 hwA (gI (gC m_420)) rfl rfl rfl (hwA (.initialized R_Mod) m_42) (hwA (.methodLink R_Law 63 y_Mod_init) m_418) (hwA (.instanceMethod y_Mod_init) m_419) rfl (by decide +kernel) ⟨Nat.le_of_ble_eq_true rfl, Nat.le_of_ble_eq_true rfl⟩) ⟨mI_blind, fun U hU hW => ⟨rfl, by rw [hU], by rw [hU]; exact hPm0, va_K.moved hW.alike hKM, hDm0.weaken (fun _ _ _ _ => trivial)⟩⟩ rfl rfl hl.1 rfl (lv_room (Nat.le_of_ble_eq_true rfl)) d_law_12 ⟨Nat.le_of_ble_eq_true rfl, Nat.le_of_ble_eq_true rfl⟩) hS hsub1 (fun H1 locs cm am ha1 hPm hKm hDm1 hfr1 hS => ?_)
  have hdis : ∀ x, hA (wH ca a q (fun _ => 0) (fun _ => 0) (fun _ => false) (fun _ => 0) iB iP iS) x → ¬ hA (wM cm am 0 (fun _ => false) (fun _ => 0) (fun _ => 0) jP jB jS (fun _ => 0) 0 (fun _ => 0) (fun _ => 0) (fun _ => false) (fun _ => 0) (fun _ => 0)) x := fun x h z => by obtain ⟨k, e9, hk⟩ := z; exact hno x h (hDm1.2 k _ hk)
  have hPc : va_P D hCl (wH ca a q (fun _ => 0) (fun _ => 0) (fun _ => false) (fun _ => 0) iB iP iS) H1 := hPc.kept (fun k q hk => hfr1 q.1 (hPc k q hk).lt (hno q.1 ⟨k, q.2, hk⟩))
  have hDm : va_D (fun q => s.heap.size ≤ q) (wM cm am 0 (fun _ => false) (fun _ => 0) (fun _ => 0) jP jB jS (fun _ => 0) 0 (fun _ => 0) (fun _ => 0) (fun _ => false) (fun _ => 0) (fun _ => 0)) := hDm1.weaken (fun k q hk z => hsub1 _ z)
  refine lv_topv (v' := .ref (am 0)) (congrArg Value.ref ha1.symm) ?_
  refine lv_astore_n (lv' := [(2, .ref (am 0)), (1, .ref (a 0)), (0, .ref b)]) hx hb d_law_15 rfl hl (by decide) rfl (fun ls hl => ?_)
  refine lv_iconst (v := 1) hx hb d_law_16 (by decide) ?_
  have hPb := (P_up hPc).app hPm
  have hDb := hDc.app hDm (fun i j p q hi hj z => hdis p.1 ⟨i, p.2, hi⟩ ⟨j, q.2, by rw [z]; exact hj⟩)
  refine va_newa (atype := .long) (ty := .long) (N' := 1) (a0 := (1, .inr (.inl (fun _ => 0)))) hx hb (hwA (.arrayClass .long) m_607) rfl hKM hPb hDb hS hAA (fun cA => rfl) (by decide) (by decide) (by decide) (Nat.le_of_ble_eq_true rfl) (Nat.le_of_ble_eq_true rfl) d_law_17 (fun o co H hKo hPo hDo hS => ?_)
  have hKo : va_K D hCl [(co, .long)] s := K_dn hKo
  have hxo := D_x hDo
  have hno : ∀ ws2 : va_W, (∀ x, hA ws2 x → hA (wH ca a q (fun _ => 0) (fun _ => 0) (fun _ => false) (fun _ => 0) iB iP iS ++ wM cm am 0 (fun _ => false) (fun _ => 0) (fun _ => 0) jP jB jS (fun _ => 0) 0 (fun _ => 0) (fun _ => 0) (fun _ => false) (fun _ => 0) (fun _ => 0)) x) → ¬ hA ws2 o := fun ws2 h z => hxo o (h o z) ⟨0, _, rfl⟩
  have hal : ∀ x, hA (wH ca a q (fun _ => 0) (fun _ => 0) (fun _ => false) (fun _ => 0) iB iP iS) x → hA (wH ca a q (fun _ => 0) (fun _ => 0) (fun _ => false) (fun _ => 0) iB iP iS ++ wM cm am 0 (fun _ => false) (fun _ => 0) (fun _ => 0) jP jB jS (fun _ => 0) 0 (fun _ => 0) (fun _ => 0) (fun _ => false) (fun _ => 0) (fun _ => 0)) x := fun x h => by obtain ⟨k, e9, hk⟩ := h; exact ⟨k, e9, by rw [List.getElem?_append_left (List.getElem?_eq_some_iff.mp hk).1]; exact hk⟩
  have har : ∀ x, hA (wM cm am 0 (fun _ => false) (fun _ => 0) (fun _ => 0) jP jB jS (fun _ => 0) 0 (fun _ => 0) (fun _ => 0) (fun _ => false) (fun _ => 0) (fun _ => 0)) x → hA (wH ca a q (fun _ => 0) (fun _ => 0) (fun _ => false) (fun _ => 0) iB iP iS ++ wM cm am 0 (fun _ => false) (fun _ => 0) (fun _ => 0) jP jB jS (fun _ => 0) 0 (fun _ => 0) (fun _ => 0) (fun _ => false) (fun _ => 0) (fun _ => 0)) x := fun x h => by obtain ⟨k, e9, hk⟩ := h; exact ⟨_, e9, app_r hk⟩
  have hAo : s.heap.size ≤ o := hDo.2 _ _ (app_r (k := 0) rfl)
  have hdx : ∀ x, hA (oc o co (fun _ => 0) :: wH ca a q (fun _ => 0) (fun _ => 0) (fun _ => false) (fun _ => 0) iB iP iS) x → ¬ hA (wM cm am 0 (fun _ => false) (fun _ => 0) (fun _ => 0) jP jB jS (fun _ => 0) 0 (fun _ => 0) (fun _ => 0) (fun _ => false) (fun _ => 0) (fun _ => 0)) x := fun x h z => by
    obtain ⟨k, e9, hk⟩ := h
    cases k with
    | zero => cases hk; exact hno _ har z
    | succ k => exact hdis x ⟨k, e9, hk⟩ z
  have hLI : LI D ca a cm am o co (fun q => s.heap.size ≤ q) s H locs q ((fun _ => 0), (fun _ => 0), (fun _ => false), (fun _ => 0), iB, iP, iS) (fun _ => 0) 0 ((fun _ => 0), (fun _ => 0), (fun _ => false), (fun _ => 0), jB, jP, jS) (0, (fun _ => 0), (fun _ => 0), (fun _ => false), (fun _ => 0), (fun _ => 0)) := ⟨P_cons (P_r hPo 0 _ rfl) (P_dnH (P_l (P_l hPo))), P_r (P_l hPo), D_cons (x := oc o co (fun _ => 0)) hAo hDc (hno _ hal), hDm, hdx, hS, Sim_init⟩
  have hC : LK l D ca cm sa co (fun q => s.heap.size ≤ q) s b L xs := ⟨hlt, hKo.app hKc, hKm, hF, hZ, hN, hX, hbl, Nat.not_le.mpr hbl⟩
  refine lv_astore_n (lv' := [(3, .ref o), (2, .ref (am 0)), (1, .ref (a 0)), (0, .ref b)]) hx hb d_law_19 rfl hl (by decide) rfl (fun ls hl => ?_)
  refine lv_iconst (v := 0) hx hb d_law_20 (by decide) ?_
  refine lv_istore (lv' := [(4, .int 0), (3, .ref o), (2, .ref (am 0)), (1, .ref (a 0)), (0, .ref b)]) hx hb d_law_21 hl (by decide) rfl (fun ls hl => ?_)
  refine W.widen (k := 1000 + 3 * 0) (n := 5000 + 18 * 0) (Nat.le_of_ble_eq_true rfl) (Nat.le_of_ble_eq_true rfl) ?_
  exact lw_loop X hC hL hr hlocks 512 0 ls H locs q ((fun _ => 0), (fun _ => 0), (fun _ => false), (fun _ => 0), iB, iP, iS) (fun _ => 0) 0 ((fun _ => 0), (fun _ => 0), (fun _ => false), (fun _ => 0), jB, jP, jS) (0, (fun _ => 0), (fun _ => 0), (fun _ => false), (fun _ => 0), (fun _ => 0)) rfl hLI (lv_sub hl [0, 4, 3, 2, 1] rfl)
