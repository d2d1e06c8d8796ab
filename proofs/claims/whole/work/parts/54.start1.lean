/-! what holds at the law's entry -/
theorem lw_known {s : State} {args : Array Value} (hwA : ∀ w ∈ wsA, w.before args s = true) : ∃ D : va_G, va_K D mCl [] s := by
  obtain ⟨c0, i0, k0⟩ := u_known (C := R_Hop) (T := F_Hop) (N := 6) hwA hin_Hop (hwA (.instantiable R_Hop 6) m_52)
  obtain ⟨c1, i1, k1⟩ := u_known (C := R_Part) (T := F_Part) (N := 3) hwA hin_Part (hwA (.instantiable R_Part 3) m_61)
  obtain ⟨c2, i2, k2⟩ := u_known (C := R_Mod) (T := F_Mod) (N := 14) hwA hin_Mod (hwA (.instantiable R_Mod 14) m_417)
  refine ⟨(fun c => if c = 0 then c0 else if c = 1 then c1 else c2, fun c => if c = 0 then i0 else if c = 1 then i1 else i2), fun c q hq => ?_, fun k q hk => by cases hk⟩
  have hlt : c < 3 := (List.getElem?_eq_some_iff.mp hq).1
  rcases (show c = 0 ∨ c = 1 ∨ c = 2 by omega) with rfl | rfl | rfl
  · cases hq; exact k0
  · cases hq; exact k1
  · cases hq; exact k2
theorem cl_up {c : Nat} {q : vw_C} (h : hCl[c]? = some q) : mCl[c]? = some q := by
  have hlt : c < 2 := (List.getElem?_eq_some_iff.mp h).1
  rcases (show c = 0 ∨ c = 1 by omega) with rfl | rfl
  · exact h
  · exact h
theorem cl_dn {c : Nat} {q : vw_C} (hc : c < 2) (h : mCl[c]? = some q) : hCl[c]? = some q := by
  rcases (show c = 0 ∨ c = 1 by omega) with rfl | rfl
  · exact h
  · exact h
theorem K_dn {D : va_G} {tys : List (ClassId × FieldType)} {U : State} (h : va_K D mCl tys U) : va_K D hCl tys U := ⟨fun c q hq => h.1 c q (cl_up hq), h.2⟩
theorem at_up {D : va_G} {x : Nat × va_E} {H : Heap} (h : va_at D hCl x H) : va_at D mCl x H := by
  obtain ⟨n, x | x⟩ := x
  · exact h
  · obtain ⟨r, h1, h2⟩ := h
    exact ⟨r, cl_up h1, h2⟩
theorem P_up {D : va_G} {ws : va_W} {H : Heap} (h : va_P D hCl ws H) : va_P D mCl ws H := fun k q hk => at_up (h k q hk)
theorem at_dn {D : va_G} {n ci : Nat} {fs : List Value} {H : Heap} (hc : ci < 2) (h : va_at D mCl (n, .inr (ci, fs)) H) : va_at D hCl (n, .inr (ci, fs)) H := by
  obtain ⟨r, h1, h2⟩ := h
  exact ⟨r, cl_dn hc h1, h2⟩
theorem P_dnH {D : va_G} {ca a q : Nat → Nat} {K V : IT} {T : BT} {C : IT} {B P : Nat → Nat} {S : IT} {H : Heap} (h : va_P D mCl (wH ca a q K V T C B P S) H) : va_P D hCl (wH ca a q K V T C B P S) H := fun k e hk => by
  have hlt : k < 10 := (List.getElem?_eq_some_iff.mp hk).1
  rcases (show k = 0 ∨ k = 1 ∨ k = 2 ∨ k = 3 ∨ k = 4 ∨ k = 5 ∨ k = 6 ∨ k = 7 ∨ k = 8 ∨ k = 9 by omega) with rfl | rfl | rfl | rfl | rfl | rfl | rfl | rfl | rfl | rfl
  · cases hk; exact at_dn (by decide) (h 0 _ rfl)
  · cases hk; exact h 1 _ rfl
  · cases hk; exact h 2 _ rfl
  · cases hk; exact h 3 _ rfl
  · cases hk; exact h 4 _ rfl
  · cases hk; exact h 5 _ rfl
  · cases hk; exact at_dn (by decide) (h 6 _ rfl)
  · cases hk; exact at_dn (by decide) (h 7 _ rfl)
  · cases hk; exact at_dn (by decide) (h 8 _ rfl)
  · cases hk; exact at_dn (by decide) (h 9 _ rfl)
theorem P_l {D : va_G} {cl : List vw_C} {w1 w2 : va_W} {H : Heap} (h : va_P D cl (w1 ++ w2) H) : va_P D cl w1 H := fun k q hk => h k q (by rw [List.getElem?_append_left (List.getElem?_eq_some_iff.mp hk).1]; exact hk)
theorem app_r {w1 w2 : va_W} {k : Nat} {q : Nat × va_E} (hk : w2[k]? = some q) : (w1 ++ w2)[w1.length + k]? = some q := by
  rw [List.getElem?_append_right (Nat.le_add_right _ _), Nat.add_sub_cancel_left]; exact hk
theorem P_r {D : va_G} {cl : List vw_C} {w1 w2 : va_W} {H : Heap} (h : va_P D cl (w1 ++ w2) H) : va_P D cl w2 H := fun k q hk => h (w1.length + k) q (app_r hk)
theorem D_l {A : Nat → Prop} {w1 w2 : va_W} (h : va_D A (w1 ++ w2)) : va_D A w1 := ⟨fun i j p q hi hj e => h.1 i j p q (by rw [List.getElem?_append_left (List.getElem?_eq_some_iff.mp hi).1]; exact hi) (by rw [List.getElem?_append_left (List.getElem?_eq_some_iff.mp hj).1]; exact hj) e, fun k q hk => h.2 k q (by rw [List.getElem?_append_left (List.getElem?_eq_some_iff.mp hk).1]; exact hk)⟩
theorem D_x {A : Nat → Prop} {w1 w2 : va_W} (h : va_D A (w1 ++ w2)) : ∀ x, hA w1 x → ¬ hA w2 x := fun x h1 h2 => by
  obtain ⟨i, e1, hi⟩ := h1
  obtain ⟨j, e2, hj⟩ := h2
  have hl := (List.getElem?_eq_some_iff.mp hi).1
  have z := h.1 i (w1.length + j) (x, e1) (x, e2) (by rw [List.getElem?_append_left hl]; exact hi) (app_r hj) rfl
  omega
theorem lw_xF {s : State} {b : Nat} (hts : ∀ w ∈ lw_tbl, w.before #[Value.ref b] s = true) (hgv : (Jvm.Cond.and given_1 narrow_1).before #[Value.ref b] s = true) : ∃ sa : Nat → Nat, xF sa s := by
  have hs := flat_of_before _ hgv
  obtain ⟨a0, _, _, _, e0, _⟩ := Cond.exactly_spec (hs (.exactly (.string "HopArena" 111) "java/lang/String") (by decide +kernel))
  obtain ⟨a1, _, _, _, e1, _⟩ := Cond.exactly_spec (hs (.exactly (.string "HopArena" 54) "java/lang/String") (by decide +kernel))
  obtain ⟨a2, _, _, _, e2, _⟩ := Cond.exactly_spec (hs (.exactly (.string "HopArena" 120) "java/lang/String") (by decide +kernel))
  obtain ⟨a3, _, _, _, e3, _⟩ := Cond.exactly_spec (hs (.exactly (.string "HopArena" 82) "java/lang/String") (by decide +kernel))
  obtain ⟨a4, _, _, _, e4, _⟩ := Cond.exactly_spec (hs (.exactly (.string "HopArena" 118) "java/lang/String") (by decide +kernel))
  obtain ⟨a5, _, _, _, e5, _⟩ := Cond.exactly_spec (hs (.exactly (.string "HopArena" 104) "java/lang/String") (by decide +kernel))
  obtain ⟨a6, _, _, _, e6, _⟩ := Cond.exactly_spec (hs (.exactly (.string "HopArena" 107) "java/lang/String") (by decide +kernel))
  refine ⟨lsF [a0, a1, a2, a3, a4, a5, a6], fun w hw => wF_sm hw rfl (hts w (List.mem_filter.mp hw).1), fun x hx => ?_⟩
  simp only [xStr, List.mem_cons, List.not_mem_nil, or_false] at hx
  rcases hx with rfl | rfl | rfl | rfl | rfl | rfl | rfl
  · exact vk_R.of (A := #[Value.ref b]) (hts (.stringRef "HopArena" 111 "no such map") (List.mem_of_getElem? (i := 155) (by decide +kernel))) e0
  · exact vk_R.of (A := #[Value.ref b]) (hts (.stringRef "HopArena" 54 "growing was refused") (List.mem_of_getElem? (i := 273) (by decide +kernel))) e1
  · exact vk_R.of (A := #[Value.ref b]) (hts (.stringRef "HopArena" 120 "the key is not there") (List.mem_of_getElem? (i := 301) (by decide +kernel))) e2
  · exact vk_R.of (A := #[Value.ref b]) (hts (.stringRef "HopArena" 82 "no such thing about a map") (List.mem_of_getElem? (i := 357) (by decide +kernel))) e3
  · exact vk_R.of (A := #[Value.ref b]) (hts (.stringRef "HopArena" 118 "no such place") (List.mem_of_getElem? (i := 392) (by decide +kernel))) e4
  · exact vk_R.of (A := #[Value.ref b]) (hts (.stringRef "HopArena" 104 "the place is free") (List.mem_of_getElem? (i := 407) (by decide +kernel))) e5
  · exact vk_R.of (A := #[Value.ref b]) (hts (.stringRef "HopArena" 107 "no such count") (List.mem_of_getElem? (i := 415) (by decide +kernel))) e6
theorem lw_xZ {s : State} {b : Nat} (hts : ∀ w ∈ lw_tbl, w.before #[Value.ref b] s = true) (hgv : (Jvm.Cond.and given_1 narrow_1).before #[Value.ref b] s = true) : xZ (fun q => s.heap.size ≤ q) s s.heap := by
  have hs := flat_of_before _ hgv
  exact ⟨vx_Zqof (hts (.laysStatic Bundle.tN "UNASSIGNED_STACK" Bundle.steD) (List.mem_of_getElem? (i := 140) (by decide +kernel))) (hts (.initialized Bundle.tN) (List.mem_of_getElem? (i := 43) (by decide +kernel))) (hs (.isRef (.static Bundle.tN "UNASSIGNED_STACK" Bundle.steD)) (by decide +kernel)) (fun a h z => absurd h (Nat.not_lt.mpr z)), vx_Zqof (hts (.laysStatic Bundle.tN "SUPPRESSED_SENTINEL" Bundle.listD) (List.mem_of_getElem? (i := 142) (by decide +kernel))) (hts (.initialized Bundle.tN) (List.mem_of_getElem? (i := 43) (by decide +kernel))) (hs (.isRef (.static Bundle.tN "SUPPRESSED_SENTINEL" Bundle.listD)) (by decide +kernel)) (fun a h z => absurd h (Nat.not_lt.mpr z))⟩
theorem lw_xN {s : State} {b : Nat} (hgv : (Jvm.Cond.and given_1 narrow_1).before #[Value.ref b] s = true) : xN s := by
  have hs := flat_of_before _ hgv
  intro x hx
  simp only [ncP, List.mem_cons, List.not_mem_nil, or_false] at hx
  rcases hx with rfl | rfl | rfl | rfl
  · exact va_Nc.of (hs (.not (.castable "java/lang/ArithmeticException" "java/lang/IndexOutOfBoundsException")) (by decide +kernel))
  · exact va_Nc.of (hs (.not (.castable "java/util/NoSuchElementException" "java/lang/IndexOutOfBoundsException")) (by decide +kernel))
  · exact va_Nc.of (hs (.not (.castable "java/lang/IllegalArgumentException" "java/lang/IndexOutOfBoundsException")) (by decide +kernel))
  · exact va_Nc.of (hs (.not (.castable "java/util/NoSuchElementException" "java/lang/IllegalArgumentException")) (by decide +kernel))
section HLE
variable {p : Program} {l : Launch} {e : Env} {R : Room} {s : State} {m : MethodId} {args : Array Value} {below : List Frame} {meth : Method} {c : Code} {H : Heap} {locs : List Loc} {cells slots : Nat} {Q : State → Prop}
variable {cc : ByteArray} {pc nL : Nat} {ls : Array Slot} {rest st0 : List Value} {D : va_G} {cl : List vw_C} {A : Nat → Prop} {H0 : Heap} {tys : List (ClassId × FieldType)} {ws w1 : va_W} {sa : Nat → Nat}
theorem hI_call {a9 : Array Value} {h0 sz : Nat} {Z0 : va_W} (hr : va_Run p l e R s m args below meth c H locs cells slots 9 786 (F0 m pc ls st0) rest (hI_Q D h0 (va_A Z0 sz) a9) (va_A Z0 sz)) (hS : va_S A H0 H locs) (hsub : ∀ q, va_A Z0 sz q → A q)
    (kk : ∀ (H1 : Heap) (locs1 : List Loc) (ca a q : Nat → Nat), a 0 = h0 → va_P D hCl (wH ca a q (fun _ => 0) (fun _ => 0) (fun _ => false) (fun _ => 0) iB iP iS) H1 → va_K D hCl (tyH ca) s → va_D (va_A Z0 sz) (wH ca a q (fun _ => 0) (fun _ => 0) (fun _ => false) (fun _ => 0) iB iP iS) → (∀ q : Nat, q < H.size → ¬ va_A Z0 sz q → H1[q]? = H[q]?) → va_S A H0 H1 locs1 → W p l e R s m args below meth c H1 locs1 (cells + 9) (slots + 786) Q (F0 m (pc + 3) ls rest)) : W p l e R s m args below meth c H locs cells slots Q (F0 m pc ls st0) := by
  intro T hT X
  obtain ⟨v, st₀, t, T', L, h0', X', hL, e1, e2, ⟨hv, ca, a, q, ha, hp, hk, hd, hz, hf⟩, st⟩ := hr T hT X
  cases hv
  rw [h0'] at hz hf
  have hal : s.vm.Alike t.vm := by rw [← e2]; exact X'.warmed.alike
  obtain ⟨t2, a1, b1⟩ := kk T'.heap (locs ++ L) ca a q ha (by rw [e1]; exact hp) (va_K.moved hal.symm hk) hd (fun q h1 h2 => by rw [e1]; exact hf q h1 h2)
    ⟨Nat.le_trans hS.1 (by rw [e1]; exact hz), fun q h1 h2 => by rw [e1, hf q (Nat.lt_of_lt_of_le h1 hS.1) (fun z => h2 (hsub q z))]; exact hS.2.1 q h1 h2, fun q hq => by
      rcases List.mem_append.mp hq with h | h
      · exact hS.2.2 q h
      · exact hsub _ (hL q h)⟩ T' rfl X'
  exact ⟨t2, st t2 a1, b1⟩
theorem mI_call {a9 : Array Value} {h0 sz : Nat} {Z0 : va_W} (hr : va_Run p l e R s m args below meth c H locs cells slots 12 1806 (F0 m pc ls st0) rest (mI_Q D h0 (va_A Z0 sz) a9) (va_A Z0 sz)) (hS : va_S A H0 H locs) (hsub : ∀ q, va_A Z0 sz q → A q)
    (kk : ∀ (H1 : Heap) (locs1 : List Loc) (ca a : Nat → Nat), a 0 = h0 → va_P D mCl (wM ca a 0 (fun _ => false) (fun _ => 0) (fun _ => 0) jP jB jS (fun _ => 0) 0 (fun _ => 0) (fun _ => 0) (fun _ => false) (fun _ => 0) (fun _ => 0)) H1 → va_K D mCl (tyM ca) s → va_D (va_A Z0 sz) (wM ca a 0 (fun _ => false) (fun _ => 0) (fun _ => 0) jP jB jS (fun _ => 0) 0 (fun _ => 0) (fun _ => 0) (fun _ => false) (fun _ => 0) (fun _ => 0)) → (∀ q : Nat, q < H.size → ¬ va_A Z0 sz q → H1[q]? = H[q]?) → va_S A H0 H1 locs1 → W p l e R s m args below meth c H1 locs1 (cells + 12) (slots + 1806) Q (F0 m (pc + 3) ls rest)) : W p l e R s m args below meth c H locs cells slots Q (F0 m pc ls st0) := by
  intro T hT X
  obtain ⟨v, st₀, t, T', L, h0', X', hL, e1, e2, ⟨hv, ca, a, ha, hp, hk, hd, hz, hf⟩, st⟩ := hr T hT X
  cases hv
  rw [h0'] at hz hf
  have hal : s.vm.Alike t.vm := by rw [← e2]; exact X'.warmed.alike
  obtain ⟨t2, a1, b1⟩ := kk T'.heap (locs ++ L) ca a ha (by rw [e1]; exact hp) (va_K.moved hal.symm hk) hd (fun q h1 h2 => by rw [e1]; exact hf q h1 h2)
    ⟨Nat.le_trans hS.1 (by rw [e1]; exact hz), fun q h1 h2 => by rw [e1, hf q (Nat.lt_of_lt_of_le h1 hS.1) (fun z => h2 (hsub q z))]; exact hS.2.1 q h1 h2, fun q hq => by
      rcases List.mem_append.mp hq with h | h
      · exact hS.2.2 q h
      · exact hsub _ (hL q h)⟩ T' rfl X'
  exact ⟨t2, st t2 a1, b1⟩
theorem hI_blind {h0 sz : Nat} : FrameBlind (va_Pc [.ref h0] (fun U => va_AO R_Part U ∧ U.heap.size = sz ∧ va_P D hCl ws U.heap ∧ va_K D hCl tys U ∧ va_D (fun _ => True) ws)) := fun a U g mk q => ⟨q.1, va_AO.moved (u := U) (U := U.calling g mk a) (Vm.Alike.refl U.vm) q.2.1, q.2.2.1, q.2.2.2.1, va_K.moved (u := U) (U := U.calling g mk a) (Vm.Alike.refl U.vm) q.2.2.2.2.1, q.2.2.2.2.2⟩
theorem mI_blind {h0 sz : Nat} : FrameBlind (va_Pc [.ref h0] (fun U => U.heap.size = sz ∧ va_P D mCl ws U.heap ∧ va_K D mCl tys U ∧ va_D (fun _ => True) ws)) := fun a U g mk q => ⟨q.1, q.2.1, q.2.2.1, va_K.moved (u := U) (U := U.calling g mk a) (Vm.Alike.refl U.vm) q.2.2.2.1, q.2.2.2.2⟩
end HLE
