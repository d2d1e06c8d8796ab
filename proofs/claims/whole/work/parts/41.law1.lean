/-! rows of the law: a world with one cell ahead, calls that tell what stays -/
abbrev oc (o co : Nat) (f : Nat → Int64) : Nat × va_E := (o, .inl (co, 1, .inr (.inl f)))
def ncP : List (String × String) := [("java/lang/ArithmeticException", "java/lang/IndexOutOfBoundsException"), ("java/util/NoSuchElementException", "java/lang/IndexOutOfBoundsException"), ("java/lang/IllegalArgumentException", "java/lang/IndexOutOfBoundsException"), ("java/util/NoSuchElementException", "java/lang/IllegalArgumentException")]
def xN (U : State) : Prop := ∀ x ∈ ncP, va_Nc x.1 x.2 U
theorem xN.moved {u U : State} (hvm : u.vm.Alike U.vm) (h : xN u) : xN U := fun x hx => va_Nc.moved hvm (h x hx)
theorem P_tl {D : va_G} {cl : List vw_C} {x : Nat × va_E} {ws : va_W} {H : Heap} (h : va_P D cl (x :: ws) H) : va_P D cl ws H := fun k q hk => h (k + 1) q hk
theorem P_cons {D : va_G} {cl : List vw_C} {x : Nat × va_E} {ws : va_W} {H : Heap} (h0 : va_at D cl x H) (h : va_P D cl ws H) : va_P D cl (x :: ws) H := fun k q hk => by
  cases k with
  | zero => cases hk; exact h0
  | succ k => exact h k q hk
theorem D_tl {A : Nat → Prop} {x : Nat × va_E} {ws : va_W} (h : va_D A (x :: ws)) : va_D A ws := ⟨fun i j p q hi hj e => Nat.succ.inj (h.1 (i + 1) (j + 1) p q hi hj e), fun k q hk => h.2 (k + 1) q hk⟩
theorem D_hd {A : Nat → Prop} {x : Nat × va_E} {ws : va_W} (h : va_D A (x :: ws)) : ¬ hA ws x.1 := fun hq => by
  obtain ⟨k, e, hk⟩ := hq
  have := h.1 0 (k + 1) x (x.1, e) rfl hk rfl
  omega
theorem D_cons {A : Nat → Prop} {x : Nat × va_E} {ws : va_W} (hx : A x.1) (h : va_D A ws) (hn : ¬ hA ws x.1) : va_D A (x :: ws) := by
  refine ⟨fun i j p q hi hj e => ?_, fun k q hk => ?_⟩
  · cases i with
    | zero =>
      cases j with
      | zero => rfl
      | succ j => cases hi; exact absurd ⟨j, q.2, by rw [e]; exact hj⟩ hn
    | succ i =>
      cases j with
      | zero => cases hj; exact absurd ⟨i, p.2, by rw [← e]; exact hi⟩ hn
      | succ j => rw [h.1 i j p q hi hj e]
  · cases k with
    | zero => cases hk; exact hx
    | succ k => exact h.2 k q hk
theorem K_tl {D : va_G} {cl : List vw_C} {x : ClassId × FieldType} {tys : List (ClassId × FieldType)} {U : State} (h : va_K D cl (x :: tys) U) : va_K D cl tys U := ⟨h.1, fun k q hk => h.2 (k + 1) q hk⟩
theorem hA_cons {x : Nat × va_E} {ws : va_W} {q : Nat} (h : hA ws q) : hA (x :: ws) q := by
  obtain ⟨k, e, hk⟩ := h
  exact ⟨k + 1, e, hk⟩
section HLA
variable {p : Program} {l : Launch} {e : Env} {R : Room} {s : State} {m : MethodId} {args : Array Value} {below : List Frame} {meth : Method} {c : Code} {H : Heap} {locs : List Loc} {cells slots : Nat} {Q : State → Prop}
variable {cc : ByteArray} {pc nL : Nat} {ls : Array Slot} {rest st0 : List Value} {D : va_G} {cl : List vw_C} {A : Nat → Prop} {H0 : Heap} {tys : List (ClassId × FieldType)} {ws w1 : va_W} {sa : Nat → Nat}
theorem hX_callF {a : Array Value} {r : Option Value ⊕ String} {mc ms : Nat} (hr : vx_Run p l e R s m args below meth c H locs cells slots mc ms (F0 m pc ls st0) rest (hX_Q r D cl w1 (hA ws) a) (hX_X r D cl w1 (hA ws)) (hA ws)) (hD : va_D A ws) (hD1 : va_D A w1) (hS : va_S A s.heap H locs) (kx : ∀ (E : String) (ce : Cell) (q9 : Addr) (H1 : Heap) (locs1 : List Loc), r = .inr E → va_P D cl w1 H1 → va_D A w1 → va_S A s.heap H1 locs1 → H1[q9]? = some ce → ce.vm = .none → s.vm.findClass E = some ce.cls → (∀ q : Nat, q < H.size → ¬ hA ws q → H1[q]? = H[q]?) → vx_W p l e R s m args below meth c H1 locs1 (cells + mc) (slots + ms) Q (F0 m pc ls rest) q9) (kk : ∀ (v : Option Value) (H1 : Heap) (locs1 : List Loc), r = .inl v → va_P D cl w1 H1 → va_D A w1 → va_S A s.heap H1 locs1 → (∀ q : Nat, q < H.size → ¬ hA ws q → H1[q]? = H[q]?) → W p l e R s m args below meth c H1 locs1 (cells + mc) (slots + ms) Q (F0 m (pc + 3) ls (v.toList ++ rest))) : W p l e R s m args below meth c H locs cells slots Q (F0 m pc ls st0) := by
  intro T hT X
  rcases hr T hT X with ⟨v, st₀, t, T', L, h0, X', hL, e1, e2, ⟨v', hv, ho, hp, hF⟩, st⟩ | ⟨q, st₀, t, T', L, E, ce, h0, X', hL, e1, e2, ⟨hv, hp, hF⟩, hce, hcv, hcl, st⟩
  · cases ho
    obtain ⟨k1, k2, k3⟩ := vx_keep h0 e1 hS (fun q _ z => hA_sub hD q z) (hA_sub hD) hL hF
    obtain ⟨t2, a1, b1⟩ := kk v T'.heap (locs ++ L) hv (by rw [e1]; exact hp) hD1 k3 k2 T' rfl X'
    exact ⟨t2, st t2 a1, b1⟩
  · obtain ⟨k1, k2, k3⟩ := vx_keep h0 e1 hS (fun q _ z => hA_sub hD q z) (hA_sub hD) hL hF
    obtain ⟨t2, a1, b1⟩ := kx E ce q T'.heap (locs ++ L) hv (by rw [e1]; exact hp) hD1 k3 (by rw [e1]; exact hce) hcv hcl k2 T' rfl X'
    exact ⟨t2, st.trans a1, b1⟩
variable {y : MethodName} {bytes : ByteArray} {maxL mc ms n index : Nat} {ret : Option FieldType} {wy : List Cond} {rm : Room} {Ts : List Cond} {own C : String} {b : Addr} {As : List Value}
theorem hX_VF {r : Option Value ⊕ String} (S : CallFix p m c cc nL s args Ts own) (hM : vx_Met l y wy rm (va_Pc (.ref b :: As) (hb_X D cl ws tys sa)) (hX_Q r D cl w1 (hA ws)) (hX_X r D cl w1 (hA ws)) mc ms (hA ws)) (cw : CallW R s args own C index y bytes maxL ret wy rm mc ms n) (hP : va_P D cl ws H) (hK : va_K D cl tys s) (hD : va_D A ws) (hD1 : va_D A w1) (hS : va_S A s.heap H locs) (hF : xF sa s) (hZ : xZ A s s.heap) (hrec : ∃ cellB : Cell, H[b]? = some cellB ∧ cellB.vm.isStatics = false ∧ s.vm.findClass C = some cellB.cls)
    (hn : As.length = n) (hsz : ls.size = nL) (hst : st0 = As.reverse ++ .ref b :: rest) (hrm : (rest.map fun v => v.category).sum ≤ 8) (hf : cells + mc ≤ R.cells ∧ slots + ms ≤ R.slots) (d : decode cc pc = .ok (.invokevirtual index, 3)) (kx : ∀ (E : String) (ce : Cell) (q9 : Addr) (H1 : Heap) (locs1 : List Loc), r = .inr E → va_P D cl w1 H1 → va_D A w1 → va_S A s.heap H1 locs1 → H1[q9]? = some ce → ce.vm = .none → s.vm.findClass E = some ce.cls → (∀ q : Nat, q < H.size → ¬ hA ws q → H1[q]? = H[q]?) → vx_W p l e R s m args below meth c H1 locs1 (cells + mc) (slots + ms) Q (F0 m pc ls rest) q9) (kk : ∀ (v : Option Value) (H1 : Heap) (locs1 : List Loc), r = .inl v → va_P D cl w1 H1 → va_D A w1 → va_S A s.heap H1 locs1 → (∀ q : Nat, q < H.size → ¬ hA ws q → H1[q]? = H[q]?) → W p l e R s m args below meth c H1 locs1 (cells + mc) (slots + ms) Q (F0 m (pc + 3) ls (v.toList ++ rest))) : W p l e R s m args below meth c H locs cells slots Q (F0 m pc ls st0) :=
  hX_callF (vx_runV (As := As) (rest := rest) S hM cw ⟨hb_blindX, hrec, hb_preX hP hK hD hS hF hZ⟩ rfl hn hsz hst (lv_room hrm) d hf) hD hD1 hS kx kk
theorem lv_lcmpE (hexec : p.tables.exec = Jvm.exec) (hb : c.code = cc) {x : Int64} (hdg : decode cc pc = .ok (.lcmp, 1)) (k : W p l e R s m args below meth c H locs cells slots Q (F0 m (pc + 1) ls (.int 0 :: rest))) : W p l e R s m args below meth c H locs cells slots Q (F0 m pc ls (.long x :: .long x :: rest)) := by
  intro T hT X
  obtain ⟨t, a, b⟩ := k T hT X
  refine ⟨t, ?_, b⟩
  jvm_step X.here [X.here.top, hexec, hb, hdg]
  exact a
end HLA
theorem cst_io : Cond.castable "java/lang/IndexOutOfBoundsException" "java/lang/IndexOutOfBoundsException" ∈ wsF := List.mem_filter.mpr ⟨List.mem_of_getElem? (i := 115) (by decide +kernel), by decide +kernel⟩
theorem cst_ae : Cond.castable "java/lang/ArithmeticException" "java/lang/ArithmeticException" ∈ wsF := List.mem_filter.mpr ⟨List.mem_of_getElem? (i := 266) (by decide +kernel), by decide +kernel⟩
theorem cst_ns : Cond.castable "java/util/NoSuchElementException" "java/util/NoSuchElementException" ∈ wsF := List.mem_filter.mpr ⟨List.mem_of_getElem? (i := 294) (by decide +kernel), by decide +kernel⟩
theorem cst_ia : Cond.castable "java/lang/IllegalArgumentException" "java/lang/IllegalArgumentException" ∈ wsF := List.mem_filter.mpr ⟨List.mem_of_getElem? (i := 350) (by decide +kernel), by decide +kernel⟩
