theorem gSW {own : String} {idx : Nat} {y : MethodName} {b : ByteArray} {n : Nat} {r : Option FieldType} {hh : List (Nat × Nat × Nat × Nat)} (h1 : Cond.methodLink own idx y ∈ wsA) (h2 : Cond.static y ∈ wsA) (h4 : Cond.initialized y.cls ∈ wsA) (h5 : Cond.codeWith y b n r hh ∈ wsA) : GoodIn wsA (va_wsS own idx y (Cond.codeWith y b n r hh :: wsA)) := gI fun w hw => by
  unfold va_wsS at hw
  rcases List.mem_append.mp hw with hw | hw
  · simp only [List.mem_cons, List.not_mem_nil, or_false] at hw
    rcases hw with rfl | rfl | rfl
    · exact h1
    · exact h2
    · exact h4
  · rcases List.mem_cons.mp hw with rfl | hw
    · exact h5
    · exact hw
theorem g_Law_put : GoodIn wsA (va_wsS R_Law 64 y_Law_put w_Law_put) := gSW m_100 m_101 m_39 m_102
theorem g_Law_Mod_put : GoodIn wsA (wsV R_Law 69 R_Mod y_Mod_put w_Mod_put) := gV m_469 m_470 m_471 m_42 m_472
theorem g_Law_get : GoodIn wsA (va_wsS R_Law 74 y_Law_get w_Law_get) := gSW m_280 m_281 m_39 m_282
theorem g_Law_Mod_get : GoodIn wsA (wsV R_Law 77 R_Mod y_Mod_get w_Mod_get) := gV m_539 m_540 m_541 m_42 m_542
theorem g_Law_remove : GoodIn wsA (va_wsS R_Law 78 y_Law_remove w_Law_remove) := gSW m_308 m_309 m_39 m_310
theorem g_Law_Mod_remove : GoodIn wsA (wsV R_Law 80 R_Mod y_Mod_remove w_Mod_remove) := gV m_547 m_548 m_549 m_42 m_550
theorem g_Law_has : GoodIn wsA (va_wsS R_Law 81 y_Law_has w_Law_has) := gSW m_315 m_316 m_39 m_317
theorem g_Law_Mod_has : GoodIn wsA (wsV R_Law 83 R_Mod y_Mod_has w_Mod_has) := gV m_551 m_552 m_553 m_42 m_554
theorem g_Law_size : GoodIn wsA (va_wsS R_Law 84 y_Law_size w_Law_size) := gSW m_322 m_323 m_39 m_324
theorem g_Law_Mod_size : GoodIn wsA (wsV R_Law 87 R_Mod y_Mod_size w_Mod_size) := gV m_555 m_556 m_557 m_42 m_558
theorem g_Law_clear : GoodIn wsA (va_wsS R_Law 88 y_Law_clear w_Law_clear) := gSW m_333 m_334 m_39 m_335
theorem g_Law_Mod_clear : GoodIn wsA (wsV R_Law 90 R_Mod y_Mod_clear w_Mod_clear) := gV m_563 m_564 m_565 m_42 m_566
theorem g_Law_about : GoodIn wsA (va_wsS R_Law 91 y_Law_about w_Law_about) := gSW m_340 m_341 m_39 m_342
theorem g_Law_Mod_about : GoodIn wsA (wsV R_Law 93 R_Mod y_Mod_about w_Mod_about) := gV m_567 m_568 m_569 m_42 m_570
theorem g_Law_home : GoodIn wsA (va_wsS R_Law 94 y_Law_home w_Law_home) := gSW m_364 m_365 m_39 m_366
theorem g_Law_Mod_home : GoodIn wsA (wsV R_Law 96 R_Mod y_Mod_home w_Mod_home) := gV m_571 m_572 m_573 m_42 m_574
theorem g_Law_distance : GoodIn wsA (va_wsS R_Law 97 y_Law_distance w_Law_distance) := gSW m_371 m_372 m_39 m_373
theorem g_Law_Mod_distance : GoodIn wsA (wsV R_Law 99 R_Mod y_Mod_distance w_Mod_distance) := gV m_575 m_576 m_577 m_42 m_578
theorem g_Law_bits : GoodIn wsA (va_wsS R_Law 100 y_Law_bits w_Law_bits) := gSW m_378 m_379 m_39 m_380
theorem g_Law_Mod_bits : GoodIn wsA (wsV R_Law 102 R_Mod y_Mod_bits w_Mod_bits) := gV m_583 m_584 m_585 m_42 m_586
theorem g_Law_next : GoodIn wsA (va_wsS R_Law 103 y_Law_next w_Law_next) := gSW m_393 m_394 m_39 m_395
theorem g_Law_Mod_next : GoodIn wsA (wsV R_Law 105 R_Mod y_Mod_next w_Mod_next) := gV m_595 m_596 m_597 m_42 m_598
theorem g_Law_key : GoodIn wsA (va_wsS R_Law 106 y_Law_key w_Law_key) := gSW m_400 m_401 m_39 m_402
theorem g_Law_Mod_key : GoodIn wsA (wsV R_Law 108 R_Mod y_Mod_key w_Mod_key) := gV m_599 m_600 m_601 m_42 m_602
theorem g_Law_count : GoodIn wsA (va_wsS R_Law 109 y_Law_count w_Law_count) := gSW m_408 m_409 m_39 m_410
theorem g_Law_Mod_count : GoodIn wsA (wsV R_Law 111 R_Mod y_Mod_count w_Mod_count) := gV m_603 m_604 m_605 m_42 m_606
theorem g_Law_Mod_thrown : GoodIn wsA (wsV R_Law 70 R_Mod y_Mod_thrown w_Mod_thrown) := gV m_465 m_466 m_467 m_42 m_468
/-! the law: calls out of its own body -/
def LI (D : va_G) (ca a cm am : Nat → Nat) (o co : Nat) (A : Nat → Prop) (s : State) (H : Heap) (locs : List Loc) (q : Nat → Nat) (Z : HS) (f : Nat → Int64) (z : Int32) (Z' : HS) (O : OS) : Prop :=
  va_P D hCl (oc o co f :: wHZ ca a q Z) H ∧ va_P D mCl (wMZ cm am z Z' O) H ∧ va_D A (oc o co f :: wHZ ca a q Z) ∧ va_D A (wMZ cm am z Z' O) ∧ (∀ x, hA (oc o co f :: wHZ ca a q Z) x → ¬ hA (wMZ cm am z Z' O) x) ∧ va_S A s.heap H locs ∧ Sim Z Z'
def LK (l : Launch) (D : va_G) (ca cm sa : Nat → Nat) (co : Nat) (A : Nat → Prop) (s : State) (b L : Nat) (xs : Nat → Int32) : Prop :=
  l.stackTraces = false ∧ va_K D hCl ((co, .long) :: tyH ca) s ∧ va_K D mCl (tyM cm) s ∧ xF sa s ∧ xZ A s s.heap ∧ xN s ∧ va_X b L xs s s.heap ∧ b < s.heap.size ∧ ¬ A b
section HLB
variable {p : Program} {l : Launch} {e : Env} {R : Room} {s : State} {m : MethodId} {args : Array Value} {below : List Frame} {meth : Method} {c : Code} {H : Heap} {locs : List Loc} {cells slots : Nat} {Q : State → Prop}
variable {cc : ByteArray} {pc nL : Nat} {ls : Array Slot} {rest st0 : List Value} {D : va_G} {cl : List vw_C} {A : Nat → Prop} {H0 : Heap} {tys : List (ClassId × FieldType)} {ws w1 : va_W} {sa : Nat → Nat}
variable {wc : va_W}
theorem hw_callN {a : Array Value} {v : Option Value} {mc ms : Nat} (hr : va_Run p l e R s m args below meth c H locs cells slots mc ms (F0 m pc ls st0) rest (hq_W v D cl w1 (hA wc) a) (hA wc)) (hS : va_S A H0 H locs) (hsub : ∀ x, hA wc x → A x)
    (kk : ∀ (H1 : Heap) (locs1 : List Loc), va_P D cl w1 H1 → (∀ q : Nat, q < H.size → ¬ hA wc q → H1[q]? = H[q]?) → va_S A H0 H1 locs1 → W p l e R s m args below meth c H1 locs1 (cells + mc) (slots + ms) Q (F0 m (pc + 3) ls (v.toList ++ rest))) : W p l e R s m args below meth c H locs cells slots Q (F0 m pc ls st0) := by
  intro T hT X
  obtain ⟨v', st₀, t, T', L, h0, X', hL, e1, e2, ⟨hv, hp, hz, hk⟩, st⟩ := hr T hT X
  cases hv
  rw [h0] at hz hk
  obtain ⟨t2, a1, b1⟩ := kk T'.heap (locs ++ L) (by rw [e1]; exact hp) (fun q h1 h2 => by rw [e1]; exact hk q h1 h2)
    ⟨Nat.le_trans hS.1 (by rw [e1]; exact hz), fun q h1 h2 => by rw [e1, hk q (Nat.lt_of_lt_of_le h1 hS.1) (fun z => h2 (hsub q z))]; exact hS.2.1 q h1 h2, fun q hq => by
      rcases List.mem_append.mp hq with h | h
      · exact hS.2.2 q h
      · exact hsub _ (hL q h)⟩ T' rfl X'
  exact ⟨t2, st t2 a1, b1⟩
theorem lb_blind {av : List Value} : FrameBlind (va_Pc av (fun U => hb_X D cl ws tys sa U ∧ xN U)) := fun a U g mk q => ⟨q.1, ⟨q.2.1.1, va_K.moved (u := U) (U := U.calling g mk a) (Vm.Alike.refl U.vm) q.2.1.2.1, q.2.1.2.2.1, xF.same (u := U) (U := U.calling g mk a) rfl q.2.1.2.2.2.1, xZ.moved (u := U) (U := U.calling g mk a) (Vm.Alike.refl U.vm) q.2.1.2.2.2.2⟩, xN.moved (u := U) (U := U.calling g mk a) (Vm.Alike.refl U.vm) q.2.2⟩
theorem lb_pre {As : List Value} (hP : va_P D cl ws H) (hK : va_K D cl tys s) (hD : va_D A ws) (hS : va_S A s.heap H locs) (hF : xF sa s) (hZ : xZ A s s.heap) (hN : xN s) : PreS s H (va_Pc As (fun U => hb_X D cl ws tys sa U ∧ xN U)) As :=
  ⟨lb_blind, fun U hU hW => ⟨rfl, (hb_preX (As := As) hP hK hD hS hF hZ U hU hW).2, hN.moved hW.alike⟩⟩
end HLB
theorem hA_cs {o co : Nat} {f f1 : Nat → Int64} {ws w1 : va_W} (hsub : ∀ x, hA w1 x → hA ws x) : ∀ x, hA (oc o co f1 :: w1) x → hA (oc o co f :: ws) x := fun x h => by
  obtain ⟨k, e, hk⟩ := h
  cases k with
  | zero => cases hk; exact ⟨0, _, rfl⟩
  | succ k => exact hA_cons (hsub x ⟨k, e, hk⟩)
theorem P_far {D : va_G} {cl : List vw_C} {ws wc : va_W} {H H1 : Heap} (h : va_P D cl ws H) (hf : ∀ q : Nat, q < H.size → ¬ hA wc q → H1[q]? = H[q]?) (hd : ∀ x, hA ws x → ¬ hA wc x) : va_P D cl ws H1 :=
  h.kept (fun k q hk => hf q.1 (h k q hk).lt (hd q.1 ⟨k, q.2, hk⟩))
