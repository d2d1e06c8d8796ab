theorem pw_subN {c x y : Nat} (h : pw c) (hx : x < 2 ^ 30) (hy : y ≤ c) : (nI x - nI y) &&& (nI c - 1) = nI ((x + c - y) % c) := by
  have hc := pw_le h
  have e : (nI x - nI y).toBitVec.toNat = (2 ^ 32 - y + x) % 2 ^ 32 := by
    rw [Int32.toBitVec_sub, BitVec.toNat_sub, pk_tn (by omega), pk_tn (by omega)]
  rw [pw_and h, e]
  congr 1
  rcases h with rfl | rfl | rfl | rfl | rfl <;> omega
theorem nI_neg (x : Int32) (y : Nat) : x + -(nI y) = x - nI y := by
  rw [Int32.sub_eq_add_neg]
/-- the last place that holds the key, among the first n -/
def plF (F : BT) (K : IT) (o : Nat) (key : Int32) : Nat → Option Nat
  | 0 => none
  | n + 1 => if F (o + n) = true ∧ K (o + n) = key then some n else plF F K o key n
theorem plF_lt {F : BT} {K : IT} {o : Nat} {key : Int32} : ∀ (n k : Nat), plF F K o key n = some k → k < n ∧ F (o + k) = true ∧ K (o + k) = key := by
  intro n
  induction n with
  | zero =>
    intro k h
    cases h
  | succ n ih =>
    intro k h
    have h : (if F (o + n) = true ∧ K (o + n) = key then some n else plF F K o key n) = some k := h
    by_cases hz : F (o + n) = true ∧ K (o + n) = key
    · rw [if_pos hz] at h
      cases h
      exact ⟨Nat.lt_succ_self _, hz⟩
    · rw [if_neg hz] at h
      have := ih k h
      exact ⟨Nat.lt_succ_of_lt this.1, this.2⟩
def hpP (c f : Nat) (r : Option (Nat × Nat)) : Option Nat := match r with
  | some x => some (((f + c - x.1) % c + x.2) % c)
  | none => none
def cpL (f : IT) (g : IT) (o n : Nat) : IT := fun i => if i < n then g (o + i) else f i
def cpLB (f : BT) (g : BT) (o n : Nat) : BT := fun i => if i < n then g (o + i) else f i
def pbL (f : IT) (g : IT) (o n : Nat) : IT := fun i => if o ≤ i ∧ i < o + n then g (i - o) else f i
def pbB (f : BT) (g : BT) (o n : Nat) : BT := fun i => if o ≤ i ∧ i < o + n then g (i - o) else f i
theorem cpL_0 (f g : IT) (o : Nat) : cpL f g o 0 = f := by
  funext i
  exact if_neg (Nat.not_lt_zero _)
theorem cpLB_0 (f g : BT) (o : Nat) : cpLB f g o 0 = f := by
  funext i
  exact if_neg (Nat.not_lt_zero _)
theorem cpL_s (f g : IT) (o n : Nat) : upd (cpL f g o n) n (g (o + n)) = cpL f g o (n + 1) := by
  funext i
  unfold upd cpL
  by_cases h : i = n
  · rw [if_pos h, if_pos (by omega), h]
  · rw [if_neg h]
    by_cases h2 : i < n
    · rw [if_pos h2, if_pos (by omega)]
    · rw [if_neg h2, if_neg (by omega)]
theorem cpLB_s (f g : BT) (o n : Nat) : va_up (cpLB f g o n) n (g (o + n)) = cpLB f g o (n + 1) := by
  funext i
  unfold va_up cpLB
  by_cases h : i = n
  · rw [if_pos h, if_pos (by omega), h]
  · rw [if_neg h]
    by_cases h2 : i < n
    · rw [if_pos h2, if_pos (by omega)]
    · rw [if_neg h2, if_neg (by omega)]
theorem pbL_0 (f g : IT) (o : Nat) : pbL f g o 0 = f := by
  funext i
  exact if_neg (by omega)
theorem pbB_0 (f g : BT) (o : Nat) : pbB f g o 0 = f := by
  funext i
  exact if_neg (by omega)
theorem pbL_s (f g : IT) (o n : Nat) : upd (pbL f g o n) (o + n) (g n) = pbL f g o (n + 1) := by
  funext i
  unfold upd pbL
  by_cases h : i = o + n
  · rw [if_pos h, if_pos (by omega), h, show o + n - o = n by omega]
  · rw [if_neg h]
    by_cases h2 : o ≤ i ∧ i < o + n
    · rw [if_pos h2, if_pos (by omega)]
    · rw [if_neg h2, if_neg (by omega)]
theorem pbB_s (f g : BT) (o n : Nat) : va_up (pbB f g o n) (o + n) (g n) = pbB f g o (n + 1) := by
  funext i
  unfold va_up pbB
  by_cases h : i = o + n
  · rw [if_pos h, if_pos (by omega), h, show o + n - o = n by omega]
  · rw [if_neg h]
    by_cases h2 : o ≤ i ∧ i < o + n
    · rw [if_pos h2, if_pos (by omega)]
    · rw [if_neg h2, if_neg (by omega)]
/-! the reference: its cells, its words -/
abbrev mCl : List vw_C := [(R_Hop, F_Hop, 6), (R_Part, F_Part, 3), (R_Mod, F_Mod, 14)]
def wM (ca a : Nat → Nat) (z : Int32) (F : BT) (K V : IT) (P B : Nat → Nat) (S C : IT) (N : Nat) (HK HV : IT) (OF : BT) (OK OV : IT) : va_W :=
  [(a 0, .inr (2, [.int z, .ref (a 1), .ref (a 2), .ref (a 3), .ref (a 4), .ref (a 5), .ref (a 6), .ref (a 7), .int (nI N), .ref (a 8), .ref (a 9), .ref (a 10), .ref (a 11), .ref (a 12)])), (a 1, .inl (ca 1, 384, .inl (fun i => bI (F i)))), (a 2, .inl (ca 2, 384, .inl K)), (a 3, .inl (ca 3, 384, .inl V)), (a 4, .inl (ca 4, 3, .inl (fun i => nI (P i)))), (a 5, .inl (ca 5, 3, .inl (fun i => nI (B i)))), (a 6, .inl (ca 6, 3, .inl S)), (a 7, .inl (ca 7, 3, .inl C)), (a 8, .inl (ca 8, 129, .inl HK)), (a 9, .inl (ca 9, 129, .inl HV)), (a 10, .inl (ca 10, 128, .inl (fun i => bI (OF i)))), (a 11, .inl (ca 11, 128, .inl OK)), (a 12, .inl (ca 12, 128, .inl OV))]
def tyM (ca : Nat → Nat) : List (ClassId × FieldType) := [(ca 1, .boolean), (ca 2, .int), (ca 3, .int), (ca 4, .int), (ca 5, .int), (ca 6, .int), (ca 7, .int), (ca 8, .int), (ca 9, .int), (ca 10, .boolean), (ca 11, .int), (ca 12, .int)]
theorem wM_a {ca a : Nat → Nat} {z : Int32} {F : BT} {K V : IT} {P B : Nat → Nat} {S C : IT} {N : Nat} {HK HV : IT} {OF : BT} {OK OV : IT} {z' : Int32} {F' : BT} {K' : IT} {V' : IT} {P' : Nat → Nat} {B' : Nat → Nat} {S' : IT} {C' : IT} {N' : Nat} {HK' : IT} {HV' : IT} {OF' : BT} {OK' : IT} {OV' : IT} : (wM ca a z F K V P B S C N HK HV OF OK OV).map (fun x => x.1) = (wM ca a z' F' K' V' P' B' S' C' N' HK' HV' OF' OK' OV').map (fun x => x.1) := rfl
theorem nI_upd (P : Nat → Nat) (i x : Nat) : upd (fun i => nI (P i)) i (nI x) = fun k => nI (va_up P i x k) := by
  funext k
  unfold upd va_up
  by_cases h : k = i
  · rw [if_pos h, if_pos h]
  · rw [if_neg h, if_neg h]
section MWA
variable {p : Program} {l : Launch} {e : Env} {R : Room} {s : State} {m : MethodId} {args : Array Value} {below : List Frame} {meth : Method} {c : Code} {H : Heap} {locs : List Loc} {cells slots : Nat} {Q : State → Prop}
variable {cc : ByteArray} {pc nL : Nat} {ls : Array Slot} {rest st0 : List Value} {D : va_G} {A : Nat → Prop} {H0 : Heap} {tys : List (ClassId × FieldType)} {ca a : Nat → Nat} {z : Int32} {F : BT} {K V : IT} {P B : Nat → Nat} {S C : IT} {N : Nat} {HK HV : IT} {OF : BT} {OK OV : IT}
theorem mg_code (X : CallFix p m c cc nL s args wsA R_Mod) (hK : va_K D mCl (tyM ca) s) (hP : va_P D mCl (wM ca a z F K V P B S C N HK HV OF OK OV) H) (d : decode cc pc = .ok (.getfield 47, 3)) (k : W p l e R s m args below meth c H locs cells slots Q (F0 m (pc + 3) ls (.int z :: rest))) : W p l e R s m args below meth c H locs cells slots Q (F0 m pc ls (.ref (a 0) :: rest)) :=
  va_get (D := D) (ci := 2) (v := .int z) (C := R_Mod) (T := F_Mod) (N := 14) X.1 X.2.1 X.2.2.2.2 hin_Mod X.2.2.2.1 hK hP 0 rfl rfl 0 (by decide) (X.2.2.2.2 (.fieldLink R_Mod 47 "HopArenaModel" "code" "I") m_422) (fun _ h9 => h9) rfl d k
theorem mg_full (X : CallFix p m c cc nL s args wsA R_Mod) (hK : va_K D mCl (tyM ca) s) (hP : va_P D mCl (wM ca a z F K V P B S C N HK HV OF OK OV) H) (d : decode cc pc = .ok (.getfield 7, 3)) (k : W p l e R s m args below meth c H locs cells slots Q (F0 m (pc + 3) ls (.ref (a 1) :: rest))) : W p l e R s m args below meth c H locs cells slots Q (F0 m pc ls (.ref (a 0) :: rest)) :=
  va_get (D := D) (ci := 2) (v := .ref (a 1)) (C := R_Mod) (T := F_Mod) (N := 14) X.1 X.2.1 X.2.2.2.2 hin_Mod X.2.2.2.1 hK hP 0 rfl rfl 1 (by decide) (X.2.2.2.2 (.fieldLink R_Mod 7 "HopArenaModel" "full" "[Z") m_423) (fun _ h9 => h9) rfl d k
theorem mg_keys (X : CallFix p m c cc nL s args wsA R_Mod) (hK : va_K D mCl (tyM ca) s) (hP : va_P D mCl (wM ca a z F K V P B S C N HK HV OF OK OV) H) (d : decode cc pc = .ok (.getfield 13, 3)) (k : W p l e R s m args below meth c H locs cells slots Q (F0 m (pc + 3) ls (.ref (a 2) :: rest))) : W p l e R s m args below meth c H locs cells slots Q (F0 m pc ls (.ref (a 0) :: rest)) :=
  va_get (D := D) (ci := 2) (v := .ref (a 2)) (C := R_Mod) (T := F_Mod) (N := 14) X.1 X.2.1 X.2.2.2.2 hin_Mod X.2.2.2.1 hK hP 0 rfl rfl 2 (by decide) (X.2.2.2.2 (.fieldLink R_Mod 13 "HopArenaModel" "keys" "[I") m_424) (fun _ h9 => h9) rfl d k
theorem mg_values (X : CallFix p m c cc nL s args wsA R_Mod) (hK : va_K D mCl (tyM ca) s) (hP : va_P D mCl (wM ca a z F K V P B S C N HK HV OF OK OV) H) (d : decode cc pc = .ok (.getfield 17, 3)) (k : W p l e R s m args below meth c H locs cells slots Q (F0 m (pc + 3) ls (.ref (a 3) :: rest))) : W p l e R s m args below meth c H locs cells slots Q (F0 m pc ls (.ref (a 0) :: rest)) :=
  va_get (D := D) (ci := 2) (v := .ref (a 3)) (C := R_Mod) (T := F_Mod) (N := 14) X.1 X.2.1 X.2.2.2.2 hin_Mod X.2.2.2.1 hK hP 0 rfl rfl 3 (by decide) (X.2.2.2.2 (.fieldLink R_Mod 17 "HopArenaModel" "values" "[I") m_425) (fun _ h9 => h9) rfl d k
theorem mg_capacity (X : CallFix p m c cc nL s args wsA R_Mod) (hK : va_K D mCl (tyM ca) s) (hP : va_P D mCl (wM ca a z F K V P B S C N HK HV OF OK OV) H) (d : decode cc pc = .ok (.getfield 20, 3)) (k : W p l e R s m args below meth c H locs cells slots Q (F0 m (pc + 3) ls (.ref (a 4) :: rest))) : W p l e R s m args below meth c H locs cells slots Q (F0 m pc ls (.ref (a 0) :: rest)) :=
  va_get (D := D) (ci := 2) (v := .ref (a 4)) (C := R_Mod) (T := F_Mod) (N := 14) X.1 X.2.1 X.2.2.2.2 hin_Mod X.2.2.2.1 hK hP 0 rfl rfl 4 (by decide) (X.2.2.2.2 (.fieldLink R_Mod 20 "HopArenaModel" "capacity" "[I") m_426) (fun _ h9 => h9) rfl d k
theorem mg_base (X : CallFix p m c cc nL s args wsA R_Mod) (hK : va_K D mCl (tyM ca) s) (hP : va_P D mCl (wM ca a z F K V P B S C N HK HV OF OK OV) H) (d : decode cc pc = .ok (.getfield 23, 3)) (k : W p l e R s m args below meth c H locs cells slots Q (F0 m (pc + 3) ls (.ref (a 5) :: rest))) : W p l e R s m args below meth c H locs cells slots Q (F0 m pc ls (.ref (a 0) :: rest)) :=
  va_get (D := D) (ci := 2) (v := .ref (a 5)) (C := R_Mod) (T := F_Mod) (N := 14) X.1 X.2.1 X.2.2.2.2 hin_Mod X.2.2.2.1 hK hP 0 rfl rfl 5 (by decide) (X.2.2.2.2 (.fieldLink R_Mod 23 "HopArenaModel" "base" "[I") m_427) (fun _ h9 => h9) rfl d k
theorem mg_seed (X : CallFix p m c cc nL s args wsA R_Mod) (hK : va_K D mCl (tyM ca) s) (hP : va_P D mCl (wM ca a z F K V P B S C N HK HV OF OK OV) H) (d : decode cc pc = .ok (.getfield 26, 3)) (k : W p l e R s m args below meth c H locs cells slots Q (F0 m (pc + 3) ls (.ref (a 6) :: rest))) : W p l e R s m args below meth c H locs cells slots Q (F0 m pc ls (.ref (a 0) :: rest)) :=
  va_get (D := D) (ci := 2) (v := .ref (a 6)) (C := R_Mod) (T := F_Mod) (N := 14) X.1 X.2.1 X.2.2.2.2 hin_Mod X.2.2.2.1 hK hP 0 rfl rfl 6 (by decide) (X.2.2.2.2 (.fieldLink R_Mod 26 "HopArenaModel" "seed" "[I") m_428) (fun _ h9 => h9) rfl d k
theorem mg_counts (X : CallFix p m c cc nL s args wsA R_Mod) (hK : va_K D mCl (tyM ca) s) (hP : va_P D mCl (wM ca a z F K V P B S C N HK HV OF OK OV) H) (d : decode cc pc = .ok (.getfield 29, 3)) (k : W p l e R s m args below meth c H locs cells slots Q (F0 m (pc + 3) ls (.ref (a 7) :: rest))) : W p l e R s m args below meth c H locs cells slots Q (F0 m pc ls (.ref (a 0) :: rest)) :=
  va_get (D := D) (ci := 2) (v := .ref (a 7)) (C := R_Mod) (T := F_Mod) (N := 14) X.1 X.2.1 X.2.2.2.2 hin_Mod X.2.2.2.1 hK hP 0 rfl rfl 7 (by decide) (X.2.2.2.2 (.fieldLink R_Mod 29 "HopArenaModel" "counts" "[I") m_429) (fun _ h9 => h9) rfl d k
theorem mg_held (X : CallFix p m c cc nL s args wsA R_Mod) (hK : va_K D mCl (tyM ca) s) (hP : va_P D mCl (wM ca a z F K V P B S C N HK HV OF OK OV) H) (d : decode cc pc = .ok (.getfield 71, 3)) (k : W p l e R s m args below meth c H locs cells slots Q (F0 m (pc + 3) ls (.int (nI N) :: rest))) : W p l e R s m args below meth c H locs cells slots Q (F0 m pc ls (.ref (a 0) :: rest)) :=
  va_get (D := D) (ci := 2) (v := .int (nI N)) (C := R_Mod) (T := F_Mod) (N := 14) X.1 X.2.1 X.2.2.2.2 hin_Mod X.2.2.2.1 hK hP 0 rfl rfl 8 (by decide) (X.2.2.2.2 (.fieldLink R_Mod 71 "HopArenaModel" "held" "I") m_430) (fun _ h9 => h9) rfl d k
theorem mg_heldKeys (X : CallFix p m c cc nL s args wsA R_Mod) (hK : va_K D mCl (tyM ca) s) (hP : va_P D mCl (wM ca a z F K V P B S C N HK HV OF OK OV) H) (d : decode cc pc = .ok (.getfield 32, 3)) (k : W p l e R s m args below meth c H locs cells slots Q (F0 m (pc + 3) ls (.ref (a 8) :: rest))) : W p l e R s m args below meth c H locs cells slots Q (F0 m pc ls (.ref (a 0) :: rest)) :=
  va_get (D := D) (ci := 2) (v := .ref (a 8)) (C := R_Mod) (T := F_Mod) (N := 14) X.1 X.2.1 X.2.2.2.2 hin_Mod X.2.2.2.1 hK hP 0 rfl rfl 9 (by decide) (X.2.2.2.2 (.fieldLink R_Mod 32 "HopArenaModel" "heldKeys" "[I") m_431) (fun _ h9 => h9) rfl d k
theorem mg_heldValues (X : CallFix p m c cc nL s args wsA R_Mod) (hK : va_K D mCl (tyM ca) s) (hP : va_P D mCl (wM ca a z F K V P B S C N HK HV OF OK OV) H) (d : decode cc pc = .ok (.getfield 35, 3)) (k : W p l e R s m args below meth c H locs cells slots Q (F0 m (pc + 3) ls (.ref (a 9) :: rest))) : W p l e R s m args below meth c H locs cells slots Q (F0 m pc ls (.ref (a 0) :: rest)) :=
  va_get (D := D) (ci := 2) (v := .ref (a 9)) (C := R_Mod) (T := F_Mod) (N := 14) X.1 X.2.1 X.2.2.2.2 hin_Mod X.2.2.2.1 hK hP 0 rfl rfl 10 (by decide) (X.2.2.2.2 (.fieldLink R_Mod 35 "HopArenaModel" "heldValues" "[I") m_432) (fun _ h9 => h9) rfl d k
theorem mg_oldFull (X : CallFix p m c cc nL s args wsA R_Mod) (hK : va_K D mCl (tyM ca) s) (hP : va_P D mCl (wM ca a z F K V P B S C N HK HV OF OK OV) H) (d : decode cc pc = .ok (.getfield 38, 3)) (k : W p l e R s m args below meth c H locs cells slots Q (F0 m (pc + 3) ls (.ref (a 10) :: rest))) : W p l e R s m args below meth c H locs cells slots Q (F0 m pc ls (.ref (a 0) :: rest)) :=
  va_get (D := D) (ci := 2) (v := .ref (a 10)) (C := R_Mod) (T := F_Mod) (N := 14) X.1 X.2.1 X.2.2.2.2 hin_Mod X.2.2.2.1 hK hP 0 rfl rfl 11 (by decide) (X.2.2.2.2 (.fieldLink R_Mod 38 "HopArenaModel" "oldFull" "[Z") m_433) (fun _ h9 => h9) rfl d k
theorem mg_oldKeys (X : CallFix p m c cc nL s args wsA R_Mod) (hK : va_K D mCl (tyM ca) s) (hP : va_P D mCl (wM ca a z F K V P B S C N HK HV OF OK OV) H) (d : decode cc pc = .ok (.getfield 41, 3)) (k : W p l e R s m args below meth c H locs cells slots Q (F0 m (pc + 3) ls (.ref (a 11) :: rest))) : W p l e R s m args below meth c H locs cells slots Q (F0 m pc ls (.ref (a 0) :: rest)) :=
  va_get (D := D) (ci := 2) (v := .ref (a 11)) (C := R_Mod) (T := F_Mod) (N := 14) X.1 X.2.1 X.2.2.2.2 hin_Mod X.2.2.2.1 hK hP 0 rfl rfl 12 (by decide) (X.2.2.2.2 (.fieldLink R_Mod 41 "HopArenaModel" "oldKeys" "[I") m_434) (fun _ h9 => h9) rfl d k
theorem mg_oldValues (X : CallFix p m c cc nL s args wsA R_Mod) (hK : va_K D mCl (tyM ca) s) (hP : va_P D mCl (wM ca a z F K V P B S C N HK HV OF OK OV) H) (d : decode cc pc = .ok (.getfield 44, 3)) (k : W p l e R s m args below meth c H locs cells slots Q (F0 m (pc + 3) ls (.ref (a 12) :: rest))) : W p l e R s m args below meth c H locs cells slots Q (F0 m pc ls (.ref (a 0) :: rest)) :=
  va_get (D := D) (ci := 2) (v := .ref (a 12)) (C := R_Mod) (T := F_Mod) (N := 14) X.1 X.2.1 X.2.2.2.2 hin_Mod X.2.2.2.1 hK hP 0 rfl rfl 13 (by decide) (X.2.2.2.2 (.fieldLink R_Mod 44 "HopArenaModel" "oldValues" "[I") m_435) (fun _ h9 => h9) rfl d k
theorem ml_F (X : CallFix p m c cc nL s args wsA R_Mod) (hK : va_K D mCl (tyM ca) s) (hP : va_P D mCl (wM ca a z F K V P B S C N HK HV OF OK OV) H) {i : Nat} (hi : i < 384) (d : decode cc pc = .ok (.baload, 1)) (k : W p l e R s m args below meth c H locs cells slots Q (F0 m (pc + 1) ls (.int (bI (F i)) :: rest))) : W p l e R s m args below meth c H locs cells slots Q (F0 m pc ls (.int (nI i) :: .ref (a 1) :: rest)) :=
  va_zald X.1 X.2.1 hK hP 1 0 rfl rfl (vp_in_nI hi (by decide)) d (by rw [nI_clamp (by omega)]; exact k)
theorem ms_F (X : CallFix p m c cc nL s args wsA R_Mod) (hK : va_K D mCl (tyM ca) s) (hP : va_P D mCl (wM ca a z F K V P B S C N HK HV OF OK OV) H) (hD : va_D A (wM ca a z F K V P B S C N HK HV OF OK OV)) (hS : va_S A H0 H locs) {i : Nat} {x : Bool} (hi : i < 384) (d : decode cc pc = .ok (.bastore, 1)) (k : ∀ (H1 : Heap) (locs1 : List Loc), va_P D mCl (wM ca a z (va_up F i x) K V P B S C N HK HV OF OK OV) H1 → va_D A (wM ca a z (va_up F i x) K V P B S C N HK HV OF OK OV) → va_S A H0 H1 locs1 → W p l e R s m args below meth c H1 locs1 cells slots Q (F0 m (pc + 1) ls rest)) : W p l e R s m args below meth c H locs cells slots Q (F0 m pc ls (.int (bI x) :: .int (nI i) :: .ref (a 1) :: rest)) :=
  va_zast X.1 X.2.1 hK hP hD hS 1 0 rfl rfl (vp_in_nI hi (by decide)) d (by rw [nI_clamp (by omega), bI_nar, bI_upd]; exact k)
theorem ml_K (X : CallFix p m c cc nL s args wsA R_Mod) (hK : va_K D mCl (tyM ca) s) (hP : va_P D mCl (wM ca a z F K V P B S C N HK HV OF OK OV) H) {i : Nat} (hi : i < 384) (d : decode cc pc = .ok (.iaload, 1)) (k : W p l e R s m args below meth c H locs cells slots Q (F0 m (pc + 1) ls (.int (K i) :: rest))) : W p l e R s m args below meth c H locs cells slots Q (F0 m pc ls (.int (nI i) :: .ref (a 2) :: rest)) :=
  va_iald X.1 X.2.1 hK hP 2 1 rfl rfl (vp_in_nI hi (by decide)) d (by rw [nI_clamp (by omega)]; exact k)
theorem ms_K (X : CallFix p m c cc nL s args wsA R_Mod) (hK : va_K D mCl (tyM ca) s) (hP : va_P D mCl (wM ca a z F K V P B S C N HK HV OF OK OV) H) (hD : va_D A (wM ca a z F K V P B S C N HK HV OF OK OV)) (hS : va_S A H0 H locs) {i : Nat} {x : Int32} (hi : i < 384) (d : decode cc pc = .ok (.iastore, 1)) (k : ∀ (H1 : Heap) (locs1 : List Loc), va_P D mCl (wM ca a z F (upd K i x) V P B S C N HK HV OF OK OV) H1 → va_D A (wM ca a z F (upd K i x) V P B S C N HK HV OF OK OV) → va_S A H0 H1 locs1 → W p l e R s m args below meth c H1 locs1 cells slots Q (F0 m (pc + 1) ls rest)) : W p l e R s m args below meth c H locs cells slots Q (F0 m pc ls (.int x :: .int (nI i) :: .ref (a 2) :: rest)) :=
  va_iast X.1 X.2.1 hK hP hD hS 2 1 rfl rfl (vp_in_nI hi (by decide)) d (by rw [nI_clamp (by omega)]; exact k)
theorem ml_V (X : CallFix p m c cc nL s args wsA R_Mod) (hK : va_K D mCl (tyM ca) s) (hP : va_P D mCl (wM ca a z F K V P B S C N HK HV OF OK OV) H) {i : Nat} (hi : i < 384) (d : decode cc pc = .ok (.iaload, 1)) (k : W p l e R s m args below meth c H locs cells slots Q (F0 m (pc + 1) ls (.int (V i) :: rest))) : W p l e R s m args below meth c H locs cells slots Q (F0 m pc ls (.int (nI i) :: .ref (a 3) :: rest)) :=
  va_iald X.1 X.2.1 hK hP 3 2 rfl rfl (vp_in_nI hi (by decide)) d (by rw [nI_clamp (by omega)]; exact k)
theorem ms_V (X : CallFix p m c cc nL s args wsA R_Mod) (hK : va_K D mCl (tyM ca) s) (hP : va_P D mCl (wM ca a z F K V P B S C N HK HV OF OK OV) H) (hD : va_D A (wM ca a z F K V P B S C N HK HV OF OK OV)) (hS : va_S A H0 H locs) {i : Nat} {x : Int32} (hi : i < 384) (d : decode cc pc = .ok (.iastore, 1)) (k : ∀ (H1 : Heap) (locs1 : List Loc), va_P D mCl (wM ca a z F K (upd V i x) P B S C N HK HV OF OK OV) H1 → va_D A (wM ca a z F K (upd V i x) P B S C N HK HV OF OK OV) → va_S A H0 H1 locs1 → W p l e R s m args below meth c H1 locs1 cells slots Q (F0 m (pc + 1) ls rest)) : W p l e R s m args below meth c H locs cells slots Q (F0 m pc ls (.int x :: .int (nI i) :: .ref (a 3) :: rest)) :=
  va_iast X.1 X.2.1 hK hP hD hS 3 2 rfl rfl (vp_in_nI hi (by decide)) d (by rw [nI_clamp (by omega)]; exact k)
theorem ml_P (X : CallFix p m c cc nL s args wsA R_Mod) (hK : va_K D mCl (tyM ca) s) (hP : va_P D mCl (wM ca a z F K V P B S C N HK HV OF OK OV) H) {i : Nat} (hi : i < 3) (d : decode cc pc = .ok (.iaload, 1)) (k : W p l e R s m args below meth c H locs cells slots Q (F0 m (pc + 1) ls (.int (nI (P i)) :: rest))) : W p l e R s m args below meth c H locs cells slots Q (F0 m pc ls (.int (nI i) :: .ref (a 4) :: rest)) :=
  va_iald X.1 X.2.1 hK hP 4 3 rfl rfl (vp_in_nI hi (by decide)) d (by rw [nI_clamp (by omega)]; exact k)
theorem ms_P (X : CallFix p m c cc nL s args wsA R_Mod) (hK : va_K D mCl (tyM ca) s) (hP : va_P D mCl (wM ca a z F K V P B S C N HK HV OF OK OV) H) (hD : va_D A (wM ca a z F K V P B S C N HK HV OF OK OV)) (hS : va_S A H0 H locs) {i : Nat} {x : Nat} (hi : i < 3) (d : decode cc pc = .ok (.iastore, 1)) (k : ∀ (H1 : Heap) (locs1 : List Loc), va_P D mCl (wM ca a z F K V (va_up P i x) B S C N HK HV OF OK OV) H1 → va_D A (wM ca a z F K V (va_up P i x) B S C N HK HV OF OK OV) → va_S A H0 H1 locs1 → W p l e R s m args below meth c H1 locs1 cells slots Q (F0 m (pc + 1) ls rest)) : W p l e R s m args below meth c H locs cells slots Q (F0 m pc ls (.int (nI x) :: .int (nI i) :: .ref (a 4) :: rest)) :=
  va_iast X.1 X.2.1 hK hP hD hS 4 3 rfl rfl (vp_in_nI hi (by decide)) d (by rw [nI_clamp (by omega), nI_upd]; exact k)
theorem ml_B (X : CallFix p m c cc nL s args wsA R_Mod) (hK : va_K D mCl (tyM ca) s) (hP : va_P D mCl (wM ca a z F K V P B S C N HK HV OF OK OV) H) {i : Nat} (hi : i < 3) (d : decode cc pc = .ok (.iaload, 1)) (k : W p l e R s m args below meth c H locs cells slots Q (F0 m (pc + 1) ls (.int (nI (B i)) :: rest))) : W p l e R s m args below meth c H locs cells slots Q (F0 m pc ls (.int (nI i) :: .ref (a 5) :: rest)) :=
  va_iald X.1 X.2.1 hK hP 5 4 rfl rfl (vp_in_nI hi (by decide)) d (by rw [nI_clamp (by omega)]; exact k)
theorem ms_B (X : CallFix p m c cc nL s args wsA R_Mod) (hK : va_K D mCl (tyM ca) s) (hP : va_P D mCl (wM ca a z F K V P B S C N HK HV OF OK OV) H) (hD : va_D A (wM ca a z F K V P B S C N HK HV OF OK OV)) (hS : va_S A H0 H locs) {i : Nat} {x : Nat} (hi : i < 3) (d : decode cc pc = .ok (.iastore, 1)) (k : ∀ (H1 : Heap) (locs1 : List Loc), va_P D mCl (wM ca a z F K V P (va_up B i x) S C N HK HV OF OK OV) H1 → va_D A (wM ca a z F K V P (va_up B i x) S C N HK HV OF OK OV) → va_S A H0 H1 locs1 → W p l e R s m args below meth c H1 locs1 cells slots Q (F0 m (pc + 1) ls rest)) : W p l e R s m args below meth c H locs cells slots Q (F0 m pc ls (.int (nI x) :: .int (nI i) :: .ref (a 5) :: rest)) :=
  va_iast X.1 X.2.1 hK hP hD hS 5 4 rfl rfl (vp_in_nI hi (by decide)) d (by rw [nI_clamp (by omega), nI_upd]; exact k)
theorem ml_S (X : CallFix p m c cc nL s args wsA R_Mod) (hK : va_K D mCl (tyM ca) s) (hP : va_P D mCl (wM ca a z F K V P B S C N HK HV OF OK OV) H) {i : Nat} (hi : i < 3) (d : decode cc pc = .ok (.iaload, 1)) (k : W p l e R s m args below meth c H locs cells slots Q (F0 m (pc + 1) ls (.int (S i) :: rest))) : W p l e R s m args below meth c H locs cells slots Q (F0 m pc ls (.int (nI i) :: .ref (a 6) :: rest)) :=
  va_iald X.1 X.2.1 hK hP 6 5 rfl rfl (vp_in_nI hi (by decide)) d (by rw [nI_clamp (by omega)]; exact k)
theorem ms_S (X : CallFix p m c cc nL s args wsA R_Mod) (hK : va_K D mCl (tyM ca) s) (hP : va_P D mCl (wM ca a z F K V P B S C N HK HV OF OK OV) H) (hD : va_D A (wM ca a z F K V P B S C N HK HV OF OK OV)) (hS : va_S A H0 H locs) {i : Nat} {x : Int32} (hi : i < 3) (d : decode cc pc = .ok (.iastore, 1)) (k : ∀ (H1 : Heap) (locs1 : List Loc), va_P D mCl (wM ca a z F K V P B (upd S i x) C N HK HV OF OK OV) H1 → va_D A (wM ca a z F K V P B (upd S i x) C N HK HV OF OK OV) → va_S A H0 H1 locs1 → W p l e R s m args below meth c H1 locs1 cells slots Q (F0 m (pc + 1) ls rest)) : W p l e R s m args below meth c H locs cells slots Q (F0 m pc ls (.int x :: .int (nI i) :: .ref (a 6) :: rest)) :=
  va_iast X.1 X.2.1 hK hP hD hS 6 5 rfl rfl (vp_in_nI hi (by decide)) d (by rw [nI_clamp (by omega)]; exact k)
theorem ml_C (X : CallFix p m c cc nL s args wsA R_Mod) (hK : va_K D mCl (tyM ca) s) (hP : va_P D mCl (wM ca a z F K V P B S C N HK HV OF OK OV) H) {i : Nat} (hi : i < 3) (d : decode cc pc = .ok (.iaload, 1)) (k : W p l e R s m args below meth c H locs cells slots Q (F0 m (pc + 1) ls (.int (C i) :: rest))) : W p l e R s m args below meth c H locs cells slots Q (F0 m pc ls (.int (nI i) :: .ref (a 7) :: rest)) :=
  va_iald X.1 X.2.1 hK hP 7 6 rfl rfl (vp_in_nI hi (by decide)) d (by rw [nI_clamp (by omega)]; exact k)
theorem ms_C (X : CallFix p m c cc nL s args wsA R_Mod) (hK : va_K D mCl (tyM ca) s) (hP : va_P D mCl (wM ca a z F K V P B S C N HK HV OF OK OV) H) (hD : va_D A (wM ca a z F K V P B S C N HK HV OF OK OV)) (hS : va_S A H0 H locs) {i : Nat} {x : Int32} (hi : i < 3) (d : decode cc pc = .ok (.iastore, 1)) (k : ∀ (H1 : Heap) (locs1 : List Loc), va_P D mCl (wM ca a z F K V P B S (upd C i x) N HK HV OF OK OV) H1 → va_D A (wM ca a z F K V P B S (upd C i x) N HK HV OF OK OV) → va_S A H0 H1 locs1 → W p l e R s m args below meth c H1 locs1 cells slots Q (F0 m (pc + 1) ls rest)) : W p l e R s m args below meth c H locs cells slots Q (F0 m pc ls (.int x :: .int (nI i) :: .ref (a 7) :: rest)) :=
  va_iast X.1 X.2.1 hK hP hD hS 7 6 rfl rfl (vp_in_nI hi (by decide)) d (by rw [nI_clamp (by omega)]; exact k)
theorem ml_HK (X : CallFix p m c cc nL s args wsA R_Mod) (hK : va_K D mCl (tyM ca) s) (hP : va_P D mCl (wM ca a z F K V P B S C N HK HV OF OK OV) H) {i : Nat} (hi : i < 129) (d : decode cc pc = .ok (.iaload, 1)) (k : W p l e R s m args below meth c H locs cells slots Q (F0 m (pc + 1) ls (.int (HK i) :: rest))) : W p l e R s m args below meth c H locs cells slots Q (F0 m pc ls (.int (nI i) :: .ref (a 8) :: rest)) :=
  va_iald X.1 X.2.1 hK hP 8 7 rfl rfl (vp_in_nI hi (by decide)) d (by rw [nI_clamp (by omega)]; exact k)
theorem ms_HK (X : CallFix p m c cc nL s args wsA R_Mod) (hK : va_K D mCl (tyM ca) s) (hP : va_P D mCl (wM ca a z F K V P B S C N HK HV OF OK OV) H) (hD : va_D A (wM ca a z F K V P B S C N HK HV OF OK OV)) (hS : va_S A H0 H locs) {i : Nat} {x : Int32} (hi : i < 129) (d : decode cc pc = .ok (.iastore, 1)) (k : ∀ (H1 : Heap) (locs1 : List Loc), va_P D mCl (wM ca a z F K V P B S C N (upd HK i x) HV OF OK OV) H1 → va_D A (wM ca a z F K V P B S C N (upd HK i x) HV OF OK OV) → va_S A H0 H1 locs1 → W p l e R s m args below meth c H1 locs1 cells slots Q (F0 m (pc + 1) ls rest)) : W p l e R s m args below meth c H locs cells slots Q (F0 m pc ls (.int x :: .int (nI i) :: .ref (a 8) :: rest)) :=
  va_iast X.1 X.2.1 hK hP hD hS 8 7 rfl rfl (vp_in_nI hi (by decide)) d (by rw [nI_clamp (by omega)]; exact k)
theorem ml_HV (X : CallFix p m c cc nL s args wsA R_Mod) (hK : va_K D mCl (tyM ca) s) (hP : va_P D mCl (wM ca a z F K V P B S C N HK HV OF OK OV) H) {i : Nat} (hi : i < 129) (d : decode cc pc = .ok (.iaload, 1)) (k : W p l e R s m args below meth c H locs cells slots Q (F0 m (pc + 1) ls (.int (HV i) :: rest))) : W p l e R s m args below meth c H locs cells slots Q (F0 m pc ls (.int (nI i) :: .ref (a 9) :: rest)) :=
  va_iald X.1 X.2.1 hK hP 9 8 rfl rfl (vp_in_nI hi (by decide)) d (by rw [nI_clamp (by omega)]; exact k)
theorem ms_HV (X : CallFix p m c cc nL s args wsA R_Mod) (hK : va_K D mCl (tyM ca) s) (hP : va_P D mCl (wM ca a z F K V P B S C N HK HV OF OK OV) H) (hD : va_D A (wM ca a z F K V P B S C N HK HV OF OK OV)) (hS : va_S A H0 H locs) {i : Nat} {x : Int32} (hi : i < 129) (d : decode cc pc = .ok (.iastore, 1)) (k : ∀ (H1 : Heap) (locs1 : List Loc), va_P D mCl (wM ca a z F K V P B S C N HK (upd HV i x) OF OK OV) H1 → va_D A (wM ca a z F K V P B S C N HK (upd HV i x) OF OK OV) → va_S A H0 H1 locs1 → W p l e R s m args below meth c H1 locs1 cells slots Q (F0 m (pc + 1) ls rest)) : W p l e R s m args below meth c H locs cells slots Q (F0 m pc ls (.int x :: .int (nI i) :: .ref (a 9) :: rest)) :=
  va_iast X.1 X.2.1 hK hP hD hS 9 8 rfl rfl (vp_in_nI hi (by decide)) d (by rw [nI_clamp (by omega)]; exact k)
theorem ml_OF (X : CallFix p m c cc nL s args wsA R_Mod) (hK : va_K D mCl (tyM ca) s) (hP : va_P D mCl (wM ca a z F K V P B S C N HK HV OF OK OV) H) {i : Nat} (hi : i < 128) (d : decode cc pc = .ok (.baload, 1)) (k : W p l e R s m args below meth c H locs cells slots Q (F0 m (pc + 1) ls (.int (bI (OF i)) :: rest))) : W p l e R s m args below meth c H locs cells slots Q (F0 m pc ls (.int (nI i) :: .ref (a 10) :: rest)) :=
  va_zald X.1 X.2.1 hK hP 10 9 rfl rfl (vp_in_nI hi (by decide)) d (by rw [nI_clamp (by omega)]; exact k)
theorem ms_OF (X : CallFix p m c cc nL s args wsA R_Mod) (hK : va_K D mCl (tyM ca) s) (hP : va_P D mCl (wM ca a z F K V P B S C N HK HV OF OK OV) H) (hD : va_D A (wM ca a z F K V P B S C N HK HV OF OK OV)) (hS : va_S A H0 H locs) {i : Nat} {x : Bool} (hi : i < 128) (d : decode cc pc = .ok (.bastore, 1)) (k : ∀ (H1 : Heap) (locs1 : List Loc), va_P D mCl (wM ca a z F K V P B S C N HK HV (va_up OF i x) OK OV) H1 → va_D A (wM ca a z F K V P B S C N HK HV (va_up OF i x) OK OV) → va_S A H0 H1 locs1 → W p l e R s m args below meth c H1 locs1 cells slots Q (F0 m (pc + 1) ls rest)) : W p l e R s m args below meth c H locs cells slots Q (F0 m pc ls (.int (bI x) :: .int (nI i) :: .ref (a 10) :: rest)) :=
  va_zast X.1 X.2.1 hK hP hD hS 10 9 rfl rfl (vp_in_nI hi (by decide)) d (by rw [nI_clamp (by omega), bI_nar, bI_upd]; exact k)
theorem ml_OK (X : CallFix p m c cc nL s args wsA R_Mod) (hK : va_K D mCl (tyM ca) s) (hP : va_P D mCl (wM ca a z F K V P B S C N HK HV OF OK OV) H) {i : Nat} (hi : i < 128) (d : decode cc pc = .ok (.iaload, 1)) (k : W p l e R s m args below meth c H locs cells slots Q (F0 m (pc + 1) ls (.int (OK i) :: rest))) : W p l e R s m args below meth c H locs cells slots Q (F0 m pc ls (.int (nI i) :: .ref (a 11) :: rest)) :=
  va_iald X.1 X.2.1 hK hP 11 10 rfl rfl (vp_in_nI hi (by decide)) d (by rw [nI_clamp (by omega)]; exact k)
theorem ms_OK (X : CallFix p m c cc nL s args wsA R_Mod) (hK : va_K D mCl (tyM ca) s) (hP : va_P D mCl (wM ca a z F K V P B S C N HK HV OF OK OV) H) (hD : va_D A (wM ca a z F K V P B S C N HK HV OF OK OV)) (hS : va_S A H0 H locs) {i : Nat} {x : Int32} (hi : i < 128) (d : decode cc pc = .ok (.iastore, 1)) (k : ∀ (H1 : Heap) (locs1 : List Loc), va_P D mCl (wM ca a z F K V P B S C N HK HV OF (upd OK i x) OV) H1 → va_D A (wM ca a z F K V P B S C N HK HV OF (upd OK i x) OV) → va_S A H0 H1 locs1 → W p l e R s m args below meth c H1 locs1 cells slots Q (F0 m (pc + 1) ls rest)) : W p l e R s m args below meth c H locs cells slots Q (F0 m pc ls (.int x :: .int (nI i) :: .ref (a 11) :: rest)) :=
  va_iast X.1 X.2.1 hK hP hD hS 11 10 rfl rfl (vp_in_nI hi (by decide)) d (by rw [nI_clamp (by omega)]; exact k)
theorem ml_OV (X : CallFix p m c cc nL s args wsA R_Mod) (hK : va_K D mCl (tyM ca) s) (hP : va_P D mCl (wM ca a z F K V P B S C N HK HV OF OK OV) H) {i : Nat} (hi : i < 128) (d : decode cc pc = .ok (.iaload, 1)) (k : W p l e R s m args below meth c H locs cells slots Q (F0 m (pc + 1) ls (.int (OV i) :: rest))) : W p l e R s m args below meth c H locs cells slots Q (F0 m pc ls (.int (nI i) :: .ref (a 12) :: rest)) :=
  va_iald X.1 X.2.1 hK hP 12 11 rfl rfl (vp_in_nI hi (by decide)) d (by rw [nI_clamp (by omega)]; exact k)
theorem ms_OV (X : CallFix p m c cc nL s args wsA R_Mod) (hK : va_K D mCl (tyM ca) s) (hP : va_P D mCl (wM ca a z F K V P B S C N HK HV OF OK OV) H) (hD : va_D A (wM ca a z F K V P B S C N HK HV OF OK OV)) (hS : va_S A H0 H locs) {i : Nat} {x : Int32} (hi : i < 128) (d : decode cc pc = .ok (.iastore, 1)) (k : ∀ (H1 : Heap) (locs1 : List Loc), va_P D mCl (wM ca a z F K V P B S C N HK HV OF OK (upd OV i x)) H1 → va_D A (wM ca a z F K V P B S C N HK HV OF OK (upd OV i x)) → va_S A H0 H1 locs1 → W p l e R s m args below meth c H1 locs1 cells slots Q (F0 m (pc + 1) ls rest)) : W p l e R s m args below meth c H locs cells slots Q (F0 m pc ls (.int x :: .int (nI i) :: .ref (a 12) :: rest)) :=
  va_iast X.1 X.2.1 hK hP hD hS 12 11 rfl rfl (vp_in_nI hi (by decide)) d (by rw [nI_clamp (by omega)]; exact k)
theorem mp_code (X : CallFix p m c cc nL s args wsA R_Mod) (hK : va_K D mCl (tyM ca) s) (hP : va_P D mCl (wM ca a z F K V P B S C N HK HV OF OK OV) H) (hD : va_D A (wM ca a z F K V P B S C N HK HV OF OK OV)) (hS : va_S A H0 H locs) {x : Int32} (d : decode cc pc = .ok (.putfield 47, 3)) (k : ∀ (H1 : Heap) (locs1 : List Loc), va_P D mCl (wM ca a x F K V P B S C N HK HV OF OK OV) H1 → va_D A (wM ca a x F K V P B S C N HK HV OF OK OV) → va_S A H0 H1 locs1 → W p l e R s m args below meth c H1 locs1 cells slots Q (F0 m (pc + 3) ls rest)) : W p l e R s m args below meth c H locs cells slots Q (F0 m pc ls (.int (x) :: .ref (a 0) :: rest)) :=
  va_put (D := D) (ci := 2) (v := .int (x)) (ty := .int) (C := R_Mod) (T := F_Mod) (N := 14) X.1 X.2.1 X.2.2.2.2 hin_Mod t_Mod t_Mod_ok n_Mod X.2.2.2.1 hK hP hD hS 0 rfl rfl 0 (by decide) (X.2.2.2.2 (.fieldLink R_Mod 47 "HopArenaModel" "code" "I") m_422) (fun _ h9 => h9) rfl (by decide +kernel) rfl rfl (Nat.le_of_ble_eq_true rfl) d k
theorem mp_held (X : CallFix p m c cc nL s args wsA R_Mod) (hK : va_K D mCl (tyM ca) s) (hP : va_P D mCl (wM ca a z F K V P B S C N HK HV OF OK OV) H) (hD : va_D A (wM ca a z F K V P B S C N HK HV OF OK OV)) (hS : va_S A H0 H locs) {x : Nat} (d : decode cc pc = .ok (.putfield 71, 3)) (k : ∀ (H1 : Heap) (locs1 : List Loc), va_P D mCl (wM ca a z F K V P B S C x HK HV OF OK OV) H1 → va_D A (wM ca a z F K V P B S C x HK HV OF OK OV) → va_S A H0 H1 locs1 → W p l e R s m args below meth c H1 locs1 cells slots Q (F0 m (pc + 3) ls rest)) : W p l e R s m args below meth c H locs cells slots Q (F0 m pc ls (.int (nI x) :: .ref (a 0) :: rest)) :=
  va_put (D := D) (ci := 2) (v := .int (nI x)) (ty := .int) (C := R_Mod) (T := F_Mod) (N := 14) X.1 X.2.1 X.2.2.2.2 hin_Mod t_Mod t_Mod_ok n_Mod X.2.2.2.1 hK hP hD hS 0 rfl rfl 8 (by decide) (X.2.2.2.2 (.fieldLink R_Mod 71 "HopArenaModel" "held" "I") m_430) (fun _ h9 => h9) rfl (by decide +kernel) rfl rfl (Nat.le_of_ble_eq_true rfl) d k
theorem hr_S {y : MethodName} {bytes : ByteArray} {maxL n index : Nat} {ret : Option FieldType} {wy : List Cond} {rm : Room} {Ts : List Cond} {own : String} {As : List Value} {cl : List vw_C} {wc : va_W} {tc : List (ClassId × FieldType)} {v : Option Value} (S9 : CallFix p m c cc nL s args Ts own) (hM : Met l y wy rm (va_Pc As (hb_R D cl wc tc)) (hq_R v) 0 0 hq_no) (cw : CallB R s args own index y bytes maxL ret wy rm 0 0 n ∧ (Cond.static y).before args s = true) (hP : va_P D cl wc H) (hK : va_K D cl tc s)
    (hn : As.length = n) (hsz : ls.size = nL) (hst : st0 = As.reverse ++ rest) (hrm : (rest.map fun v => v.category).sum ≤ 8) (hf : cells ≤ R.cells ∧ slots ≤ R.slots) (d : decode cc pc = .ok (.invokestatic index, 3)) (kk : W p l e R s m args below meth c H locs cells slots Q (F0 m (pc + 3) ls (v.toList ++ rest))) : W p l e R s m args below meth c H locs cells slots Q (F0 m pc ls st0) :=
  hr_call (va_runS (As := As) (rest := rest) S9 hM cw ⟨hb_blind, fun U hU hW => ⟨rfl, by rw [hU]; exact hP, va_K.moved hW.alike hK⟩⟩ rfl hn hsz hst (lv_room hrm) d hf) kk
end MWA
