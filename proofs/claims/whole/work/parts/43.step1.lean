/-! one call: class and reference answer alike, and stay alike -/
abbrev OS : Type := Nat × IT × IT × BT × IT × IT
abbrev wHZ (ca a q : Nat → Nat) (Z : HS) : va_W := wH ca a q Z.1 Z.2.1 Z.2.2.1 Z.2.2.2.1 Z.2.2.2.2.1 Z.2.2.2.2.2.1 Z.2.2.2.2.2.2
abbrev wMZ (cm am : Nat → Nat) (z : Int32) (Z : HS) (O : OS) : va_W := wM cm am z Z.2.2.1 Z.1 Z.2.1 Z.2.2.2.2.2.1 Z.2.2.2.2.1 Z.2.2.2.2.2.2 Z.2.2.2.1 O.1 O.2.1 O.2.2.1 O.2.2.2.1 O.2.2.2.2.1 O.2.2.2.2.2
def StepP (l : Launch) (D : va_G) (ca a q cm am sa : Nat → Nat) (o co : Nat) (Z : HS) (f : Nat → Int64) (z : Int32) (Z' : HS) (O : OS) (yl : MethodName) (wl : List Cond) (mc ms : Nat) (ym : MethodName) (wm : List Cond) (dm : Nat) (AL AM : List Value) (cmp : Int32 → Int64) : Prop :=
  ∃ (k : Int32) (q1 : Nat → Nat) (Z1 : HS) (f1 : Nat → Int64) (b : Int32) (Z1' : HS) (O1 : OS),
    Met l yl wl (rmD 8 mc ms) (va_Pc AL (fun U => hb_X D hCl (oc o co f :: wHZ ca a q Z) ((co, .long) :: tyH ca) sa U ∧ xN U)) (hq_W (some (.int k)) D hCl (oc o co f1 :: wHZ ca a q1 Z1) (hA (oc o co f :: wHZ ca a q Z))) mc ms (hA (oc o co f :: wHZ ca a q Z)) ∧
    (∀ A : Nat → Prop, va_D A (wHZ ca a q Z) → va_D A (wHZ ca a q1 Z1)) ∧ (∀ x, hA (wHZ ca a q1 Z1) x → hA (wHZ ca a q Z) x) ∧
    Met l ym wm (rmD dm 0 0) (va_Pc AM (hb_W D mCl (wMZ cm am z Z' O) (tyM cm))) (hq_W (some (.int b)) D mCl (wMZ cm am k Z1' O1) (hA (wMZ cm am z Z' O))) 0 0 (hA (wMZ cm am z Z' O)) ∧
    Sim Z1 Z1' ∧ (k = 0 → f1 0 = cmp b)
theorem mm_c (x : Int32) : (∃ m, m < 3 ∧ x = nI m) ∨ (x < 0 ∨ nI 3 ≤ x) := by
  by_cases h : x < 0
  · exact Or.inr (Or.inl h)
  · by_cases h3 : nI 3 ≤ x
    · exact Or.inr (Or.inr h3)
    · refine Or.inl ⟨x.toInt.toNat, ?_, ?_⟩
      · have a1 := Int32.not_lt.mp h
        have a2 := Int32.not_le.mp h3
        rw [Int32.le_iff_toInt_le] at a1
        rw [Int32.lt_iff_toInt_lt, nI_toInt (by decide)] at a2
        have e0 : (0 : Int32).toInt = 0 := by decide
        omega
      · have a1 := Int32.not_lt.mp h
        have a2 := Int32.not_le.mp h3
        rw [Int32.le_iff_toInt_le] at a1
        rw [Int32.lt_iff_toInt_lt, nI_toInt (by decide)] at a2
        have e0 : (0 : Int32).toInt = 0 := by decide
        refine Int32.toInt_inj.mp ?_
        rw [nI_toInt (by omega)]
        omega
theorem pl_c {x : Int32} {c : Nat} (hc : c < 2 ^ 31) (h : 0 ≤ x ∧ x < nI c) : ∃ p, p < c ∧ x = nI p := by
  have a1 := h.1
  have a2 := h.2
  rw [Int32.le_iff_toInt_le] at a1
  rw [Int32.lt_iff_toInt_lt, nI_toInt hc] at a2
  have e0 : (0 : Int32).toInt = 0 := by decide
  refine ⟨x.toInt.toNat, by omega, Int32.toInt_inj.mp ?_⟩
  rw [nI_toInt (by omega)]
  omega
theorem wh_c {x : Int32} (h : x < 0 ∨ nI 3 ≤ x) : x.toInt < 0 ∨ 2 < x.toInt := by
  rcases h with h | h
  · rw [Int32.lt_iff_toInt_lt] at h
    have e0 : (0 : Int32).toInt = 0 := by decide
    omega
  · rw [Int32.le_iff_toInt_le, nI_toInt (by decide)] at h
    omega
theorem updL_0 (f : Nat → Int64) (x : Int64) : vp_updL f 0 x 0 = x := if_pos rfl
theorem hA_iff {ws : va_W} {x : Nat} : hA ws x ↔ x ∈ ws.map (fun q => q.1) := by
  constructor
  · intro h
    obtain ⟨k, e, hk⟩ := h
    exact List.mem_map.mpr ⟨(x, e), List.mem_of_getElem? hk, rfl⟩
  · intro h
    obtain ⟨q, hq, he⟩ := List.mem_map.mp h
    obtain ⟨k, hk⟩ := List.getElem?_of_mem hq
    exact ⟨k, q.2, by rw [hk, ← he]⟩
theorem swp_sub {ca a q : Nat → Nat} {j : Nat} {Z Z1 : HS} (hj : j < 3) : ∀ x, hA (wHZ ca a (swp q j) Z1) x → hA (wHZ ca a q Z) x := fun x h => by
  rw [hA_iff] at h ⊢
  have e1 : ((wHZ ca a (swp q j) Z1).map (fun q => q.1)) = [a 0, a 1, a 2, a 3, a 4, a 5, swp q j 0, swp q j 1, swp q j 2, swp q j 3] := rfl
  have e2 : ((wHZ ca a q Z).map (fun q => q.1)) = [a 0, a 1, a 2, a 3, a 4, a 5, q 0, q 1, q 2, q 3] := rfl
  rw [e1] at h
  rw [e2]
  simp only [List.mem_cons, List.not_mem_nil, or_false] at h ⊢
  rcases (show j = 0 ∨ j = 1 ∨ j = 2 by omega) with rfl | rfl | rfl
  · have s0 : swp q 0 0 = q 3 := rfl
    have s1 : swp q 0 1 = q 1 := rfl
    have s2 : swp q 0 2 = q 2 := rfl
    have s3 : swp q 0 3 = q 0 := rfl
    omega
  · have s0 : swp q 1 0 = q 0 := rfl
    have s1 : swp q 1 1 = q 3 := rfl
    have s2 : swp q 1 2 = q 2 := rfl
    have s3 : swp q 1 3 = q 1 := rfl
    omega
  · have s0 : swp q 2 0 = q 0 := rfl
    have s1 : swp q 2 1 = q 1 := rfl
    have s2 : swp q 2 2 = q 3 := rfl
    have s3 : swp q 2 3 = q 2 := rfl
    omega
theorem gW_t {ca a q : Nat → Nat} {j : Nat} {r : Bool × HS} (h : r.1 = true) : gW ca a q j r = wHZ ca a (swp q j) (swZ j r.2) := if_pos h
theorem gW_f {ca a q : Nat → Nat} {j : Nat} {r : Bool × HS} (h : r.1 = false) : gW ca a q j r = wHZ ca a q r.2 := if_neg (by rw [h]; decide)
set_option maxHeartbeats 4000000 in
theorem st_get (l : Launch) (hlt : l.stackTraces = false) (D : va_G) (ca a q cm am sa : Nat → Nat) (o co : Nat) (Z : HS) (f : Nat → Int64) (z : Int32) (Z' : HS) (O : OS) (p0 p1 : Int32) (h : Sim Z Z') : StepP l D ca a q cm am sa o co Z f z Z' O y_Law_get w_Law_get 2 12 y_Mod_get w_Mod_get 3 [.ref (a 0), .int p0, .int p1, .ref o] [.ref (am 0), .int p0, .int p1] (fun b => Int32.toInt64 b) := by
  obtain ⟨K, V, T, C, B, P, S⟩ := Z
  obtain ⟨K', V', F', C', B', P', S'⟩ := Z'
  obtain ⟨N, HK, HV, OF, OK, OV⟩ := O
  rcases mm_c p0 with ⟨m, hm, rfl⟩ | hm
  · skip
    obtain ⟨a1, a2, a3, a4, a5, a6, a7⟩ := h.1 m hm
    have a1 : B m = B' m := a1
    have a2 : P m = P' m := a2
    have a3 : S m = S' m := a3
    have a4 : pw (P m) := a4
    have a5 : B m + P m ≤ 256 := a5
    have a4' : pw (P' m) := by rw [← a2]; exact a4
    have hr : Rl (B m) (128 * m) (P m) (K, V, T, C) (K', V', F', C') := ⟨a6, h.2.1⟩
    have a7 : IM (128 * m) (P m) (S m) (K', V', F', C') := a7
    have hfs := fnd_sim (s := S m) (key := p1) a4 hr a7
    have hfs : fnd T K (B m) (P m) (hom p1 (S m) (P m)) p1 0 8 = (plF F' K' (128 * m) p1 (P m)).map (fun p => B m + p) := hfs
    cases hq : plF F' K' (128 * m) p1 (P m) with
    | none =>
      rw [hq] at hfs
      rw [a2] at hq
      exact ⟨2, q, (K, V, T, C, B, P, S), f, 0, (K', V', F', C', B', P', S'), (N, HK, HV, OF, OK, OV), (c_Law_get_ns l D _ _ _ sa (a 0) o co _ f (nI m) p1  rfl (fun x h => h) (fun A h => h) (c_Hop_get_no l hlt D ca a q K V T C B P S sa m hm a4 a5 p1 hfs)), fun A h => h, fun x h => h, c_Mod_get_no l D cm am z F' K' V' P' B' S' C' N HK HV OF OK OV m hm a4' p1 hq, h, fun z => absurd z (by decide)⟩
    | some p =>
      rw [hq] at hfs
      have hp := plF_lt _ _ hq
      rw [a2] at hq
      have hfs : fnd T K (B m) (P m) (hom p1 (S m) (P m)) p1 0 8 = some (B m + p) := hfs
      have e6 := hr.1 p hp.1
      have hT : T (B m + p) = true := e6.1.trans hp.2.1
      have hV : V (B m + p) = V' (128 * m + p) := (e6.2 hT).2
      exact ⟨0, q, (K, V, T, C, B, P, S), vp_updL f 0 (Int32.toInt64 (V (B m + p))), V' (128 * m + p), (K', V', F', C', B', P', S'), (N, HK, HV, OF, OK, OV), (c_Law_get_ok l D _ _ _ sa (a 0) o co _ f (nI m) p1 (V (B m + p)) rfl (fun x h => h) (fun A h => h) (c_Hop_get l hlt D ca a q K V T C B P S sa m hm a4 a5 p1 (B m + p) (by omega) hfs)), fun A h => h, fun x h => h, c_Mod_get l D cm am z F' K' V' P' B' S' C' N HK HV OF OK OV m hm a4' p1 p hq, h, fun _ => by rw [updL_0, hV]⟩
  · exact ⟨1, q, (K, V, T, C, B, P, S), f, 0, (K', V', F', C', B', P', S'), (N, HK, HV, OF, OK, OV), (c_Law_get_io l D _ _ _ sa (a 0) o co _ f p0 p1  rfl (fun x h => h) (fun A h => h) (c_Hop_get_bad l hlt D ca a q K V T C B P S sa p0 p1 hm)), fun A h => h, fun x h => h, c_Mod_get_bad l D cm am z F' K' V' P' B' S' C' N HK HV OF OK OV p0 hm p1, h, fun z => absurd z (by decide)⟩
set_option maxHeartbeats 4000000 in
theorem st_remove (l : Launch) (hlt : l.stackTraces = false) (D : va_G) (ca a q cm am sa : Nat → Nat) (o co : Nat) (Z : HS) (f : Nat → Int64) (z : Int32) (Z' : HS) (O : OS) (p0 p1 : Int32) (h : Sim Z Z') : StepP l D ca a q cm am sa o co Z f z Z' O y_Law_remove w_Law_remove 2 12 y_Mod_remove w_Mod_remove 3 [.ref (a 0), .int p0, .int p1, .ref o] [.ref (am 0), .int p0, .int p1] (fun b => Int32.toInt64 b) := by
  obtain ⟨K, V, T, C, B, P, S⟩ := Z
  obtain ⟨K', V', F', C', B', P', S'⟩ := Z'
  obtain ⟨N, HK, HV, OF, OK, OV⟩ := O
  rcases mm_c p0 with ⟨m, hm, rfl⟩ | hm
  · skip
    obtain ⟨a1, a2, a3, a4, a5, a6, a7⟩ := h.1 m hm
    have a1 : B m = B' m := a1
    have a2 : P m = P' m := a2
    have a3 : S m = S' m := a3
    have a4 : pw (P m) := a4
    have a5 : B m + P m ≤ 256 := a5
    have a4' : pw (P' m) := by rw [← a2]; exact a4
    have hr : Rl (B m) (128 * m) (P m) (K, V, T, C) (K', V', F', C') := ⟨a6, h.2.1⟩
    have a7 : IM (128 * m) (P m) (S m) (K', V', F', C') := a7
    have hfs := fnd_sim (s := S m) (key := p1) a4 hr a7
    have hfs : fnd T K (B m) (P m) (hom p1 (S m) (P m)) p1 0 8 = (plF F' K' (128 * m) p1 (P m)).map (fun p => B m + p) := hfs
    cases hq : plF F' K' (128 * m) p1 (P m) with
    | none =>
      rw [hq] at hfs
      rw [a2] at hq
      exact ⟨2, q, (K, V, T, C, B, P, S), f, 0, (K', V', F', C', B', P', S'), (N, HK, HV, OF, OK, OV), (c_Law_remove_ns l D _ _ _ sa (a 0) o co _ f (nI m) p1  rfl (fun x h => h) (fun A h => h) (c_Hop_remove_no l hlt D ca a q K V T C B P S sa m hm a4 a5 p1 hfs)), fun A h => h, fun x h => h, c_Mod_remove_no l D cm am z F' K' V' P' B' S' C' N HK HV OF OK OV m hm a4' p1 hq, h, fun z => absurd z (by decide)⟩
    | some p =>
      rw [hq] at hfs
      have hp := plF_lt _ _ hq
      rw [a2] at hq
      have hfs : fnd T K (B m) (P m) (hom p1 (S m) (P m)) p1 0 8 = some (B m + p) := hfs
      have e6 := hr.1 p hp.1
      have hT : T (B m + p) = true := e6.1.trans hp.2.1
      have hV : V (B m + p) = V' (128 * m + p) := (e6.2 hT).2
      exact ⟨0, q, (K, V, va_up T (B m + p) false, C, B, P, S), vp_updL f 0 (Int32.toInt64 (V (B m + p))), V' (128 * m + p), (K', V', va_up F' (128 * m + p) false, C', B', P', S'), (N, HK, HV, OF, OK, OV), (c_Law_remove_ok l D _ _ _ sa (a 0) o co _ f (nI m) p1 (V (B m + p)) rfl (fun x hx => hA_as wH_a x hx) (fun A hd => va_Das hd wH_a) (c_Hop_remove l hlt D ca a q K V T C B P S sa m hm a4 a5 p1 (B m + p) (by omega) hfs)), fun A hd => va_Das hd wH_a, fun x hx => hA_as wH_a x hx, c_Mod_remove l D cm am z F' K' V' P' B' S' C' N HK HV OF OK OV m hm a4' p1 p hq, Sim_rem hm h hp.1, fun _ => by rw [updL_0, hV]⟩
  · exact ⟨1, q, (K, V, T, C, B, P, S), f, 0, (K', V', F', C', B', P', S'), (N, HK, HV, OF, OK, OV), (c_Law_remove_io l D _ _ _ sa (a 0) o co _ f p0 p1  rfl (fun x h => h) (fun A h => h) (c_Hop_remove_bad l hlt D ca a q K V T C B P S sa p0 p1 hm)), fun A h => h, fun x h => h, c_Mod_remove_bad l D cm am z F' K' V' P' B' S' C' N HK HV OF OK OV p0 hm p1, h, fun z => absurd z (by decide)⟩
set_option maxHeartbeats 4000000 in
theorem st_distance (l : Launch) (hlt : l.stackTraces = false) (D : va_G) (ca a q cm am sa : Nat → Nat) (o co : Nat) (Z : HS) (f : Nat → Int64) (z : Int32) (Z' : HS) (O : OS) (p0 p1 : Int32) (h : Sim Z Z') : StepP l D ca a q cm am sa o co Z f z Z' O y_Law_distance w_Law_distance 2 12 y_Mod_distance w_Mod_distance 3 [.ref (a 0), .int p0, .int p1, .ref o] [.ref (am 0), .int p0, .int p1] (fun b => Int32.toInt64 b) := by
  obtain ⟨K, V, T, C, B, P, S⟩ := Z
  obtain ⟨K', V', F', C', B', P', S'⟩ := Z'
  obtain ⟨N, HK, HV, OF, OK, OV⟩ := O
  rcases mm_c p0 with ⟨m, hm, rfl⟩ | hm
  · skip
    obtain ⟨a1, a2, a3, a4, a5, a6, a7⟩ := h.1 m hm
    have a1 : B m = B' m := a1
    have a2 : P m = P' m := a2
    have a3 : S m = S' m := a3
    have a4 : pw (P m) := a4
    have a5 : B m + P m ≤ 256 := a5
    have a4' : pw (P' m) := by rw [← a2]; exact a4
    have hr : Rl (B m) (128 * m) (P m) (K, V, T, C) (K', V', F', C') := ⟨a6, h.2.1⟩
    have a7 : IM (128 * m) (P m) (S m) (K', V', F', C') := a7
    have hfs := fnd_sim (s := S m) (key := p1) a4 hr a7
    have hfs : fnd T K (B m) (P m) (hom p1 (S m) (P m)) p1 0 8 = (plF F' K' (128 * m) p1 (P m)).map (fun p => B m + p) := hfs
    cases hq : plF F' K' (128 * m) p1 (P m) with
    | none =>
      rw [hq] at hfs
      rw [a2] at hq
      exact ⟨2, q, (K, V, T, C, B, P, S), f, 0, (K', V', F', C', B', P', S'), (N, HK, HV, OF, OK, OV), (c_Law_distance_ns l D _ _ _ sa (a 0) o co _ f (nI m) p1  rfl (fun x h => h) (fun A h => h) (c_Hop_distance_no l hlt D ca a q K V T C B P S sa m hm a4 a5 p1 hfs)), fun A h => h, fun x h => h, c_Mod_distance_no l D cm am z F' K' V' P' B' S' C' N HK HV OF OK OV m hm a4' p1 hq, h, fun z => absurd z (by decide)⟩
    | some p =>
      rw [hq] at hfs
      have hp := plF_lt _ _ hq
      rw [a2] at hq
      have hfs : fnd T K (B m) (P m) (hom p1 (S m) (P m)) p1 0 8 = some (B m + p) := hfs
      have e6 := hr.1 p hp.1
      have hT : T (B m + p) = true := e6.1.trans hp.2.1
      have hV : V (B m + p) = V' (128 * m + p) := (e6.2 hT).2
      have hde := dist_eq (b := B m) a4 hp.1 (hom_lt (key := p1) (s := S m) a4)
      exact ⟨0, q, (K, V, T, C, B, P, S), vp_updL f 0 (Int32.toInt64 (nI (((nI (B m + p) - nI (B m)) - nI (hom p1 (S m) (P m))).toBitVec.toNat % P m))), (nI ((p + P' m - hom (K' (128 * m + p)) (S' m) (P' m)) % P' m)), (K', V', F', C', B', P', S'), (N, HK, HV, OF, OK, OV), (c_Law_distance_ok l D _ _ _ sa (a 0) o co _ f (nI m) p1 (nI (((nI (B m + p) - nI (B m)) - nI (hom p1 (S m) (P m))).toBitVec.toNat % P m)) rfl (fun x h => h) (fun A h => h) (c_Hop_distance l hlt D ca a q K V T C B P S sa m hm a4 a5 p1 (B m + p) (by omega) hfs)), fun A h => h, fun x h => h, c_Mod_distance l D cm am z F' K' V' P' B' S' C' N HK HV OF OK OV m hm a4' p1 p hq, h, fun _ => by rw [updL_0, hde, hp.2.2, ← a2, ← a3]⟩
  · exact ⟨1, q, (K, V, T, C, B, P, S), f, 0, (K', V', F', C', B', P', S'), (N, HK, HV, OF, OK, OV), (c_Law_distance_io l D _ _ _ sa (a 0) o co _ f p0 p1  rfl (fun x h => h) (fun A h => h) (c_Hop_distance_bad l hlt D ca a q K V T C B P S sa p0 p1 hm)), fun A h => h, fun x h => h, c_Mod_distance_bad l D cm am z F' K' V' P' B' S' C' N HK HV OF OK OV p0 hm p1, h, fun z => absurd z (by decide)⟩
set_option maxHeartbeats 4000000 in
theorem st_has (l : Launch) (hlt : l.stackTraces = false) (D : va_G) (ca a q cm am sa : Nat → Nat) (o co : Nat) (Z : HS) (f : Nat → Int64) (z : Int32) (Z' : HS) (O : OS) (p0 p1 : Int32) (h : Sim Z Z') : StepP l D ca a q cm am sa o co Z f z Z' O y_Law_has w_Law_has 1 6 y_Mod_has w_Mod_has 3 [.ref (a 0), .int p0, .int p1, .ref o] [.ref (am 0), .int p0, .int p1] (fun b => if b = 0 then 0 else 1) := by
  obtain ⟨K, V, T, C, B, P, S⟩ := Z
  obtain ⟨K', V', F', C', B', P', S'⟩ := Z'
  obtain ⟨N, HK, HV, OF, OK, OV⟩ := O
  rcases mm_c p0 with ⟨m, hm, rfl⟩ | hm
  · skip
    obtain ⟨a1, a2, a3, a4, a5, a6, a7⟩ := h.1 m hm
    have a1 : B m = B' m := a1
    have a2 : P m = P' m := a2
    have a3 : S m = S' m := a3
    have a4 : pw (P m) := a4
    have a5 : B m + P m ≤ 256 := a5
    have a4' : pw (P' m) := by rw [← a2]; exact a4
    have hr : Rl (B m) (128 * m) (P m) (K, V, T, C) (K', V', F', C') := ⟨a6, h.2.1⟩
    have a7 : IM (128 * m) (P m) (S m) (K', V', F', C') := a7
    have hfs := fnd_sim (s := S m) (key := p1) a4 hr a7
    have hfs : fnd T K (B m) (P m) (hom p1 (S m) (P m)) p1 0 8 = (plF F' K' (128 * m) p1 (P m)).map (fun p => B m + p) := hfs
    have hss : (fnd T K (B m) (P m) (hom p1 (S m) (P m)) p1 0 8).isSome = (plF F' K' (128 * m) p1 (P' m)).isSome := by rw [hfs, Option.isSome_map, a2]
    exact ⟨0, q, (K, V, T, C, B, P, S), vp_updL f 0 (if (bI (fnd T K (B m) (P m) (hom p1 (S m) (P m)) p1 0 8).isSome) = 0 then 0 else 1), bI (plF F' K' (128 * m) p1 (P' m)).isSome, (K', V', F', C', B', P', S'), (N, HK, HV, OF, OK, OV), (c_Law_has_ok l D _ _ _ sa (a 0) o co _ f (nI m) p1 (bI (fnd T K (B m) (P m) (hom p1 (S m) (P m)) p1 0 8).isSome) rfl (fun x h => h) (fun A h => h) (c_Hop_has l hlt D ca a q K V T C B P S sa m hm a4 a5 p1)), fun A h => h, fun x h => h, c_Mod_has l D cm am z F' K' V' P' B' S' C' N HK HV OF OK OV m hm a4' p1, h, fun _ => by rw [updL_0, hss]⟩
  · exact ⟨1, q, (K, V, T, C, B, P, S), f, 0, (K', V', F', C', B', P', S'), (N, HK, HV, OF, OK, OV), (c_Law_has_io l D _ _ _ sa (a 0) o co _ f p0 p1  rfl (fun x h => h) (fun A h => h) (c_Hop_has_bad l hlt D ca a q K V T C B P S sa p0 p1 hm)), fun A h => h, fun x h => h, c_Mod_has_bad l D cm am z F' K' V' P' B' S' C' N HK HV OF OK OV p0 hm p1, h, fun z => absurd z (by decide)⟩
set_option maxHeartbeats 4000000 in
theorem st_size (l : Launch) (hlt : l.stackTraces = false) (D : va_G) (ca a q cm am sa : Nat → Nat) (o co : Nat) (Z : HS) (f : Nat → Int64) (z : Int32) (Z' : HS) (O : OS) (p0 : Int32) (h : Sim Z Z') : StepP l D ca a q cm am sa o co Z f z Z' O y_Law_size w_Law_size 1 6 y_Mod_size w_Mod_size 3 [.ref (a 0), .int p0, .ref o] [.ref (am 0), .int p0] (fun b => Int32.toInt64 b) := by
  obtain ⟨K, V, T, C, B, P, S⟩ := Z
  obtain ⟨K', V', F', C', B', P', S'⟩ := Z'
  obtain ⟨N, HK, HV, OF, OK, OV⟩ := O
  rcases mm_c p0 with ⟨m, hm, rfl⟩ | hm
  · skip
    obtain ⟨a1, a2, a3, a4, a5, a6, a7⟩ := h.1 m hm
    have a1 : B m = B' m := a1
    have a2 : P m = P' m := a2
    have a3 : S m = S' m := a3
    have a4 : pw (P m) := a4
    have a5 : B m + P m ≤ 256 := a5
    have a4' : pw (P' m) := by rw [← a2]; exact a4
    have hr : Rl (B m) (128 * m) (P m) (K, V, T, C) (K', V', F', C') := ⟨a6, h.2.1⟩
    have a7 : IM (128 * m) (P m) (S m) (K', V', F', C') := a7
    have hcn := cnt_sim hr (P m) (Nat.le_refl _)
    have hcn : cnt T (B m) (P m) = cnt F' (128 * m) (P' m) := by rw [← a2]; exact hcn
    exact ⟨0, q, (K, V, T, C, B, P, S), vp_updL f 0 (Int32.toInt64 (nI (cnt T (B m) (P m)))), nI (cnt F' (128 * m) (P' m)), (K', V', F', C', B', P', S'), (N, HK, HV, OF, OK, OV), (c_Law_size_ok l D _ _ _ sa (a 0) o co _ f (nI m) (nI (cnt T (B m) (P m))) rfl (fun x h => h) (fun A h => h) (c_Hop_size l hlt D ca a q K V T C B P S sa m hm a4 a5)), fun A h => h, fun x h => h, c_Mod_size l D cm am z F' K' V' P' B' S' C' N HK HV OF OK OV m hm a4', h, fun _ => by rw [updL_0, hcn]⟩
  · exact ⟨1, q, (K, V, T, C, B, P, S), f, 0, (K', V', F', C', B', P', S'), (N, HK, HV, OF, OK, OV), (c_Law_size_io l D _ _ _ sa (a 0) o co _ f p0  rfl (fun x h => h) (fun A h => h) (c_Hop_size_bad l hlt D ca a q K V T C B P S sa p0  hm)), fun A h => h, fun x h => h, c_Mod_size_bad l D cm am z F' K' V' P' B' S' C' N HK HV OF OK OV p0 hm , h, fun z => absurd z (by decide)⟩
set_option maxHeartbeats 4000000 in
theorem st_clear (l : Launch) (hlt : l.stackTraces = false) (D : va_G) (ca a q cm am sa : Nat → Nat) (o co : Nat) (Z : HS) (f : Nat → Int64) (z : Int32) (Z' : HS) (O : OS) (p0 : Int32) (h : Sim Z Z') : StepP l D ca a q cm am sa o co Z f z Z' O y_Law_clear w_Law_clear 1 6 y_Mod_clear w_Mod_clear 3 [.ref (a 0), .int p0, .ref o] [.ref (am 0), .int p0] (fun b => Int32.toInt64 b) := by
  obtain ⟨K, V, T, C, B, P, S⟩ := Z
  obtain ⟨K', V', F', C', B', P', S'⟩ := Z'
  obtain ⟨N, HK, HV, OF, OK, OV⟩ := O
  rcases mm_c p0 with ⟨m, hm, rfl⟩ | hm
  · skip
    obtain ⟨a1, a2, a3, a4, a5, a6, a7⟩ := h.1 m hm
    have a1 : B m = B' m := a1
    have a2 : P m = P' m := a2
    have a3 : S m = S' m := a3
    have a4 : pw (P m) := a4
    have a5 : B m + P m ≤ 256 := a5
    have a4' : pw (P' m) := by rw [← a2]; exact a4
    have hr : Rl (B m) (128 * m) (P m) (K, V, T, C) (K', V', F', C') := ⟨a6, h.2.1⟩
    have a7 : IM (128 * m) (P m) (S m) (K', V', F', C') := a7
    have hcn := cnt_sim hr (P m) (Nat.le_refl _)
    have hcn : cnt T (B m) (P m) = cnt F' (128 * m) (P' m) := by rw [← a2]; exact hcn
    exact ⟨0, q, clZ m (B m) 8 (K, V, T, C, B, P, S), vp_updL f 0 (Int32.toInt64 (nI (cnt T (B m) (P m)))), nI (cnt F' (128 * m) (P' m)), clZ m (128 * m) 128 (K', V', F', C', B', P', S'), (N, HK, HV, OF, OK, OV), (c_Law_clear_ok l D _ _ _ sa (a 0) o co _ f (nI m) (nI (cnt T (B m) (P m))) rfl (fun x hx => hA_as wH_a x hx) (fun A hd => va_Das hd wH_a) (c_Hop_clear l hlt D ca a q K V T C B P S sa m hm a4 a5)), fun A hd => va_Das hd wH_a, fun x hx => hA_as wH_a x hx, c_Mod_clear l D cm am z F' K' V' P' B' S' C' N HK HV OF OK OV m hm a4', Sim_clr hm h, fun _ => by rw [updL_0, hcn]⟩
  · exact ⟨1, q, (K, V, T, C, B, P, S), f, 0, (K', V', F', C', B', P', S'), (N, HK, HV, OF, OK, OV), (c_Law_clear_io l D _ _ _ sa (a 0) o co _ f p0  rfl (fun x h => h) (fun A h => h) (c_Hop_clear_bad l hlt D ca a q K V T C B P S sa p0  hm)), fun A h => h, fun x h => h, c_Mod_clear_bad l D cm am z F' K' V' P' B' S' C' N HK HV OF OK OV p0 hm , h, fun z => absurd z (by decide)⟩
set_option maxHeartbeats 4000000 in
theorem st_about (l : Launch) (hlt : l.stackTraces = false) (D : va_G) (ca a q cm am sa : Nat → Nat) (o co : Nat) (Z : HS) (f : Nat → Int64) (z : Int32) (Z' : HS) (O : OS) (p0 p1 : Int32) (h : Sim Z Z') : StepP l D ca a q cm am sa o co Z f z Z' O y_Law_about w_Law_about 2 12 y_Mod_about w_Mod_about 3 [.ref (a 0), .int p0, .int p1, .ref o] [.ref (am 0), .int p0, .int p1] (fun b => Int32.toInt64 b) := by
  obtain ⟨K, V, T, C, B, P, S⟩ := Z
  obtain ⟨K', V', F', C', B', P', S'⟩ := Z'
  obtain ⟨N, HK, HV, OF, OK, OV⟩ := O
  rcases mm_c p0 with ⟨m, hm, rfl⟩ | hm
  · skip
    obtain ⟨a1, a2, a3, a4, a5, a6, a7⟩ := h.1 m hm
    have a1 : B m = B' m := a1
    have a2 : P m = P' m := a2
    have a3 : S m = S' m := a3
    have a4 : pw (P m) := a4
    have a5 : B m + P m ≤ 256 := a5
    have a4' : pw (P' m) := by rw [← a2]; exact a4
    have hr : Rl (B m) (128 * m) (P m) (K, V, T, C) (K', V', F', C') := ⟨a6, h.2.1⟩
    have a7 : IM (128 * m) (P m) (S m) (K', V', F', C') := a7
    rcases mm_c p1 with ⟨w, hw, rfl⟩ | hw
    · rcases (show w = 0 ∨ w = 1 ∨ w = 2 by omega) with rfl | rfl | rfl
      · exact ⟨0, q, (K, V, T, C, B, P, S), vp_updL f 0 (Int32.toInt64 (nI (P m))), nI (P' m), (K', V', F', C', B', P', S'), (N, HK, HV, OF, OK, OV), (c_Law_about_ok l D _ _ _ sa (a 0) o co _ f (nI m) (nI 0) (nI (P m)) rfl (fun x h => h) (fun A h => h) (c_Hop_about_0 l hlt D ca a q K V T C B P S sa m hm a4 a5)), fun A h => h, fun x h => h, c_Mod_about_0 l D cm am z F' K' V' P' B' S' C' N HK HV OF OK OV m hm, h, fun _ => by rw [updL_0, a2]⟩
      · exact ⟨0, q, (K, V, T, C, B, P, S), vp_updL f 0 (Int32.toInt64 (nI (B m))), nI (B' m), (K', V', F', C', B', P', S'), (N, HK, HV, OF, OK, OV), (c_Law_about_ok l D _ _ _ sa (a 0) o co _ f (nI m) (nI 1) (nI (B m)) rfl (fun x h => h) (fun A h => h) (c_Hop_about_1 l hlt D ca a q K V T C B P S sa m hm a4 a5)), fun A h => h, fun x h => h, c_Mod_about_1 l D cm am z F' K' V' P' B' S' C' N HK HV OF OK OV m hm, h, fun _ => by rw [updL_0, a1]⟩
      · exact ⟨0, q, (K, V, T, C, B, P, S), vp_updL f 0 (Int32.toInt64 (S m)), S' m, (K', V', F', C', B', P', S'), (N, HK, HV, OF, OK, OV), (c_Law_about_ok l D _ _ _ sa (a 0) o co _ f (nI m) (nI 2) (S m) rfl (fun x h => h) (fun A h => h) (c_Hop_about_2 l hlt D ca a q K V T C B P S sa m hm a4 a5)), fun A h => h, fun x h => h, c_Mod_about_2 l D cm am z F' K' V' P' B' S' C' N HK HV OF OK OV m hm, h, fun _ => by rw [updL_0, a3]⟩
    · exact ⟨2, q, (K, V, T, C, B, P, S), f, 0, (K', V', F', C', B', P', S'), (N, HK, HV, OF, OK, OV), (c_Law_about_ia l D _ _ _ sa (a 0) o co _ f (nI m) p1  rfl (fun x h => h) (fun A h => h) (c_Hop_about_no l hlt D ca a q K V T C B P S sa m hm a4 a5 p1 (wh_c hw))), fun A h => h, fun x h => h, c_Mod_about_no l D cm am z F' K' V' P' B' S' C' N HK HV OF OK OV m hm p1 hw, h, fun z => absurd z (by decide)⟩
  · exact ⟨1, q, (K, V, T, C, B, P, S), f, 0, (K', V', F', C', B', P', S'), (N, HK, HV, OF, OK, OV), (c_Law_about_io l D _ _ _ sa (a 0) o co _ f p0 p1  rfl (fun x h => h) (fun A h => h) (c_Hop_about_bad l hlt D ca a q K V T C B P S sa p0 p1 hm)), fun A h => h, fun x h => h, c_Mod_about_bad l D cm am z F' K' V' P' B' S' C' N HK HV OF OK OV p0 hm p1, h, fun z => absurd z (by decide)⟩
set_option maxHeartbeats 4000000 in
theorem st_home (l : Launch) (hlt : l.stackTraces = false) (D : va_G) (ca a q cm am sa : Nat → Nat) (o co : Nat) (Z : HS) (f : Nat → Int64) (z : Int32) (Z' : HS) (O : OS) (p0 p1 : Int32) (h : Sim Z Z') : StepP l D ca a q cm am sa o co Z f z Z' O y_Law_home w_Law_home 1 6 y_Mod_home w_Mod_home 3 [.ref (a 0), .int p0, .int p1, .ref o] [.ref (am 0), .int p0, .int p1] (fun b => Int32.toInt64 b) := by
  obtain ⟨K, V, T, C, B, P, S⟩ := Z
  obtain ⟨K', V', F', C', B', P', S'⟩ := Z'
  obtain ⟨N, HK, HV, OF, OK, OV⟩ := O
  rcases mm_c p0 with ⟨m, hm, rfl⟩ | hm
  · skip
    obtain ⟨a1, a2, a3, a4, a5, a6, a7⟩ := h.1 m hm
    have a1 : B m = B' m := a1
    have a2 : P m = P' m := a2
    have a3 : S m = S' m := a3
    have a4 : pw (P m) := a4
    have a5 : B m + P m ≤ 256 := a5
    have a4' : pw (P' m) := by rw [← a2]; exact a4
    have hr : Rl (B m) (128 * m) (P m) (K, V, T, C) (K', V', F', C') := ⟨a6, h.2.1⟩
    have a7 : IM (128 * m) (P m) (S m) (K', V', F', C') := a7
    exact ⟨0, q, (K, V, T, C, B, P, S), vp_updL f 0 (Int32.toInt64 (nI (hom p1 (S m) (P m)))), nI (hom p1 (S' m) (P' m)), (K', V', F', C', B', P', S'), (N, HK, HV, OF, OK, OV), (c_Law_home_ok l D _ _ _ sa (a 0) o co _ f (nI m) p1 (nI (hom p1 (S m) (P m))) rfl (fun x h => h) (fun A h => h) (c_Hop_home l hlt D ca a q K V T C B P S sa m hm a4 a5 p1)), fun A h => h, fun x h => h, c_Mod_home l D cm am z F' K' V' P' B' S' C' N HK HV OF OK OV m hm a4' p1, h, fun _ => by rw [updL_0, a2, a3]⟩
  · exact ⟨1, q, (K, V, T, C, B, P, S), f, 0, (K', V', F', C', B', P', S'), (N, HK, HV, OF, OK, OV), (c_Law_home_io l D _ _ _ sa (a 0) o co _ f p0 p1  rfl (fun x h => h) (fun A h => h) (c_Hop_home_bad l hlt D ca a q K V T C B P S sa p0 p1 hm)), fun A h => h, fun x h => h, c_Mod_home_bad l D cm am z F' K' V' P' B' S' C' N HK HV OF OK OV p0 hm p1, h, fun z => absurd z (by decide)⟩
set_option maxHeartbeats 4000000 in
theorem st_bits (l : Launch) (hlt : l.stackTraces = false) (D : va_G) (ca a q cm am sa : Nat → Nat) (o co : Nat) (Z : HS) (f : Nat → Int64) (z : Int32) (Z' : HS) (O : OS) (p0 p1 : Int32) (h : Sim Z Z') : StepP l D ca a q cm am sa o co Z f z Z' O y_Law_bits w_Law_bits 2 12 y_Mod_bits w_Mod_bits 3 [.ref (a 0), .int p0, .int p1, .ref o] [.ref (am 0), .int p0, .int p1] (fun b => Int32.toInt64 b) := by
  obtain ⟨K, V, T, C, B, P, S⟩ := Z
  obtain ⟨K', V', F', C', B', P', S'⟩ := Z'
  obtain ⟨N, HK, HV, OF, OK, OV⟩ := O
  rcases mm_c p0 with ⟨m, hm, rfl⟩ | hm
  · skip
    obtain ⟨a1, a2, a3, a4, a5, a6, a7⟩ := h.1 m hm
    have a1 : B m = B' m := a1
    have a2 : P m = P' m := a2
    have a3 : S m = S' m := a3
    have a4 : pw (P m) := a4
    have a5 : B m + P m ≤ 256 := a5
    have a4' : pw (P' m) := by rw [← a2]; exact a4
    have hr : Rl (B m) (128 * m) (P m) (K, V, T, C) (K', V', F', C') := ⟨a6, h.2.1⟩
    have a7 : IM (128 * m) (P m) (S m) (K', V', F', C') := a7
    by_cases hpl : 0 ≤ p1 ∧ p1 < nI (P m)
    · obtain ⟨p, hp, rfl⟩ := pl_c (by have := pw_le a4; omega) hpl
      have hp' : p < P' m := by rw [← a2]; exact hp
      have e := rowB_sim (s := S m) a4 hr p
      have e : (fun i => bit T K (B m) (P m) (S m) p i) = fun i => bit F' K' (128 * m) (P' m) (S' m) p i := by rw [← a2, ← a3]; exact e
      exact ⟨0, q, (K, V, T, C, B, P, S), vp_updL f 0 (Int32.toInt64 (rowB (fun i => bit T K (B m) (P m) (S m) p i) 8)), rowB (fun i => bit F' K' (128 * m) (P' m) (S' m) p i) 8, (K', V', F', C', B', P', S'), (N, HK, HV, OF, OK, OV), (c_Law_bits_ok l D _ _ _ sa (a 0) o co _ f (nI m) (nI p) (rowB (fun i => bit T K (B m) (P m) (S m) p i) 8) rfl (fun x h => h) (fun A h => h) (c_Hop_bits l hlt D ca a q K V T C B P S sa m hm a4 a5 p hp)), fun A h => h, fun x h => h, c_Mod_bits l D cm am z F' K' V' P' B' S' C' N HK HV OF OK OV m hm a4' p hp', h, fun _ => by rw [updL_0, e]⟩
    · exact ⟨2, q, (K, V, T, C, B, P, S), f, 0, (K', V', F', C', B', P', S'), (N, HK, HV, OF, OK, OV), (c_Law_bits_ia l D _ _ _ sa (a 0) o co _ f (nI m) p1  rfl (fun x h => h) (fun A h => h) (c_Hop_bits_np l hlt D ca a q K V T C B P S sa m hm a4 a5 p1 hpl)), fun A h => h, fun x h => h, c_Mod_bits_np l D cm am z F' K' V' P' B' S' C' N HK HV OF OK OV m hm a4' p1 (by rw [← a2]; exact hpl), h, fun z => absurd z (by decide)⟩
  · exact ⟨1, q, (K, V, T, C, B, P, S), f, 0, (K', V', F', C', B', P', S'), (N, HK, HV, OF, OK, OV), (c_Law_bits_io l D _ _ _ sa (a 0) o co _ f p0 p1  rfl (fun x h => h) (fun A h => h) (c_Hop_bits_bad l hlt D ca a q K V T C B P S sa p0 p1 hm)), fun A h => h, fun x h => h, c_Mod_bits_bad l D cm am z F' K' V' P' B' S' C' N HK HV OF OK OV p0 hm p1, h, fun z => absurd z (by decide)⟩
set_option maxHeartbeats 4000000 in
theorem st_next (l : Launch) (hlt : l.stackTraces = false) (D : va_G) (ca a q cm am sa : Nat → Nat) (o co : Nat) (Z : HS) (f : Nat → Int64) (z : Int32) (Z' : HS) (O : OS) (p0 p1 : Int32) (h : Sim Z Z') : StepP l D ca a q cm am sa o co Z f z Z' O y_Law_next w_Law_next 2 12 y_Mod_next w_Mod_next 3 [.ref (a 0), .int p0, .int p1, .ref o] [.ref (am 0), .int p0, .int p1] (fun b => Int32.toInt64 b) := by
  obtain ⟨K, V, T, C, B, P, S⟩ := Z
  obtain ⟨K', V', F', C', B', P', S'⟩ := Z'
  obtain ⟨N, HK, HV, OF, OK, OV⟩ := O
  rcases mm_c p0 with ⟨m, hm, rfl⟩ | hm
  · skip
    obtain ⟨a1, a2, a3, a4, a5, a6, a7⟩ := h.1 m hm
    have a1 : B m = B' m := a1
    have a2 : P m = P' m := a2
    have a3 : S m = S' m := a3
    have a4 : pw (P m) := a4
    have a5 : B m + P m ≤ 256 := a5
    have a4' : pw (P' m) := by rw [← a2]; exact a4
    have hr : Rl (B m) (128 * m) (P m) (K, V, T, C) (K', V', F', C') := ⟨a6, h.2.1⟩
    have a7 : IM (128 * m) (P m) (S m) (K', V', F', C') := a7
    by_cases hpl : 0 ≤ p1 ∧ p1 < nI (P m)
    · obtain ⟨p, hp, rfl⟩ := pl_c (by have := pw_le a4; omega) hpl
      have hp' : p < P' m := by rw [← a2]; exact hp
      have e : nxF T (B m) (P m) p (P m - p) = nxF F' (128 * m) (P' m) p (P' m - p) := by rw [← a2]; exact nxF_sim a4 hr _ _
      exact ⟨0, q, (K, V, T, C, B, P, S), vp_updL f 0 (Int32.toInt64 (oI (nxF T (B m) (P m) p (P m - p)))), oI (nxF F' (128 * m) (P' m) p (P' m - p)), (K', V', F', C', B', P', S'), (N, HK, HV, OF, OK, OV), (c_Law_next_ok l D _ _ _ sa (a 0) o co _ f (nI m) (nI p) (oI (nxF T (B m) (P m) p (P m - p))) rfl (fun x h => h) (fun A h => h) (c_Hop_next l hlt D ca a q K V T C B P S sa m hm a4 a5 p hp)), fun A h => h, fun x h => h, c_Mod_next l D cm am z F' K' V' P' B' S' C' N HK HV OF OK OV m hm a4' p hp', h, fun _ => by rw [updL_0, e]⟩
    · exact ⟨2, q, (K, V, T, C, B, P, S), f, 0, (K', V', F', C', B', P', S'), (N, HK, HV, OF, OK, OV), (c_Law_next_ia l D _ _ _ sa (a 0) o co _ f (nI m) p1  rfl (fun x h => h) (fun A h => h) (c_Hop_next_np l hlt D ca a q K V T C B P S sa m hm a4 a5 p1 hpl)), fun A h => h, fun x h => h, c_Mod_next_np l D cm am z F' K' V' P' B' S' C' N HK HV OF OK OV m hm a4' p1 (by rw [← a2]; exact hpl), h, fun z => absurd z (by decide)⟩
  · exact ⟨1, q, (K, V, T, C, B, P, S), f, 0, (K', V', F', C', B', P', S'), (N, HK, HV, OF, OK, OV), (c_Law_next_io l D _ _ _ sa (a 0) o co _ f p0 p1  rfl (fun x h => h) (fun A h => h) (c_Hop_next_bad l hlt D ca a q K V T C B P S sa p0 p1 hm)), fun A h => h, fun x h => h, c_Mod_next_bad l D cm am z F' K' V' P' B' S' C' N HK HV OF OK OV p0 hm p1, h, fun z => absurd z (by decide)⟩
set_option maxHeartbeats 4000000 in
theorem st_key (l : Launch) (hlt : l.stackTraces = false) (D : va_G) (ca a q cm am sa : Nat → Nat) (o co : Nat) (Z : HS) (f : Nat → Int64) (z : Int32) (Z' : HS) (O : OS) (p0 p1 : Int32) (h : Sim Z Z') : StepP l D ca a q cm am sa o co Z f z Z' O y_Law_key w_Law_key 3 18 y_Mod_key w_Mod_key 3 [.ref (a 0), .int p0, .int p1, .ref o] [.ref (am 0), .int p0, .int p1] (fun b => Int32.toInt64 b) := by
  obtain ⟨K, V, T, C, B, P, S⟩ := Z
  obtain ⟨K', V', F', C', B', P', S'⟩ := Z'
  obtain ⟨N, HK, HV, OF, OK, OV⟩ := O
  rcases mm_c p0 with ⟨m, hm, rfl⟩ | hm
  · skip
    obtain ⟨a1, a2, a3, a4, a5, a6, a7⟩ := h.1 m hm
    have a1 : B m = B' m := a1
    have a2 : P m = P' m := a2
    have a3 : S m = S' m := a3
    have a4 : pw (P m) := a4
    have a5 : B m + P m ≤ 256 := a5
    have a4' : pw (P' m) := by rw [← a2]; exact a4
    have hr : Rl (B m) (128 * m) (P m) (K, V, T, C) (K', V', F', C') := ⟨a6, h.2.1⟩
    have a7 : IM (128 * m) (P m) (S m) (K', V', F', C') := a7
    by_cases hpl : 0 ≤ p1 ∧ p1 < nI (P m)
    · obtain ⟨p, hp, rfl⟩ := pl_c (by have := pw_le a4; omega) hpl
      have hp' : p < P' m := by rw [← a2]; exact hp
      have e6 := hr.1 p hp
      have hmd : p % P m = p := Nat.mod_eq_of_lt hp
      cases hT : T (B m + p) with
      | true =>
        have hK : K (B m + p % P m) = K' (128 * m + p) := by rw [hmd]; exact (e6.2 hT).1
        exact ⟨0, q, (K, V, T, C, B, P, S), vp_updL f 0 (Int32.toInt64 (K (B m + p % P m))), K' (128 * m + p), (K', V', F', C', B', P', S'), (N, HK, HV, OF, OK, OV), (c_Law_key_ok l D _ _ _ sa (a 0) o co _ f (nI m) (nI p) (K (B m + p % P m)) rfl (fun x h => h) (fun A h => h) (c_Hop_key l hlt D ca a q K V T C B P S sa m hm a4 a5 p hp (by rw [hmd]; exact hT))), fun A h => h, fun x h => h, c_Mod_key l D cm am z F' K' V' P' B' S' C' N HK HV OF OK OV m hm a4' p hp' (e6.1.symm.trans hT), h, fun _ => by rw [updL_0, hK]⟩
      | false =>
        exact ⟨3, q, (K, V, T, C, B, P, S), f, 0, (K', V', F', C', B', P', S'), (N, HK, HV, OF, OK, OV), (c_Law_key_ns l D _ _ _ sa (a 0) o co _ f (nI m) (nI p)  rfl (fun x h => h) (fun A h => h) (c_Hop_key_no l hlt D ca a q K V T C B P S sa m hm a4 a5 p hp (by rw [hmd]; exact hT))), fun A h => h, fun x h => h, c_Mod_key_no l D cm am z F' K' V' P' B' S' C' N HK HV OF OK OV m hm a4' p hp' (e6.1.symm.trans hT), h, fun z => absurd z (by decide)⟩
    · exact ⟨2, q, (K, V, T, C, B, P, S), f, 0, (K', V', F', C', B', P', S'), (N, HK, HV, OF, OK, OV), (c_Law_key_ia l D _ _ _ sa (a 0) o co _ f (nI m) p1  rfl (fun x h => h) (fun A h => h) (c_Hop_key_np l hlt D ca a q K V T C B P S sa m hm a4 a5 p1 hpl)), fun A h => h, fun x h => h, c_Mod_key_np l D cm am z F' K' V' P' B' S' C' N HK HV OF OK OV m hm a4' p1 (by rw [← a2]; exact hpl), h, fun z => absurd z (by decide)⟩
  · exact ⟨1, q, (K, V, T, C, B, P, S), f, 0, (K', V', F', C', B', P', S'), (N, HK, HV, OF, OK, OV), (c_Law_key_io l D _ _ _ sa (a 0) o co _ f p0 p1  rfl (fun x h => h) (fun A h => h) (c_Hop_key_bad l hlt D ca a q K V T C B P S sa p0 p1 hm)), fun A h => h, fun x h => h, c_Mod_key_bad l D cm am z F' K' V' P' B' S' C' N HK HV OF OK OV p0 hm p1, h, fun z => absurd z (by decide)⟩
set_option maxHeartbeats 4000000 in
theorem st_count (l : Launch) (hlt : l.stackTraces = false) (D : va_G) (ca a q cm am sa : Nat → Nat) (o co : Nat) (Z : HS) (f : Nat → Int64) (z : Int32) (Z' : HS) (O : OS) (p0 : Int32) (h : Sim Z Z') : StepP l D ca a q cm am sa o co Z f z Z' O y_Law_count w_Law_count 1 6 y_Mod_count w_Mod_count 3 [.ref (a 0), .int p0, .ref o] [.ref (am 0), .int p0] (fun b => Int32.toInt64 b) := by
  obtain ⟨K, V, T, C, B, P, S⟩ := Z
  obtain ⟨K', V', F', C', B', P', S'⟩ := Z'
  obtain ⟨N, HK, HV, OF, OK, OV⟩ := O
  rcases mm_c p0 with ⟨k, hk, rfl⟩ | hm
  · have e : C k = C' k := h.2.1 k hk
    exact ⟨0, q, (K, V, T, C, B, P, S), vp_updL f 0 (Int32.toInt64 (C k)), C' k, (K', V', F', C', B', P', S'), (N, HK, HV, OF, OK, OV), (c_Law_count_ok l D _ _ _ sa (a 0) o co _ f (nI k) (C k) rfl (fun x h => h) (fun A h => h) (c_Hop_count l hlt D ca a q K V T C B P S sa k hk)), fun A h => h, fun x h => h, c_Mod_count l D cm am z F' K' V' P' B' S' C' N HK HV OF OK OV k hk, h, fun _ => by rw [updL_0, e]⟩
  · exact ⟨1, q, (K, V, T, C, B, P, S), f, 0, (K', V', F', C', B', P', S'), (N, HK, HV, OF, OK, OV), (c_Law_count_ia l D _ _ _ sa (a 0) o co _ f p0  rfl (fun x h => h) (fun A h => h) (c_Hop_count_no l hlt D ca a q K V T C B P S sa p0 hm)), fun A h => h, fun x h => h, c_Mod_count_no l D cm am z F' K' V' P' B' S' C' N HK HV OF OK OV p0 hm, h, fun z => absurd z (by decide)⟩
