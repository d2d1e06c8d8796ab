def DJ (B P : Nat → Nat) : Prop := ∀ i j, i < 3 → j < 3 → i ≠ j → B i + P i ≤ B j ∨ B j + P j ≤ B i
theorem lowS_no {B : Nat → Nat} {f : Nat} : ∀ (n : Nat), lowS B f n = none → ∀ i, i < n → ¬ f ≤ B i := by
  intro n
  induction n with
  | zero =>
    intro _ i hi
    omega
  | succ n ih =>
    intro h i hi
    cases hq : lowS B f n with
    | none =>
      by_cases hf : f ≤ B n
      · rw [lowS_0 hq hf] at h
        cases h
      · by_cases e : i = n
        · rw [e]; exact hf
        · exact ih hq i (by omega)
    | some j =>
      by_cases hf : f ≤ B n
      · by_cases h2 : B n < B j
        · rw [lowS_s hq hf h2] at h
          cases h
        · rw [lowS_k hq h2] at h
          cases h
      · rw [lowS_n hq hf] at h
        cases h
theorem lowS_min {B : Nat → Nat} {f : Nat} : ∀ (n r : Nat), lowS B f n = some r → ∀ i, i < n → f ≤ B i → B r ≤ B i := by
  intro n
  induction n with
  | zero =>
    intro r h
    cases h
  | succ n ih =>
    intro r h i hi hfi
    cases hq : lowS B f n with
    | none =>
      have hno := lowS_no n hq
      by_cases hf : f ≤ B n
      · rw [lowS_0 hq hf] at h
        cases h
        by_cases e : i = n
        · rw [e]; exact Nat.le_refl _
        · exact absurd hfi (hno i (by omega))
      · rw [lowS_n hq hf] at h
        cases h
    | some j =>
      have hm := ih j hq
      by_cases hf : f ≤ B n
      · by_cases h2 : B n < B j
        · rw [lowS_s hq hf h2] at h
          cases h
          by_cases e : i = n
          · rw [e]; exact Nat.le_refl _
          · have := hm i (by omega) hfi
            omega
        · rw [lowS_k hq h2] at h
          cases h
          by_cases e : i = n
          · rw [e]; omega
          · exact hm i (by omega) hfi
      · rw [lowS_n hq hf] at h
        cases h
        by_cases e : i = n
        · rw [e] at hfi; exact absurd hfi hf
        · exact hm i (by omega) hfi
theorem lowS_is {B : Nat → Nat} {f r : Nat} (hr : r < 3) (h : f ≤ B r) (hm : ∀ i, i < 3 → i ≠ r → f ≤ B i → B r < B i) : lowS B f 3 = some r := by
  cases hq : lowS B f 3 with
  | none => exact absurd h (lowS_no 3 hq r hr)
  | some x =>
    have h1 := lowS_lt 3 x hq
    have h2 := lowS_min 3 x hq r hr h
    by_cases e : x = r
    · rw [e]
    · have := hm x h1.1 e h1.2
      omega
theorem psh_ord {P B : Nat → Nat} {K V : IT} {T : BT} (x y z : Nat) (hx : x < 3) (hy : y < 3) (hz : z < 3) (hxy : x ≠ y) (hxz : x ≠ z) (hyz : y ≠ z) (hp : ∀ i, i < 3 → 0 < P i) (h1 : B x + P x ≤ B y) (h2 : B y + P y ≤ B z) :
    (psh P 3 0 (K, V, T, B)).2.2.2 = va_up (va_up (va_up B x 0) y (0 + P x)) z (0 + P x + P y) := by
  have px := hp x hx
  have py := hp y hy
  have pz := hp z hz
  have e1 : lowS B 0 3 = some x := lowS_is hx (Nat.zero_le _) (fun i hi hne _ => by
    rcases (show i = y ∨ i = z by omega) with rfl | rfl <;> omega)
  have e2 : lowS (va_up B x 0) (0 + P x) 3 = some y := lowS_is hy (by rw [va_up_ne _ _ (Ne.symm hxy)]; omega) (fun i hi hne hf => by
    rw [va_up_ne _ _ (Ne.symm hxy)]
    rcases (show i = x ∨ i = z by omega) with rfl | rfl
    · rw [va_up_self] at hf; omega
    · rw [va_up_ne _ _ (Ne.symm hxz)]; omega)
  have e3 : lowS (va_up (va_up B x 0) y (0 + P x)) (0 + P x + P y) 3 = some z := lowS_is hz (by rw [va_up_ne _ _ (Ne.symm hyz), va_up_ne _ _ (Ne.symm hxz)]; omega) (fun i hi hne hf => by
    rcases (show i = x ∨ i = y by omega) with rfl | rfl
    · rw [va_up_ne _ _ hxy, va_up_self] at hf; omega
    · rw [va_up_self] at hf; omega)
  rw [psh_s (Y := (K, V, T, B)) e1, psh_s e2, psh_s e3]
  rfl
theorem psh_pack {P B : Nat → Nat} {K V : IT} {T : BT} (hp : ∀ i, i < 3 → 0 < P i) (hd : DJ B P) : lastE (psh P 3 0 (K, V, T, B)).2.2.2 P = P 0 + P 1 + P 2 ∧ DJ (psh P 3 0 (K, V, T, B)).2.2.2 P := by
  have p0 := hp 0 (by decide)
  have p1 := hp 1 (by decide)
  have p2 := hp 2 (by decide)
  have d01 := hd 0 1 (by decide) (by decide) (by decide)
  have d02 := hd 0 2 (by decide) (by decide) (by decide)
  have d12 := hd 1 2 (by decide) (by decide) (by decide)
  have fin : ∀ B' : Nat → Nat, (B' 0 + P 0 ≤ B' 1 ∨ B' 1 + P 1 ≤ B' 0) → (B' 0 + P 0 ≤ B' 2 ∨ B' 2 + P 2 ≤ B' 0) → (B' 1 + P 1 ≤ B' 2 ∨ B' 2 + P 2 ≤ B' 1) → DJ B' P := by
    intro B' a b c i j hi hj hne
    rcases (show i = 0 ∨ i = 1 ∨ i = 2 by omega) with rfl | rfl | rfl <;> rcases (show j = 0 ∨ j = 1 ∨ j = 2 by omega) with rfl | rfl | rfl <;> omega
  have go : ∀ B' : Nat → Nat, (psh P 3 0 (K, V, T, B)).2.2.2 = B' → (lastE B' P = P 0 + P 1 + P 2 ∧ DJ B' P) → lastE (psh P 3 0 (K, V, T, B)).2.2.2 P = P 0 + P 1 + P 2 ∧ DJ (psh P 3 0 (K, V, T, B)).2.2.2 P := fun B' e h => by rw [e]; exact h
  by_cases a : B 0 + P 0 ≤ B 1
  · by_cases b : B 1 + P 1 ≤ B 2
    · exact go _ (psh_ord 0 1 2 (by decide) (by decide) (by decide) (by decide) (by decide) (by decide) hp a b) ⟨by simp [lastE, va_up] <;> omega, fin _ (by simp [va_up]) (by simp [va_up]) (by simp [va_up])⟩
    · by_cases c : B 0 + P 0 ≤ B 2
      · exact go _ (psh_ord 0 2 1 (by decide) (by decide) (by decide) (by decide) (by decide) (by decide) hp c (by omega)) ⟨by simp [lastE, va_up] <;> omega, fin _ (by simp [va_up]) (by simp [va_up]) (by simp [va_up])⟩
      · exact go _ (psh_ord 2 0 1 (by decide) (by decide) (by decide) (by decide) (by decide) (by decide) hp (by omega) a) ⟨by simp [lastE, va_up] <;> omega, fin _ (by simp [va_up]) (by simp [va_up]) (by simp [va_up])⟩
  · by_cases b : B 0 + P 0 ≤ B 2
    · exact go _ (psh_ord 1 0 2 (by decide) (by decide) (by decide) (by decide) (by decide) (by decide) hp (by omega) b) ⟨by simp [lastE, va_up] <;> omega, fin _ (by simp [va_up]) (by simp [va_up]) (by simp [va_up])⟩
    · by_cases c : B 1 + P 1 ≤ B 2
      · exact go _ (psh_ord 1 2 0 (by decide) (by decide) (by decide) (by decide) (by decide) (by decide) hp c (by omega)) ⟨by simp [lastE, va_up] <;> omega, fin _ (by simp [va_up]) (by simp [va_up]) (by simp [va_up])⟩
      · exact go _ (psh_ord 2 1 0 (by decide) (by decide) (by decide) (by decide) (by decide) (by decide) hp (by omega) (by omega)) ⟨by simp [lastE, va_up] <;> omega, fin _ (by simp [va_up]) (by simp [va_up]) (by simp [va_up])⟩
def GI (sum c0 j : Nat) (B P : Nat → Nat) : Prop := (∀ i, i < 3 → B i + P i ≤ 256) ∧ DJ B P ∧ (∀ i, i < 3 → 0 < P i) ∧ P 0 + P 1 + P 2 = sum ∧ P j = c0
theorem GI_up {sum c0 j : Nat} {B P : Nat → Nat} {x y : Nat} (hj : j < 3) (h : GI sum c0 j B P) : GI sum c0 j (va_up B 3 x) (va_up P 3 y) := by
  obtain ⟨h1, h2, h3, h4, h5⟩ := h
  have ne : ∀ i, i < 3 → i ≠ 3 := fun i hi => by omega
  refine ⟨fun i hi => ?_, fun i k hi hk hne => ?_, fun i hi => ?_, ?_, ?_⟩
  · rw [va_up_ne _ _ (ne i hi), va_up_ne _ _ (ne i hi)]; exact h1 i hi
  · rw [va_up_ne _ _ (ne i hi), va_up_ne _ _ (ne i hi), va_up_ne _ _ (ne k hk), va_up_ne _ _ (ne k hk)]; exact h2 i k hi hk hne
  · rw [va_up_ne _ _ (ne i hi)]; exact h3 i hi
  · rw [va_up_ne _ _ (by decide : (0 : Nat) ≠ 3), va_up_ne _ _ (by decide : (1 : Nat) ≠ 3), va_up_ne _ _ (by decide : (2 : Nat) ≠ 3)]; exact h4
  · rw [va_up_ne _ _ (ne j hj)]; exact h5
theorem lay_inv {sum c0 j cp : Nat} {sd : Int32} {K V : IT} {T : BT} {C : IT} {B P : Nat → Nat} {S : IT} (hj : j < 3) (h : GI sum c0 j B P) (hs : sum + cp ≤ 256) :
    lastE (layY cp (K, V, T, C, B, P, S)).1.2.2.2 P + cp ≤ 256 ∧ GI sum c0 j (lay cp sd (K, V, T, C, B, P, S)).2.2.2.2.1 (lay cp sd (K, V, T, C, B, P, S)).2.2.2.2.2.1 := by
  have key : lastE (layY cp (K, V, T, C, B, P, S)).1.2.2.2 P + cp ≤ 256 ∧ GI sum c0 j (layY cp (K, V, T, C, B, P, S)).1.2.2.2 P := by
    by_cases hq : 256 < lastE B P + cp
    · have e : layY cp (K, V, T, C, B, P, S) = (psh P 3 0 (K, V, T, B), upd C 2 (C 2 + 1)) := if_pos hq
      rw [e]
      obtain ⟨h1, h2, h3, h4, h5⟩ := h
      obtain ⟨k1, k2⟩ := psh_pack (K := K) (V := V) (T := T) h3 h2
      exact ⟨by rw [k1]; omega, psh_bd 3 0 (K, V, T, B) h1, k2, h3, h4, h5⟩
    · have e : layY cp (K, V, T, C, B, P, S) = ((K, V, T, B), C) := if_neg hq
      rw [e]
      exact ⟨Nat.not_lt.mp hq, h⟩
  exact ⟨key.1, GI_up hj key.2⟩
theorem lay_B3 (cp : Nat) (sd : Int32) (Z : HS) : (lay cp sd Z).2.2.2.2.1 3 = lastE (layY cp Z).1.2.2.2 Z.2.2.2.2.2.1 := by
  exact va_up_self (layY cp Z).1.2.2.2 3 _
theorem lay_P3 (cp : Nat) (sd : Int32) (Z : HS) : (lay cp sd Z).2.2.2.2.2.1 3 = cp := by
  exact va_up_self Z.2.2.2.2.2.1 3 cp
def wX (Z : HS) (X : XS) : HS := (X.1, X.2.1, X.2.2.1, X.2.2.2, Z.2.2.2.2)
def grE (k : HS → Bool × HS) (Z : HS) (r : Bool × XS) : Bool × HS := if r.1 = true then (true, wX Z r.2) else k (wX Z r.2)
def grD (k : HS → Bool × HS) (key val : Int32) (Z : HS) (r : Bool × XS) : Bool × HS := if r.1 = true then grE k Z (ins (Z.2.2.2.2.1 3) (Z.2.2.2.2.2.1 3) (Z.2.2.2.2.2.2 3) key val r.2) else k (wX Z r.2)
def grC (k : HS → Bool × HS) (j : Nat) (key val : Int32) (Z : HS) : Bool × HS := grD k key val Z (anw (Z.2.2.2.2.1 3) (Z.2.2.2.2.2.1 3) (Z.2.2.2.2.2.2 3) (Z.2.2.2.2.1 j) (Z.2.2.2.2.2.1 j) (Z.1, Z.2.1, Z.2.2.1, Z.2.2.2.1))
def grw (j c0 sum : Nat) (key val : Int32) : Nat → Nat → Int32 → HS → Bool × HS
  | 0, _, _, Z => (false, Z)
  | n + 1, d, sd, Z => if 128 < c0 * 2 ^ d ∨ 256 < sum + c0 * 2 ^ d then (false, Z) else grC (fun Z => grw j c0 sum key val n (d + 1) (sd * 1664525 + 1013904223) Z) j key val (lay (c0 * 2 ^ d) (sd * 1664525 + 1013904223) Z)
theorem shD : ∀ d, d ≤ 4 → ((nI d &&& 31).toBitVec.smod 32).toNat = d := by decide
theorem sh_bd {c d : Nat} (hc : c ≤ 128) (hd : d ≤ 4) : c * 2 ^ d ≤ 2048 := by
  rcases (show d = 0 ∨ d = 1 ∨ d = 2 ∨ d = 3 ∨ d = 4 by omega) with rfl | rfl | rfl | rfl | rfl <;> simp <;> omega
theorem pw_sh {c d : Nat} (hc : pw c) (hd : d ≤ 4) (h : c * 2 ^ d ≤ 128) : pw (c * 2 ^ d) := by
  unfold pw at hc ⊢
  rcases (show d = 0 ∨ d = 1 ∨ d = 2 ∨ d = 3 ∨ d = 4 by omega) with rfl | rfl | rfl | rfl | rfl <;> simp at h ⊢ <;> omega
def swp {α : Type} (f : Nat → α) (j : Nat) : Nat → α := fun i => if i = j then f 3 else if i = 3 then f j else f i
theorem pA_swp {q : Nat → Nat} {j : Nat} (hj : j < 3) : va_up (pA q) j (some (q 3)) = pA (swp q j) := by
  funext i
  unfold va_up pA swp
  by_cases h : i = j
  · rw [if_pos h, if_pos (by omega), if_pos h]
  · rw [if_neg h]
    by_cases h3 : i < 3
    · rw [if_pos h3, if_pos h3, if_neg h, if_neg (by omega)]
    · rw [if_neg h3, if_neg h3]
def gW (ca a q : Nat → Nat) (j : Nat) (r : Bool × HS) : va_W := if r.1 = true then wH ca a (swp q j) r.2.1 r.2.2.1 r.2.2.2.1 r.2.2.2.2.1 (swp r.2.2.2.2.2.1 j) (swp r.2.2.2.2.2.2.1 j) (swp r.2.2.2.2.2.2.2 j) else wH ca a q r.2.1 r.2.2.1 r.2.2.2.1 r.2.2.2.2.1 r.2.2.2.2.2.1 r.2.2.2.2.2.2.1 r.2.2.2.2.2.2.2
/-- the two stores that make the spare part a map's -/
def wHs (ca a q : Nat → Nat) (j : Nat) (K V : IT) (T : BT) (C : IT) (B P : Nat → Nat) (S : IT) : va_W :=
  ((wH ca a q K V T C B P S).set 4 (a 4, .inl (ca 4, 3, .inr (.inr (.inr (.inr (va_up (pA q) j (some (q 3))))))))).set 0 (a 0, .inr (0, [.ref (a 1), .ref (a 2), .ref (a 3), .ref (a 4), .ref (a 5), .ref (q j)]))
theorem wHs_P {D : va_G} {ca a q : Nat → Nat} {j : Nat} {K V : IT} {T : BT} {C : IT} {B P : Nat → Nat} {S : IT} {H : Heap} (hj : j < 3) (h : va_P D hCl (wHs ca a q j K V T C B P S) H) : va_P D hCl (wH ca a (swp q j) K V T C (swp B j) (swp P j) (swp S j)) H := by
  unfold wHs at h
  rw [pA_swp hj] at h
  rcases (show j = 0 ∨ j = 1 ∨ j = 2 by omega) with rfl | rfl | rfl
  · exact h.sub [0, 1, 2, 3, 4, 5, 9, 7, 8, 6] rfl
  · exact h.sub [0, 1, 2, 3, 4, 5, 6, 9, 8, 7] rfl
  · exact h.sub [0, 1, 2, 3, 4, 5, 6, 7, 9, 8] rfl
theorem wHs_D {A : Nat → Prop} {ca a q : Nat → Nat} {j : Nat} {K V : IT} {T : BT} {C : IT} {B P : Nat → Nat} {S : IT} {K' V' : IT} {T' : BT} {C' : IT} {B' P' : Nat → Nat} {S' : IT} (hj : j < 3) (h : va_D A (wH ca a q K V T C B P S)) : va_D A (wH ca a (swp q j) K' V' T' C' B' P' S') := by
  rcases (show j = 0 ∨ j = 1 ∨ j = 2 by omega) with rfl | rfl | rfl
  · exact va_Das (h.sub (ws' := [0, 1, 2, 3, 4, 5, 9, 7, 8, 6].filterMap (fun i => (wH ca a q K V T C B P S)[i]?)) [0, 1, 2, 3, 4, 5, 9, 7, 8, 6] (by decide) rfl) rfl
  · exact va_Das (h.sub (ws' := [0, 1, 2, 3, 4, 5, 6, 9, 8, 7].filterMap (fun i => (wH ca a q K V T C B P S)[i]?)) [0, 1, 2, 3, 4, 5, 6, 9, 8, 7] (by decide) rfl) rfl
  · exact va_Das (h.sub (ws' := [0, 1, 2, 3, 4, 5, 6, 7, 9, 8].filterMap (fun i => (wH ca a q K V T C B P S)[i]?)) [0, 1, 2, 3, 4, 5, 6, 7, 9, 8] (by decide) rfl) rfl
theorem gW_D {A : Nat → Prop} {ca a q : Nat → Nat} {j : Nat} {r : Bool × HS} {K V : IT} {T : BT} {C : IT} {B P : Nat → Nat} {S : IT} (hj : j < 3) (h : va_D A (wH ca a q K V T C B P S)) : va_D A (gW ca a q j r) := by
  unfold gW
  by_cases e : r.1 = true
  · rw [if_pos e]; exact wHs_D hj h
  · rw [if_neg e]; exact va_Das h wH_a
