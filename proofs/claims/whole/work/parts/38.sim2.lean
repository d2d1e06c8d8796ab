/-! pushing together keeps what the parts hold -/
theorem cpyI_at {f : IT} {b e : Nat} (h : e ≤ b) : ∀ n i, cpyI f b e n i = if e ≤ i ∧ i < e + n then f (b + (i - e)) else f i := by
  intro n
  induction n with
  | zero => intro i; rw [if_neg (by omega)]; rfl
  | succ n ih =>
    intro i
    show upd (cpyI f b e n) (e + n) (cpyI f b e n (b + n)) i = _
    rw [upd_at, ih (b + n), ih i, if_neg (show ¬ (e ≤ b + n ∧ b + n < e + n) by omega)]
    by_cases hi : i = e + n
    · rw [if_pos hi, if_pos (by omega), hi, show e + n - e = n by omega]
    · rw [if_neg hi]
      by_cases h2 : e ≤ i ∧ i < e + n
      · rw [if_pos h2, if_pos (by omega)]
      · rw [if_neg h2, if_neg (by omega)]
theorem cpyB_at {f : BT} {b e : Nat} (h : e ≤ b) : ∀ n i, cpyB f b e n i = if e ≤ i ∧ i < e + n then f (b + (i - e)) else f i := by
  intro n
  induction n with
  | zero => intro i; rw [if_neg (by omega)]; rfl
  | succ n ih =>
    intro i
    show va_up (cpyB f b e n) (e + n) (cpyB f b e n (b + n)) i = _
    rw [vup_at, ih (b + n), ih i, if_neg (show ¬ (e ≤ b + n ∧ b + n < e + n) by omega)]
    by_cases hi : i = e + n
    · rw [if_pos hi, if_pos (by omega), hi, show e + n - e = n by omega]
    · rw [if_neg hi]
      by_cases h2 : e ≤ i ∧ i < e + n
      · rw [if_pos h2, if_pos (by omega)]
      · rw [if_neg h2, if_neg (by omega)]
theorem mvI {f : IT} {bx by' bz px py pz : Nat} (h1 : bx + px ≤ by') (h2 : by' + py ≤ bz) :
    (∀ p, p < px → cpyI (cpyI (cpyI f bx 0 px) by' (0 + px) py) bz (0 + px + py) pz (0 + p) = f (bx + p)) ∧ (∀ p, p < py → cpyI (cpyI (cpyI f bx 0 px) by' (0 + px) py) bz (0 + px + py) pz (0 + px + p) = f (by' + p)) ∧ (∀ p, p < pz → cpyI (cpyI (cpyI f bx 0 px) by' (0 + px) py) bz (0 + px + py) pz (0 + px + py + p) = f (bz + p)) := by
  have a1 := cpyI_at (f := f) (b := bx) (e := 0) (by omega)
  have a2 := cpyI_at (f := cpyI f bx 0 px) (b := by') (e := 0 + px) (by omega)
  have a3 := cpyI_at (f := cpyI (cpyI f bx 0 px) by' (0 + px) py) (b := bz) (e := 0 + px + py) (by omega)
  refine ⟨fun p hp => ?_, fun p hp => ?_, fun p hp => ?_⟩
  · rw [a3, if_neg (by omega), a2, if_neg (by omega), a1, if_pos (by omega)]; congr 1; omega
  · rw [a3, if_neg (by omega), a2, if_pos (by omega), a1, if_neg (by omega)]; congr 1; omega
  · rw [a3, if_pos (by omega), a2, if_neg (by omega), a1, if_neg (by omega)]; congr 1; omega
theorem mvB {f : BT} {bx by' bz px py pz : Nat} (h1 : bx + px ≤ by') (h2 : by' + py ≤ bz) :
    (∀ p, p < px → cpyB (cpyB (cpyB f bx 0 px) by' (0 + px) py) bz (0 + px + py) pz (0 + p) = f (bx + p)) ∧ (∀ p, p < py → cpyB (cpyB (cpyB f bx 0 px) by' (0 + px) py) bz (0 + px + py) pz (0 + px + p) = f (by' + p)) ∧ (∀ p, p < pz → cpyB (cpyB (cpyB f bx 0 px) by' (0 + px) py) bz (0 + px + py) pz (0 + px + py + p) = f (bz + p)) := by
  have a1 := cpyB_at (f := f) (b := bx) (e := 0) (by omega)
  have a2 := cpyB_at (f := cpyB f bx 0 px) (b := by') (e := 0 + px) (by omega)
  have a3 := cpyB_at (f := cpyB (cpyB f bx 0 px) by' (0 + px) py) (b := bz) (e := 0 + px + py) (by omega)
  refine ⟨fun p hp => ?_, fun p hp => ?_, fun p hp => ?_⟩
  · rw [a3, if_neg (by omega), a2, if_neg (by omega), a1, if_pos (by omega)]; congr 1; omega
  · rw [a3, if_neg (by omega), a2, if_pos (by omega), a1, if_neg (by omega)]; congr 1; omega
  · rw [a3, if_pos (by omega), a2, if_neg (by omega), a1, if_neg (by omega)]; congr 1; omega
theorem psh_ex {P B : Nat → Nat} {x y z : Nat} (K V : IT) (T : BT) (ho : Ord B P x y z) : psh P 3 0 (K, V, T, B) = (cpyI (cpyI (cpyI K (B x) 0 (P x)) (B y) (0 + P x) (P y)) (B z) (0 + P x + P y) (P z), cpyI (cpyI (cpyI V (B x) 0 (P x)) (B y) (0 + P x) (P y)) (B z) (0 + P x + P y) (P z), cpyB (cpyB (cpyB T (B x) 0 (P x)) (B y) (0 + P x) (P y)) (B z) (0 + P x + P y) (P z), pB B P x y z) := by
  obtain ⟨hx, hy, hz, hxy, hxz, hyz, px, py, pz, h1, h2⟩ := ho
  have e1 : lowS B 0 3 = some x := lowS_is hx (Nat.zero_le _) (fun i hi hne _ => by
    rcases (show i = y ∨ i = z by omega) with rfl | rfl <;> omega)
  have e2 : lowS (va_up B x 0) (0 + P x) 3 = some y := lowS_is hy (by rw [va_up_ne _ _ (Ne.symm hxy)]; omega) (fun i hi hne hf => by
    rw [va_up_ne _ _ (Ne.symm hxy)]
    rcases (show i = x ∨ i = z by omega) with rfl | rfl
    · rw [va_up_self] at hf; omega
    · rw [va_up_ne _ _ (Ne.symm hxz)]; omega)
  have e3 : lowS (va_up (va_up B x 0) y (0 + P x)) (0 + P x + P y) 3 = some z := lowS_is hz (by rw [va_up_ne _ _ (Ne.symm hyz), va_up_ne _ _ (Ne.symm hxz)]; omega) (fun i hi hne hf => by
    rcases (show i = x ∨ i = y by omega) with rfl | rfl
    · rw [va_up_ne _ _ hxy, va_up_self] at hf; omega
    · rw [va_up_self] at hf; omega)
  have f1 : va_up B x 0 y = B y := va_up_ne _ _ (Ne.symm hxy)
  have f2 : va_up (va_up B x 0) y (0 + P x) z = B z := by rw [va_up_ne _ _ (Ne.symm hyz), va_up_ne _ _ (Ne.symm hxz)]
  rw [psh_s (Y := (K, V, T, B)) e1, psh_s e2, psh_s e3]
  show psh P 0 _ (cpyI (cpyI (cpyI K (B x) 0 (P x)) (va_up B x 0 y) (0 + P x) (P y)) (va_up (va_up B x 0) y (0 + P x) z) (0 + P x + P y) (P z), cpyI (cpyI (cpyI V (B x) 0 (P x)) (va_up B x 0 y) (0 + P x) (P y)) (va_up (va_up B x 0) y (0 + P x) z) (0 + P x + P y) (P z), cpyB (cpyB (cpyB T (B x) 0 (P x)) (va_up B x 0 y) (0 + P x) (P y)) (va_up (va_up B x 0) y (0 + P x) z) (0 + P x + P y) (P z), pB B P x y z) = _
  rw [f1, f2]
  rfl
theorem pB_v {P B : Nat → Nat} {x y z : Nat} (ho : Ord B P x y z) : pB B P x y z x = 0 ∧ pB B P x y z y = 0 + P x ∧ pB B P x y z z = 0 + P x + P y := by
  obtain ⟨hx, hy, hz, hxy, hxz, hyz, px, py, pz, h1, h2⟩ := ho
  unfold pB
  refine ⟨?_, ?_, ?_⟩
  · rw [va_up_ne _ _ hxz, va_up_ne _ _ hxy, va_up_self]
  · rw [va_up_ne _ _ hyz, va_up_self]
  · rw [va_up_self]
theorem psh_cn {P B : Nat → Nat} {K V : IT} {T : BT} (hp : ∀ i, i < 3 → 0 < P i) (hd : DJ B P) {r p : Nat} (hr : r < 3) (hpr : p < P r) :
    (psh P 3 0 (K, V, T, B)).2.2.1 ((psh P 3 0 (K, V, T, B)).2.2.2 r + p) = T (B r + p) ∧ (psh P 3 0 (K, V, T, B)).1 ((psh P 3 0 (K, V, T, B)).2.2.2 r + p) = K (B r + p) ∧ (psh P 3 0 (K, V, T, B)).2.1 ((psh P 3 0 (K, V, T, B)).2.2.2 r + p) = V (B r + p) := by
  obtain ⟨x, y, z, ho⟩ := DJ_Ord hp hd
  have hv := pB_v ho
  rw [psh_ex K V T ho]
  obtain ⟨hx, hy, hz, hxy, hxz, hyz, px, py, pz, h1, h2⟩ := ho
  show cpyB (cpyB (cpyB T (B x) 0 (P x)) (B y) (0 + P x) (P y)) (B z) (0 + P x + P y) (P z) (pB B P x y z r + p) = T (B r + p) ∧ cpyI (cpyI (cpyI K (B x) 0 (P x)) (B y) (0 + P x) (P y)) (B z) (0 + P x + P y) (P z) (pB B P x y z r + p) = K (B r + p) ∧ cpyI (cpyI (cpyI V (B x) 0 (P x)) (B y) (0 + P x) (P y)) (B z) (0 + P x + P y) (P z) (pB B P x y z r + p) = V (B r + p)
  have mT := mvB (f := T) (pz := P z) h1 h2
  have mK := mvI (f := K) (pz := P z) h1 h2
  have mV := mvI (f := V) (pz := P z) h1 h2
  rcases (show r = x ∨ r = y ∨ r = z by omega) with rfl | rfl | rfl
  · rw [hv.1]; exact ⟨mT.1 p hpr, mK.1 p hpr, mV.1 p hpr⟩
  · rw [hv.2.1]; exact ⟨mT.2.1 p hpr, mK.2.1 p hpr, mV.2.1 p hpr⟩
  · rw [hv.2.2]; exact ⟨mT.2.2 p hpr, mK.2.2 p hpr, mV.2.2 p hpr⟩
theorem Ord_as {B P B' P' : Nat → Nat} {x y z : Nat} (hB : ∀ r, r < 3 → B r = B' r) (hP : ∀ r, r < 3 → P r = P' r) (h : Ord B P x y z) : Ord B' P' x y z := by
  obtain ⟨hx, hy, hz, hxy, hxz, hyz, px, py, pz, h1, h2⟩ := h
  have b1 := hB x hx
  have b2 := hB y hy
  have b3 := hB z hz
  have p1 := hP x hx
  have p2 := hP y hy
  have p3 := hP z hz
  exact ⟨hx, hy, hz, hxy, hxz, hyz, by omega, by omega, by omega, by omega, by omega⟩
theorem lastE_as {B P B' P' : Nat → Nat} (hB : ∀ r, r < 3 → B r = B' r) (hP : ∀ r, r < 3 → P r = P' r) : lastE B P = lastE B' P' := by
  unfold lastE
  rw [hB 0 (by decide), hB 1 (by decide), hB 2 (by decide), hP 0 (by decide), hP 1 (by decide), hP 2 (by decide)]
theorem lastE_ge {B P : Nat → Nat} {r : Nat} (hr : r < 3) : B r + P r ≤ lastE B P := by
  unfold lastE
  rcases (show r = 0 ∨ r = 1 ∨ r = 2 by omega) with rfl | rfl | rfl <;> omega
/-- the bases behind a layout are the reference's -/
theorem layY_B {cp : Nat} {K V : IT} {T : BT} {C C' : IT} {B P S0 : Nat → Nat} {S : IT} {B' Q : Nat → Nat} (hp : ∀ i, i < 3 → 0 < P i) (hd : DJ B P) (hB : ∀ r, r < 3 → B r = B' r) (hP : ∀ r, r < 3 → P r = Q r) (hC : ∀ k, k < 3 → C k = C' k) :
    (∀ r, r < 3 → (layY cp (K, V, T, C, B, P, S)).1.2.2.2 r = (lyB cp Q B' C').1 r) ∧ (∀ k, k < 3 → (layY cp (K, V, T, C, B, P, S)).2 k = (lyB cp Q B' C').2 k) ∧
    (∀ r p, r < 3 → p < P r → (layY cp (K, V, T, C, B, P, S)).1.2.2.1 ((layY cp (K, V, T, C, B, P, S)).1.2.2.2 r + p) = T (B r + p) ∧ (layY cp (K, V, T, C, B, P, S)).1.1 ((layY cp (K, V, T, C, B, P, S)).1.2.2.2 r + p) = K (B r + p) ∧ (layY cp (K, V, T, C, B, P, S)).1.2.1 ((layY cp (K, V, T, C, B, P, S)).1.2.2.2 r + p) = V (B r + p)) := by
  have hl := lastE_as hB hP
  by_cases h : 256 < lastE B P + cp
  · have e : layY cp (K, V, T, C, B, P, S) = (psh P 3 0 (K, V, T, B), upd C 2 (C 2 + 1)) := if_pos h
    have e' : lyB cp Q B' C' = (pshB Q B', upd C' 2 (C' 2 + 1)) := if_pos (by rw [← hl]; exact h)
    obtain ⟨x, y, z, ho⟩ := DJ_Ord hp hd
    have ho' := Ord_as hB hP ho
    rw [e, e']
    refine ⟨fun r hr => ?_, fun k hk => ?_, fun r p hr hpr => psh_cn hp hd hr hpr⟩
    · have hq : ∀ i, i < 3 → 0 < Q i := fun i hi => by rw [← hP i hi]; exact hp i hi
      have v := pB_v ho
      have v' := pB_v ho'
      show (psh P 3 0 (K, V, T, B)).2.2.2 r = pshB Q B' r
      unfold pshB
      rw [Ord_psh hp ho, Ord_psh hq ho']
      have px := hP x ho.1
      have py := hP y ho.2.1
      have hx := ho.1
      have hy := ho.2.1
      have hz := ho.2.2.1
      have n1 := ho.2.2.2.1
      have n2 := ho.2.2.2.2.1
      have n3 := ho.2.2.2.2.2.1
      rcases (show r = x ∨ r = y ∨ r = z by omega) with e | e | e
      · rw [e, v.1, v'.1]
      · rw [e, v.2.1, v'.2.1, px]
      · rw [e, v.2.2, v'.2.2, px, py]
    · show upd C 2 (C 2 + 1) k = upd C' 2 (C' 2 + 1) k
      rw [upd_at, upd_at, hC k hk, hC 2 (by decide)]
  · have e : layY cp (K, V, T, C, B, P, S) = ((K, V, T, B), C) := if_neg h
    have e' : lyB cp Q B' C' = (B', C') := if_neg (by rw [← hl]; exact h)
    rw [e, e']
    exact ⟨hB, hC, fun r p _ _ => ⟨rfl, rfl, rfl⟩⟩
/-! growing: class and reference step alike -/
abbrev xs (Z : HS) : XS := (Z.1, Z.2.1, Z.2.2.1, Z.2.2.2.1)
abbrev zC (Z : HS) : IT := Z.2.2.2.1
abbrev zB (Z : HS) : Nat → Nat := Z.2.2.2.2.1
abbrev zP (Z : HS) : Nat → Nat := Z.2.2.2.2.2.1
abbrev zS (Z : HS) : IT := Z.2.2.2.2.2.2
def Rp (o o' c : Nat) (X X' : XS) : Prop := ∀ p, p < c → X.2.2.1 (o + p) = X'.2.2.1 (o' + p) ∧ (X.2.2.1 (o + p) = true → X.1 (o + p) = X'.1 (o' + p) ∧ X.2.1 (o + p) = X'.2.1 (o' + p))
def Ag (o c b : Nat) (X Y : XS) : Prop := ∀ p, p < c → Y.2.2.1 (b + p) = X.2.2.1 (o + p) ∧ Y.1 (b + p) = X.1 (o + p) ∧ Y.2.1 (b + p) = X.2.1 (o + p)
theorem Rp_as {o o' c b b' : Nat} {X X' Y Y' : XS} (h : Rp o o' c X X') (h1 : Ag o c b X Y) (h2 : Ag o' c b' X' Y') : Rp b b' c Y Y' := fun p hp => by
  have e := h p hp
  have e1 := h1 p hp
  have e2 := h2 p hp
  rw [e1.1, e1.2.1, e1.2.2, e2.1, e2.2.1, e2.2.2]
  exact e
theorem IM_as {o c b : Nat} {s : Int32} {X Y : XS} (h : IM o c s X) (h1 : Ag o c b X Y) : IM b c s Y := by
  refine ⟨fun p hp hq => ?_, fun p q hp hq a1 a2 a3 => ?_⟩
  · have e := h1 p hp
    rw [e.1] at hq
    rw [e.2.1]
    exact h.1 p hp hq
  · have e := h1 p hp
    have e2 := h1 q hq
    rw [e.1] at a1
    rw [e2.1] at a2
    rw [e.2.1, e2.2.1] at a3
    exact h.2 p q hp hq a1 a2 a3
theorem Ag.id {o c : Nat} {X : XS} : Ag o c o X X := fun _ _ => ⟨rfl, rfl, rfl⟩
theorem Ag_fr {o c b d : Nat} {X Y : XS} (h : Fr b d X Y) (hd : o + c ≤ b ∨ b + d ≤ o) : Ag o c o X Y := fun p hp => h (o + p) (by omega)
def HL (c N2 : Nat) (HK HV : IT) (key val : Int32) (OX : XS) (cn : Nat → Nat) : Prop := cn 0 = 0 ∧ (∀ i, i < c → (OX.2.2.1 i = true → cn (i + 1) = cn i + 1 ∧ HK (cn i) = OX.1 i ∧ HV (cn i) = OX.2.1 i) ∧ (OX.2.2.1 i = false → cn (i + 1) = cn i)) ∧ HK (cn c) = key ∧ HV (cn c) = val ∧ N2 = cn c + 1 ∧ (∀ a b, a < b → b < N2 → HK a ≠ HK b) ∧ (∀ i, i ≤ c → cn i ≤ cn c)
def cmb (o c : Nat) (s key val : Int32) (A : Bool × XS) : Bool × XS := if A.1 = true then ins o c s key val A.2 else A
theorem insA_1 {o c : Nat} {s : Int32} {HK HV : IT} {k : Nat} {X : XS} : insA o c s HK HV 1 k X = ins o c s (HK k) (HV k) X := by
  cases h : (ins o c s (HK k) (HV k) X).1 with
  | true => rw [insA_t h]; exact Prod.ext h.symm rfl
  | false => rw [insA_f h]; exact Prod.ext h.symm rfl
theorem anwA {o o' c c0 b0 N2 : Nat} {s key val : Int32} {HK HV : IT} {OX : XS} {cn : Nat → Nat} (hc : pw c) (hL : HL c0 N2 HK HV key val OX cn) (hdj : b0 + c0 ≤ o ∨ o + c ≤ b0) :
    ∀ (n i : Nat) (X X' : XS), i + n = c0 → Rl o o' c X X' → Rp b0 0 c0 X OX → IM o' c s X' → KS o' c (fun k => ∃ a, a < cn i ∧ k = HK a) X' →
      (cmb o c s key val (anw o c s (b0 + i) n X)).1 = (insA o' c s HK HV (N2 - cn i) (cn i) X').1 ∧ Rl o o' c (cmb o c s key val (anw o c s (b0 + i) n X)).2 (insA o' c s HK HV (N2 - cn i) (cn i) X').2 ∧ Fr o c X (cmb o c s key val (anw o c s (b0 + i) n X)).2 ∧ Fr o' c X' (insA o' c s HK HV (N2 - cn i) (cn i) X').2 ∧ ((insA o' c s HK HV (N2 - cn i) (cn i) X').1 = true → IM o' c s (insA o' c s HK HV (N2 - cn i) (cn i) X').2) := by
  obtain ⟨l0, l1, l2, l3, l4, l5, l6⟩ := hL
  intro n
  induction n with
  | zero =>
    intro i X X' hi hr hO hI hK
    have hic : i = c0 := by omega
    subst hic
    have hn : N2 - cn i = 1 := by omega
    have e1 : anw o c s (b0 + i) 0 X = (true, X) := rfl
    have e2 : cmb o c s key val (true, X) = ins o c s key val X := if_pos rfl
    rw [e1, e2, hn, insA_1, l2, l3]
    have hs := ins_sim (s := s) (key := key) (val := val) hc hr
    have hno : KS o' c (fun k => k ≠ key) X' := fun p hp hq z => by
      obtain ⟨a, ha, he⟩ := hK p hp hq
      exact l5 a (cn i) ha (by omega) (he.symm.trans (z.trans l2.symm))
    exact ⟨hs.1, hs.2, ins_fr hc, ins_fr hc, fun _ => (ins_IM hc hno hI).1⟩
  | succ n ih =>
    intro i X X' hi hr hO hI hK
    have hiO := hO i (by omega)
    rw [Nat.zero_add] at hiO
    have hl := l1 i (by omega)
    cases hT : X.2.2.1 (b0 + i) with
    | false =>
      rw [anw_f hT]
      have hOf : OX.2.2.1 i = false := hiO.1.symm.trans hT
      have hcn := hl.2 hOf
      have z := ih (i + 1) X X' (by omega) hr hO hI (by rw [hcn]; exact hK)
      rw [hcn] at z
      exact z
    | true =>
      have hOt : OX.2.2.1 i = true := hiO.1.symm.trans hT
      have hl2 := hl.1 hOt
      have hcle := l6 (i + 1) (by omega)
      have hk : X.1 (b0 + i) = HK (cn i) := (hiO.2 hT).1.trans hl2.2.1.symm
      have hv : X.2.1 (b0 + i) = HV (cn i) := (hiO.2 hT).2.trans hl2.2.2.symm
      have hs := ins_sim (s := s) (key := HK (cn i)) (val := HV (cn i)) hc hr
      have hno : KS o' c (fun k => k ≠ HK (cn i)) X' := fun p hp hq z => by
        obtain ⟨a, ha, he⟩ := hK p hp hq
        exact l5 a (cn i) ha (by omega) (he.symm.trans z)
      have hIM := ins_IM (val := HV (cn i)) hc hno hI
      have hN : N2 - cn i = (N2 - cn (i + 1)) + 1 := by omega
      cases hb : (ins o c s (HK (cn i)) (HV (cn i)) X).1 with
      | false =>
        have e1 : anw o c s (b0 + i) (n + 1) X = (false, (ins o c s (HK (cn i)) (HV (cn i)) X).2) := by
          rw [anw_n hT (by rw [hk, hv]; exact hb), hk, hv]
        have e2 : cmb o c s key val (false, (ins o c s (HK (cn i)) (HV (cn i)) X).2) = (false, (ins o c s (HK (cn i)) (HV (cn i)) X).2) := if_neg (fun z => absurd (show false = true from z) (by decide))
        have e3 : insA o' c s HK HV (N2 - cn i) (cn i) X' = (false, (ins o' c s (HK (cn i)) (HV (cn i)) X').2) := by
          rw [hN, insA_f (hs.1.symm.trans hb)]
        rw [e1, e2, e3]
        exact ⟨rfl, hs.2, ins_fr hc, ins_fr hc, fun z => absurd (show false = true from z) (by decide)⟩
      | true =>
        have e1 : anw o c s (b0 + i) (n + 1) X = anw o c s (b0 + (i + 1)) n (ins o c s (HK (cn i)) (HV (cn i)) X).2 := by
          rw [anw_t hT (by rw [hk, hv]; exact hb), hk, hv]
          rfl
        have e3 : insA o' c s HK HV (N2 - cn i) (cn i) X' = insA o' c s HK HV (N2 - cn (i + 1)) (cn (i + 1)) (ins o' c s (HK (cn i)) (HV (cn i)) X').2 := by
          rw [hN, insA_t (hs.1.symm.trans hb), hl2.1]
        rw [e1, e3]
        have hfr := ins_fr (o := o) (s := s) (key := HK (cn i)) (val := HV (cn i)) (X := X) hc
        have hfr' := ins_fr (o := o') (s := s) (key := HK (cn i)) (val := HV (cn i)) (X := X') hc
        have z := ih (i + 1) (ins o c s (HK (cn i)) (HV (cn i)) X).2 (ins o' c s (HK (cn i)) (HV (cn i)) X').2 (by omega) hs.2 (Rp_as hO (Ag_fr hfr hdj) Ag.id) hIM.1
          (hIM.2.1 (fun k => ∃ a, a < cn (i + 1) ∧ k = HK a) (fun p hp hq => by
            obtain ⟨a, ha, he⟩ := hK p hp hq
            exact ⟨a, by omega, he⟩) ⟨cn i, by omega, rfl⟩)
        exact ⟨z.1, z.2.1, hfr.tr z.2.2.1, hfr'.tr z.2.2.2.1, z.2.2.2.2⟩
def Sim (Z Z' : HS) : Prop := (∀ r, r < 3 → zB Z r = zB Z' r ∧ zP Z r = zP Z' r ∧ zS Z r = zS Z' r ∧ pw (zP Z r) ∧ zB Z r + zP Z r ≤ 256 ∧ Rp (zB Z r) (128 * r) (zP Z r) (xs Z) (xs Z') ∧ IM (128 * r) (zP Z r) (zS Z r) (xs Z')) ∧ (∀ k, k < 3 → zC Z k = zC Z' k) ∧ DJ (zB Z) (zP Z)
def GS (j : Nat) (Q : Nat → Nat) (s0 : Int32) (OX : XS) (Z Z' : HS) : Prop := (∀ r, r < 3 → zB Z r = zB Z' r ∧ zP Z r = Q r ∧ pw (Q r) ∧ zB Z r + Q r ≤ 256) ∧ DJ (zB Z) (zP Z) ∧ (∀ k, k < 3 → zC Z k = zC Z' k) ∧
  (∀ r, r < 3 → r ≠ j → zS Z r = zS Z' r ∧ zP Z' r = Q r ∧ Rp (zB Z r) (128 * r) (Q r) (xs Z) (xs Z') ∧ IM (128 * r) (Q r) (zS Z r) (xs Z')) ∧ zS Z j = s0 ∧ Rp (zB Z j) 0 (Q j) (xs Z) OX
def pbZ (j : Nat) (OX : XS) (c0 : Nat) (s0 : Int32) (Z : HS) : HS := (pbL Z.1 OX.1 (128 * j) 128, pbL Z.2.1 OX.2.1 (128 * j) 128, pbB Z.2.2.1 OX.2.2.1 (128 * j) 128, Z.2.2.2.1, Z.2.2.2.2.1, va_up Z.2.2.2.2.2.1 j c0, upd Z.2.2.2.2.2.2 j s0)
def swZ (j : Nat) (Z : HS) : HS := (Z.1, Z.2.1, Z.2.2.1, Z.2.2.2.1, swp Z.2.2.2.2.1 j, swp Z.2.2.2.2.2.1 j, swp Z.2.2.2.2.2.2 j)
theorem GS_ref {j : Nat} {Q : Nat → Nat} {s0 : Int32} {OX : XS} {Z Z' : HS} (hj : j < 3) (hI : IM 0 (Q j) s0 OX) (h : GS j Q s0 OX Z Z') : Sim Z (pbZ j OX (Q j) s0 Z') := by
  obtain ⟨g1, g2, g3, g4, g5, g6⟩ := h
  refine ⟨fun r hr => ?_, g3, g2⟩
  obtain ⟨a1, a2, a3, a4⟩ := g1 r hr
  have h8 := pw_le a3
  by_cases e : r = j
  · subst e
    have ag : Ag 0 (Q r) (128 * r) OX (xs (pbZ r OX (Q r) s0 Z')) := fun p hp => by
      rw [Nat.zero_add]
      have e1 : 128 * r ≤ 128 * r + p ∧ 128 * r + p < 128 * r + 128 := by omega
      refine ⟨(if_pos e1).trans ?_, (if_pos e1).trans ?_, (if_pos e1).trans ?_⟩ <;> rw [show 128 * r + p - 128 * r = p by omega]
    refine ⟨a1, ?_, ?_, by rw [a2]; exact a3, by rw [a2]; exact a4, by rw [a2]; exact Rp_as g6 Ag.id ag, by rw [a2, g5]; exact IM_as hI ag⟩
    · rw [a2]; exact (va_up_self _ _ _).symm
    · rw [g5]; exact (if_pos rfl).symm
  · obtain ⟨b1, b2, b3, b4⟩ := g4 r hr e
    have ag : Ag (128 * r) (Q r) (128 * r) (xs Z') (xs (pbZ j OX (Q j) s0 Z')) := fun p hp => by
      have e1 : ¬ (128 * j ≤ 128 * r + p ∧ 128 * r + p < 128 * j + 128) := by omega
      exact ⟨if_neg e1, if_neg e1, if_neg e1⟩
    refine ⟨a1, ?_, ?_, by rw [a2]; exact a3, by rw [a2]; exact a4, by rw [a2]; exact Rp_as b3 Ag.id ag, by rw [a2]; exact IM_as b4 ag⟩
    · rw [a2]; exact (b2.symm.trans (va_up_ne _ _ e).symm)
    · rw [b1]; exact (if_neg e).symm
theorem lay_GS {j cp : Nat} {sd : Int32} {Q : Nat → Nat} {s0 : Int32} {OX : XS} {Z Z' : HS} (hj : j < 3) (hs : Q 0 + Q 1 + Q 2 + cp ≤ 256) (hsd : sd = zS Z' j) (h : GS j Q s0 OX Z Z') :
    GS j Q s0 OX (lay cp (sd * 1664525 + 1013904223) Z) (grM1 j cp Q Z') ∧ zB (lay cp (sd * 1664525 + 1013904223) Z) 3 = lastE (zB (grM1 j cp Q Z')) Q ∧ zP (lay cp (sd * 1664525 + 1013904223) Z) 3 = cp ∧ zS (lay cp (sd * 1664525 + 1013904223) Z) 3 = sd * 1664525 + 1013904223 ∧ zS (grM1 j cp Q Z') j = sd * 1664525 + 1013904223 ∧ zP (grM1 j cp Q Z') j = cp ∧ zB (lay cp (sd * 1664525 + 1013904223) Z) 3 + cp ≤ 256 ∧ (∀ r, r < 3 → zB (lay cp (sd * 1664525 + 1013904223) Z) r + Q r ≤ zB (lay cp (sd * 1664525 + 1013904223) Z) 3) ∧
    (∀ p, p < cp → (lay cp (sd * 1664525 + 1013904223) Z).2.2.1 (zB (lay cp (sd * 1664525 + 1013904223) Z) 3 + p) = false) ∧ (∀ p, p < 128 → (grM1 j cp Q Z').2.2.1 (128 * j + p) = false) := by
  obtain ⟨K, V, T, C, B, P, S⟩ := Z
  obtain ⟨K', V', F', C', B', P', S'⟩ := Z'
  obtain ⟨g1, g2, g3, g4, g5, g6⟩ := h
  have g1 : ∀ r, r < 3 → B r = B' r ∧ P r = Q r ∧ pw (Q r) ∧ B r + Q r ≤ 256 := g1
  have hBB : ∀ r, r < 3 → B r = B' r := fun r hr => (g1 r hr).1
  have hPQ : ∀ r, r < 3 → P r = Q r := fun r hr => (g1 r hr).2.1
  have hp : ∀ i, i < 3 → 0 < P i := fun i hi => by rw [hPQ i hi]; exact pw_pos (g1 i hi).2.2.1
  have hG : GI (Q 0 + Q 1 + Q 2) (P j) j B P := ⟨fun i hi => by rw [hPQ i hi]; exact (g1 i hi).2.2.2, g2, hp, by rw [hPQ 0 (by decide), hPQ 1 (by decide), hPQ 2 (by decide)], rfl⟩
  have hY := layY_B (cp := cp) (K := K) (V := V) (T := T) (S := S) (S0 := B) (C := C) (C' := C') (B' := B') (Q := Q) hp g2 hBB hPQ g3
  have hinv := lay_inv (sd := sd * 1664525 + 1013904223) (K := K) (V := V) (T := T) (C := C) (S := S) hj hG hs
  have hY1 := hY.1
  have hY2 := hY.2.1
  have hY3 := hY.2.2
  have hE : lay cp (sd * 1664525 + 1013904223) (K, V, T, C, B, P, S) = layE cp (sd * 1664525 + 1013904223) P S (layY cp (K, V, T, C, B, P, S)) := rfl
  have hE' : grM1 j cp Q (K', V', F', C', B', P', S') = (K', V', clr F' (128 * j) 128, upd (lyB cp Q B' C').2 1 ((lyB cp Q B' C').2 1 + 1), (lyB cp Q B' C').1, va_up P' j cp, upd S' j (S' j * 1664525 + 1013904223)) := rfl
  rw [hE] at hinv ⊢
  rw [hE']
  generalize layY cp (K, V, T, C, B, P, S) = Y at *
  obtain ⟨⟨K1, V1, T1, B1⟩, C1⟩ := Y
  generalize lyB cp Q B' C' = L at *
  obtain ⟨B2, C2⟩ := L
  have hY1 : ∀ r, r < 3 → B1 r = B2 r := hY1
  have hY2 : ∀ k, k < 3 → C1 k = C2 k := hY2
  have hY3 : ∀ r p, r < 3 → p < P r → T1 (B1 r + p) = T (B r + p) ∧ K1 (B1 r + p) = K (B r + p) ∧ V1 (B1 r + p) = V (B r + p) := hY3
  have hfit : lastE B1 P + cp ≤ 256 := hinv.1
  have hl := lastE_as hY1 hPQ
  have ne3 : ∀ r, r < 3 → r ≠ 3 := fun r hr => by omega
  have hge : ∀ r, r < 3 → B1 r + Q r ≤ lastE B1 P := fun r hr => by rw [← hPQ r hr]; exact lastE_ge hr
  have hGI := hinv.2
  have hdj : DJ (va_up B1 3 (lastE B1 P)) (va_up P 3 cp) := hGI.2.1
  have hag : ∀ r, r < 3 → Ag (B r) (Q r) (B1 r) (K, V, T, C) (K1, V1, clr T1 (lastE B1 P) cp, upd C1 1 (C1 1 + 1)) := fun r hr p hp9 => by
    have z := hY3 r p hr (by rw [hPQ r hr]; exact hp9)
    have z2 := hge r hr
    have e1 : ¬ (lastE B1 P ≤ B1 r + p ∧ B1 r + p < lastE B1 P + cp) := by omega
    exact ⟨(if_neg e1).trans z.1, z.2.1, z.2.2⟩
  have hag' : ∀ r, r < 3 → r ≠ j → Ag (128 * r) (Q r) (128 * r) (K', V', F', C') (K', V', clr F' (128 * j) 128, upd C2 1 (C2 1 + 1)) := fun r hr hne p hp9 => by
    have h8 := pw_le (g1 r hr).2.2.1
    have e1 : ¬ (128 * j ≤ 128 * r + p ∧ 128 * r + p < 128 * j + 128) := by omega
    exact ⟨if_neg e1, rfl, rfl⟩
  have hLE : layE cp (sd * 1664525 + 1013904223) P S ((K1, V1, T1, B1), C1) = (K1, V1, clr T1 (lastE B1 P) cp, upd C1 1 (C1 1 + 1), va_up B1 3 (lastE B1 P), va_up P 3 cp, upd S 3 (sd * 1664525 + 1013904223)) := rfl
  rw [hLE]
  have u1 : upd S 3 (sd * 1664525 + 1013904223) 3 = sd * 1664525 + 1013904223 := if_pos rfl
  have u2 : upd S' j (S' j * 1664525 + 1013904223) j = S' j * 1664525 + 1013904223 := if_pos rfl
  have b3 : va_up B1 3 (lastE B1 P) 3 = lastE B1 P := va_up_self _ _ _
  refine ⟨⟨fun r hr => ?_, hdj, fun k hk => ?_, fun r hr hne => ?_, ?_, ?_⟩, ?_, va_up_self P 3 cp, u1, ?_, va_up_self P' j cp, ?_, fun r hr => ?_, fun p hp9 => ?_, fun p hp9 => ?_⟩
  · refine ⟨(va_up_ne _ _ (ne3 r hr)).trans (hY1 r hr), (va_up_ne _ _ (ne3 r hr)).trans (hPQ r hr), (g1 r hr).2.2.1, ?_⟩
    show va_up B1 3 (lastE B1 P) r + Q r ≤ 256
    rw [va_up_ne _ _ (ne3 r hr)]
    have := hge r hr
    omega
  · show upd C1 1 (C1 1 + 1) k = upd C2 1 (C2 1 + 1) k
    rw [upd_at, upd_at, hY2 k hk, hY2 1 (by decide)]
  · have q := g4 r hr hne
    have e3 : upd S 3 (sd * 1664525 + 1013904223) r = S r := if_neg (ne3 r hr)
    have e4 : upd S' j (S' j * 1664525 + 1013904223) r = S' r := if_neg hne
    refine ⟨(e3.trans q.1).trans e4.symm, (va_up_ne _ _ hne).trans q.2.1, ?_, ?_⟩
    · show Rp (va_up B1 3 (lastE B1 P) r) (128 * r) (Q r) _ _
      rw [va_up_ne _ _ (ne3 r hr)]
      exact Rp_as q.2.2.1 (hag r hr) (hag' r hr hne)
    · show IM (128 * r) (Q r) (upd S 3 (sd * 1664525 + 1013904223) r) _
      rw [e3]
      exact IM_as q.2.2.2 (hag' r hr hne)
  · exact (if_neg (ne3 j hj)).trans g5
  · show Rp (va_up B1 3 (lastE B1 P) j) 0 (Q j) _ _
    rw [va_up_ne _ _ (ne3 j hj)]
    exact Rp_as g6 (hag j hj) Ag.id
  · exact b3.trans hl
  · rw [hsd]; exact u2
  · show va_up B1 3 (lastE B1 P) 3 + cp ≤ 256
    rw [b3]; exact hfit
  · show va_up B1 3 (lastE B1 P) r + Q r ≤ va_up B1 3 (lastE B1 P) 3
    rw [b3, va_up_ne _ _ (ne3 r hr)]; exact hge r hr
  · show clr T1 (lastE B1 P) cp (va_up B1 3 (lastE B1 P) 3 + p) = false
    rw [b3]; exact if_pos (by omega)
  · exact if_pos (by omega)
theorem grD_cmb {k : HS → Bool × HS} {key val : Int32} {Z : HS} {r : Bool × XS} : grD k key val Z r = if (cmb (zB Z 3) (zP Z 3) (zS Z 3) key val r).1 = true then (true, wX Z (cmb (zB Z 3) (zP Z 3) (zS Z 3) key val r).2) else k (wX Z (cmb (zB Z 3) (zP Z 3) (zS Z 3) key val r).2) := by
  unfold grD cmb
  by_cases h : r.1 = true
  · rw [if_pos h, if_pos h]
    rfl
  · rw [if_neg h, if_neg h, if_neg h]
theorem swp_j {α : Type} {f : Nat → α} {j : Nat} : swp f j j = f 3 := if_pos rfl
theorem swp_r {α : Type} {f : Nat → α} {j r : Nat} (h : r ≠ j) (h3 : r ≠ 3) : swp f j r = f r := (if_neg h).trans (if_neg h3)
theorem gr_sim {j N2 : Nat} {key val : Int32} {HK HV : IT} {Q : Nat → Nat} {s0 : Int32} {OX : XS} {cn : Nat → Nat} (hj : j < 3) (hI : IM 0 (Q j) s0 OX) (hL : HL (Q j) N2 HK HV key val OX cn) :
    ∀ (n d : Nat) (sd : Int32) (Z Z' : HS), d + n = 5 → sd = zS Z' j → GS j Q s0 OX Z Z' →
      (grw j (Q j) (Q 0 + Q 1 + Q 2) key val n d sd Z).1 = (grM j (Q j) (Q 0 + Q 1 + Q 2) N2 HK HV Q n d Z').1 ∧
      ((grw j (Q j) (Q 0 + Q 1 + Q 2) key val n d sd Z).1 = true → Sim (swZ j (grw j (Q j) (Q 0 + Q 1 + Q 2) key val n d sd Z).2) (grM j (Q j) (Q 0 + Q 1 + Q 2) N2 HK HV Q n d Z').2) ∧
      ((grw j (Q j) (Q 0 + Q 1 + Q 2) key val n d sd Z).1 = false → Sim (grw j (Q j) (Q 0 + Q 1 + Q 2) key val n d sd Z).2 (pbZ j OX (Q j) s0 (grM j (Q j) (Q 0 + Q 1 + Q 2) N2 HK HV Q n d Z').2)) := by
  intro n
  induction n with
  | zero =>
    intro d sd Z Z' _ _ hG
    exact ⟨rfl, fun z => absurd (show false = true from z) (by decide), fun _ => GS_ref hj hI hG⟩
  | succ n ih =>
    intro d sd Z Z' hd hsd hG
    by_cases hcond : 128 < Q j * 2 ^ d ∨ 256 < Q 0 + Q 1 + Q 2 + Q j * 2 ^ d
    · have e1 : grw j (Q j) (Q 0 + Q 1 + Q 2) key val (n + 1) d sd Z = (false, Z) := if_pos hcond
      rw [e1, grM_n hcond]
      exact ⟨rfl, fun z => absurd (show false = true from z) (by decide), fun _ => GS_ref hj hI hG⟩
    · have hcj : pw (Q j) := (hG.1 j hj).2.2.1
      have hcp : pw (Q j * 2 ^ d) := pw_sh hcj (by omega) (by omega)
      have h128 := pw_le hcp
      obtain ⟨hG1, k1, k2, k3, k4, k5, k6, k7, k8, k9⟩ := lay_GS (cp := Q j * 2 ^ d) hj (by omega) hsd hG
      have e1 : grw j (Q j) (Q 0 + Q 1 + Q 2) key val (n + 1) d sd Z = grC (fun Z => grw j (Q j) (Q 0 + Q 1 + Q 2) key val n (d + 1) (sd * 1664525 + 1013904223) Z) j key val (lay (Q j * 2 ^ d) (sd * 1664525 + 1013904223) Z) := if_neg hcond
      rw [e1, grM_s hcond]
      generalize lay (Q j * 2 ^ d) (sd * 1664525 + 1013904223) Z = Z1 at *
      generalize grM1 j (Q j * 2 ^ d) Q Z' = Z1' at *
      generalize sd * 1664525 + 1013904223 = sd' at *
      generalize hcpe : Q j * 2 ^ d = cp at *
      obtain ⟨g1, g2, g3, g4, g5, g6⟩ := hG1
      have hPj : zP Z1 j = Q j := (g1 j hj).2.1
      have hrl : Rl (zB Z1 3) (128 * j) cp (xs Z1) (xs Z1') := ⟨fun p hp => ⟨(k8 p hp).trans (k9 p (by omega)).symm, fun z => absurd ((k8 p hp).symm.trans z) (by decide)⟩, g3⟩
      have him : IM (128 * j) cp sd' (xs Z1') := ⟨fun p hp z => absurd ((k9 p (by omega)).symm.trans z) (by decide), fun p q hp _ z => absurd ((k9 p (by omega)).symm.trans z) (by decide)⟩
      have hks : KS (128 * j) cp (fun k => ∃ a, a < cn 0 ∧ k = HK a) (xs Z1') := fun p hp z => absurd ((k9 p (by omega)).symm.trans z) (by decide)
      have hz := anwA (s := sd') hcp hL (Or.inl (k7 j hj)) (Q j) 0 (xs Z1) (xs Z1') (Nat.zero_add _) hrl g6 him hks
      have ec : grC (fun Z => grw j (Q j) (Q 0 + Q 1 + Q 2) key val n (d + 1) sd' Z) j key val Z1 = (if (cmb (zB Z1 3) cp sd' key val (anw (zB Z1 3) cp sd' (zB Z1 j + 0) (Q j) (xs Z1))).1 = true then (true, wX Z1 (cmb (zB Z1 3) cp sd' key val (anw (zB Z1 3) cp sd' (zB Z1 j + 0) (Q j) (xs Z1))).2) else grw j (Q j) (Q 0 + Q 1 + Q 2) key val n (d + 1) sd' (wX Z1 (cmb (zB Z1 3) cp sd' key val (anw (zB Z1 3) cp sd' (zB Z1 j + 0) (Q j) (xs Z1))).2)) := by
        unfold grC
        rw [grD_cmb]
        show (if (cmb (zB Z1 3) (zP Z1 3) (zS Z1 3) key val (anw (zB Z1 3) (zP Z1 3) (zS Z1 3) (zB Z1 j) (zP Z1 j) (xs Z1))).1 = true then (true, wX Z1 (cmb (zB Z1 3) (zP Z1 3) (zS Z1 3) key val (anw (zB Z1 3) (zP Z1 3) (zS Z1 3) (zB Z1 j) (zP Z1 j) (xs Z1))).2) else grw j (Q j) (Q 0 + Q 1 + Q 2) key val n (d + 1) sd' (wX Z1 (cmb (zB Z1 3) (zP Z1 3) (zS Z1 3) key val (anw (zB Z1 3) (zP Z1 3) (zS Z1 3) (zB Z1 j) (zP Z1 j) (xs Z1))).2)) = _
        rw [k2, k3, hPj]
        rfl
      have em : grM2 (fun Z => grM j (Q j) (Q 0 + Q 1 + Q 2) N2 HK HV Q n (d + 1) Z) j N2 HK HV Q Z1' = grM3 (fun Z => grM j (Q j) (Q 0 + Q 1 + Q 2) N2 HK HV Q n (d + 1) Z) j Q Z1' (insA (128 * j) cp sd' HK HV (N2 - cn 0) (cn 0) (xs Z1')) := by
        show grM3 _ j Q Z1' (insA (128 * j) (zP Z1' j) (zS Z1' j) HK HV N2 0 (xs Z1')) = _
        rw [k5, k4, hL.1]
        rfl
      rw [ec, em]
      generalize cmb (zB Z1 3) cp sd' key val (anw (zB Z1 3) cp sd' (zB Z1 j + 0) (Q j) (xs Z1)) = q at *
      generalize insA (128 * j) cp sd' HK HV (N2 - cn 0) (cn 0) (xs Z1') = q' at *
      obtain ⟨z1, z2, z3, z4, z5⟩ := hz
      have oth : ∀ r, r < 3 → r ≠ j → Rp (zB Z1 r) (128 * r) (Q r) q.2 q'.2 ∧ IM (128 * r) (Q r) (zS Z1 r) q'.2 := fun r hr hne => by
        have w := g4 r hr hne
        have h8 := pw_le (g1 r hr).2.2.1
        have a1 := Ag_fr (o := zB Z1 r) (c := Q r) z3 (Or.inl (k7 r hr))
        have a2 := Ag_fr (o := 128 * r) (c := Q r) z4 (by omega)
        exact ⟨Rp_as w.2.2.1 a1 a2, IM_as w.2.2.2 a2⟩
      cases hb : q.1 with
      | true =>
        have hb' := z1.symm.trans hb
        have e2 : grM3 (fun Z => grM j (Q j) (Q 0 + Q 1 + Q 2) N2 HK HV Q n (d + 1) Z) j Q Z1' q' = (true, (q'.2.1, q'.2.2.1, q'.2.2.2.1, q'.2.2.2.2, va_up (zB Z1') j (lastE (zB Z1') Q), zP Z1', zS Z1')) := if_pos hb'
        rw [if_pos rfl, e2]
        refine ⟨rfl, fun _ => ⟨fun r hr => ?_, z2.2, ?_⟩, fun z => absurd (show true = false from z) (by decide)⟩
        · by_cases e : r = j
          · subst e
            refine ⟨?_, ?_, ?_, ?_, ?_, ?_, ?_⟩
            · show swp (zB Z1) r r = va_up (zB Z1') r (lastE (zB Z1') Q) r
              rw [swp_j, k1]; exact (va_up_self _ _ _).symm
            · show swp (zP Z1) r r = zP Z1' r
              rw [swp_j, k2, k5]
            · show swp (zS Z1) r r = zS Z1' r
              rw [swp_j, k3, k4]
            · show pw (swp (zP Z1) r r)
              rw [swp_j, k2]; exact hcp
            · show swp (zB Z1) r r + swp (zP Z1) r r ≤ 256
              rw [swp_j, swp_j, k2]; exact k6
            · show Rp (swp (zB Z1) r r) (128 * r) (swp (zP Z1) r r) _ _
              rw [swp_j, swp_j, k2]; exact z2.1
            · show IM (128 * r) (swp (zP Z1) r r) (swp (zS Z1) r r) _
              rw [swp_j, swp_j, k2, k3]; exact z5 hb'
          · have h3 : r ≠ 3 := by omega
            have w := g4 r hr e
            have u := g1 r hr
            have ot := oth r hr e
            refine ⟨?_, ?_, ?_, ?_, ?_, ?_, ?_⟩
            · show swp (zB Z1) j r = va_up (zB Z1') j (lastE (zB Z1') Q) r
              rw [swp_r e h3, va_up_ne _ _ e]; exact u.1
            · show swp (zP Z1) j r = zP Z1' r
              rw [swp_r e h3, u.2.1, w.2.1]
            · show swp (zS Z1) j r = zS Z1' r
              rw [swp_r e h3]; exact w.1
            · show pw (swp (zP Z1) j r)
              rw [swp_r e h3, u.2.1]; exact u.2.2.1
            · show swp (zB Z1) j r + swp (zP Z1) j r ≤ 256
              rw [swp_r e h3, swp_r e h3, u.2.1]; exact u.2.2.2
            · show Rp (swp (zB Z1) j r) (128 * r) (swp (zP Z1) j r) _ _
              rw [swp_r e h3, swp_r e h3, u.2.1]; exact ot.1
            · show IM (128 * r) (swp (zP Z1) j r) (swp (zS Z1) j r) _
              rw [swp_r e h3, swp_r e h3, u.2.1]; exact ot.2
        · show DJ (swp (zB Z1) j) (swp (zP Z1) j)
          intro a b ha hb9 hne
          have na : a ≠ 3 := by omega
          have nb : b ≠ 3 := by omega
          by_cases ea : a = j
          · have eb : b ≠ j := fun z => hne (ea.trans z.symm)
            have w := k7 b hb9
            rw [ea, swp_j, swp_j, swp_r eb nb, swp_r eb nb, (g1 b hb9).2.1]
            exact Or.inr w
          · by_cases eb : b = j
            · have w := k7 a ha
              rw [eb, swp_j, swp_j, swp_r ea na, swp_r ea na, (g1 a ha).2.1]
              exact Or.inl w
            · rw [swp_r ea na, swp_r ea na, swp_r eb nb, swp_r eb nb]
              exact g2 a b ha hb9 hne
      | false =>
        have hb' := z1.symm.trans hb
        have e2 : grM3 (fun Z => grM j (Q j) (Q 0 + Q 1 + Q 2) N2 HK HV Q n (d + 1) Z) j Q Z1' q' = grM j (Q j) (Q 0 + Q 1 + Q 2) N2 HK HV Q n (d + 1) (wX Z1' q'.2) := if_neg (by rw [hb']; decide)
        rw [if_neg (by decide), e2]
        refine ih (d + 1) sd' (wX Z1 q.2) (wX Z1' q'.2) (by omega) k4.symm ⟨g1, g2, z2.2, fun r hr hne => ?_, g5, ?_⟩
        · have w := g4 r hr hne
          have ot := oth r hr hne
          exact ⟨w.1, w.2.1, ot.1, ot.2⟩
        · exact Rp_as g6 (Ag_fr (o := zB Z1 j) (c := Q j) z3 (Or.inl (k7 j hj))) Ag.id
