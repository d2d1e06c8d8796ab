/-! pure words: arrays are functions, a part is (o, c, s): where it begins, how long it is, its seed -/
abbrev IT : Type := Nat → Int32
abbrev BT : Type := Nat → Bool
def bI (b : Bool) : Int32 := if b = true then 1 else 0
theorem bI_t : bI true = 1 := rfl
theorem bI_f : bI false = 0 := rfl
theorem bI_0 {b : Bool} : bI b = 0 ↔ b = false := by
  cases b <;> decide
theorem bI_n0 {b : Bool} : ¬ bI b = 0 ↔ b = true := by
  cases b <;> decide
def oI (x : Option Nat) : Int32 := match x with
  | some k => nI k
  | none => -1
def pw (c : Nat) : Prop := c = 8 ∨ c = 16 ∨ c = 32 ∨ c = 64 ∨ c = 128
theorem pw_pos {c : Nat} (h : pw c) : 0 < c := by unfold pw at h; omega
theorem pw_le {c : Nat} (h : pw c) : c ≤ 128 := by unfold pw at h; omega
theorem pw_ge {c : Nat} (h : pw c) : 8 ≤ c := by unfold pw at h; omega
theorem pw_and {c : Nat} (h : pw c) (x : Int32) : x &&& (nI c - 1) = nI (x.toBitVec.toNat % c) := by
  rcases h with rfl | rfl | rfl | rfl | rfl
  · exact pk_and x 3 (by decide)
  · exact pk_and x 4 (by decide)
  · exact pk_and x 5 (by decide)
  · exact pk_and x 6 (by decide)
  · exact pk_and x 7 (by decide)
theorem pw_andN {c n : Nat} (h : pw c) (hn : n < 2 ^ 31) : nI n &&& (nI c - 1) = nI (n % c) := by
  rw [pw_and h, pk_tn (by omega)]
theorem md_lt {x c : Nat} (h : pw c) : x % c < c := Nat.mod_lt _ (pw_pos h)
def hraw (key s : Int32) : Nat := ((key ^^^ s) * (-1640531535)).toBitVec.toNat / 512
def hom (key s : Int32) (c : Nat) : Nat := hraw key s % c
theorem hom_lt {key s : Int32} {c : Nat} (h : pw c) : hom key s c < c := md_lt h
theorem hom_eq {c : Nat} (h : pw c) (key s : Int32) : ((((key ^^^ s) * (-1640531535)).toUInt32 >>> ((9 : Int32).toUInt32 &&& Int32.toUInt32 31)).toInt32) &&& (nI c - 1) = nI (hom key s c) := by
  rw [pw_and h, pk_ushr _ 9 9 (by decide)]
  rfl
theorem inc1 (a : Nat) : nI a + Int32.ofInt 1 = nI (a + 1) := nI_1 a
theorem dec1 (a : Nat) : nI (a + 1) + Int32.ofInt (-1) = nI a := pk_m1 a
/-- the slot of a key, looked for at h + i and on, n times -/
def fnd (T : BT) (K : IT) (o c h : Nat) (key : Int32) : Nat → Nat → Option Nat
  | _, 0 => none
  | i, n + 1 => if T (o + (h + i) % c) = true ∧ K (o + (h + i) % c) = key then some (o + (h + i) % c) else fnd T K o c h key (i + 1) n
def cnt (T : BT) (o : Nat) : Nat → Nat
  | 0 => 0
  | n + 1 => if T (o + n) = true then cnt T o n + 1 else cnt T o n
def clr (T : BT) (o n : Nat) : BT := fun i => if o ≤ i ∧ i < o + n then false else T i
theorem clr_0 (T : BT) (o : Nat) : clr T o 0 = T := by
  funext i
  unfold clr
  rw [if_neg (by omega)]
theorem clr_s (T : BT) (o n : Nat) : va_up (clr T o n) (o + n) false = clr T o (n + 1) := by
  funext i
  unfold clr va_up
  show (if i = o + n then false else if o ≤ i ∧ i < o + n then false else T i) = if o ≤ i ∧ i < o + (n + 1) then false else T i
  by_cases h : i = o + n
  · rw [if_pos h, if_pos (by omega)]
  · rw [if_neg h]
    by_cases h2 : o ≤ i ∧ i < o + n
    · rw [if_pos h2, if_pos (by omega)]
    · rw [if_neg h2, if_neg (by omega)]
def bit (T : BT) (K : IT) (o c : Nat) (s : Int32) (h i : Nat) : Bool := T (o + (h + i) % c) && decide (hom (K (o + (h + i) % c)) s c = h)
def stp (T : BT) (o c h : Nat) : Nat → Nat → Option Nat
  | _, 0 => none
  | i, n + 1 => if T (o + (h + i) % c) = false then some i else stp T o c h (i + 1) n
def hpI (T : BT) (K : IT) (o c : Nat) (s : Int32) (h : Nat) : Nat → Nat → Option Nat
  | _, 0 => none
  | i, n + 1 => if bit T K o c s h i = true then some i else hpI T K o c s h (i + 1) n
def hpD (T : BT) (K : IT) (o c : Nat) (s : Int32) (f : Nat) : Nat → Option (Nat × Nat)
  | 0 => none
  | d + 1 => match hpI T K o c s ((f + c - (d + 1)) % c) 0 (d + 1) with
    | some i => some (d + 1, i)
    | none => hpD T K o c s f d
def mvT (T : BT) (g f : Nat) : BT := va_up (va_up T f (T g)) g false
abbrev XS : Type := IT × IT × BT × IT
def hopX (o c f : Nat) (r : Option (Nat × Nat)) (X : XS) : XS := match r with
  | some x => (upd X.1 (o + f % c) (X.1 (o + ((f + c - x.1) % c + x.2) % c)), upd X.2.1 (o + f % c) (X.2.1 (o + ((f + c - x.1) % c + x.2) % c)), mvT X.2.2.1 (o + ((f + c - x.1) % c + x.2) % c) (o + f % c), upd X.2.2.2 0 (X.2.2.2 0 + 1))
  | none => X
def plc (o c h : Nat) (key val : Int32) (b : Nat) (X : XS) : XS := (upd X.1 (o + (h + b) % c) key, upd X.2.1 (o + (h + b) % c) val, va_up X.2.2.1 (o + (h + b) % c) true, X.2.2.2)
def inL (o c : Nat) (s : Int32) (h : Nat) (key val : Int32) : Nat → Nat → XS → Bool × XS
  | 0, b, X => (true, plc o c h key val b X)
  | k + 1, b, X => if b < 8 then (true, plc o c h key val b X) else
    match hpD X.2.2.1 X.1 o c s (h + b) 7 with
    | none => (false, X)
    | some x => inL o c s h key val k (b - (x.1 - x.2)) (hopX o c (h + b) (some x) X)
theorem inL_p {o c : Nat} {s : Int32} {h : Nat} {key val : Int32} {k b : Nat} {X : XS} (hb : b < 8) : inL o c s h key val (k + 1) b X = (true, plc o c h key val b X) := if_pos hb
theorem inL_n {o c : Nat} {s : Int32} {h : Nat} {key val : Int32} {k b : Nat} {X : XS} (hb : ¬ b < 8) (hq : hpD X.2.2.1 X.1 o c s (h + b) 7 = none) : inL o c s h key val (k + 1) b X = (false, X) := by
  simp only [inL, if_neg hb, hq]
theorem inL_s {o c : Nat} {s : Int32} {h : Nat} {key val : Int32} {k b : Nat} {X : XS} {x : Nat × Nat} (hb : ¬ b < 8) (hq : hpD X.2.2.1 X.1 o c s (h + b) 7 = some x) : inL o c s h key val (k + 1) b X = inL o c s h key val k (b - (x.1 - x.2)) (hopX o c (h + b) (some x) X) := by
  simp only [inL, if_neg hb, hq]
def ins (o c : Nat) (s key val : Int32) (X : XS) : Bool × XS := match stp X.2.2.1 o c (hom key s c) 0 c with
  | none => (false, X)
  | some b => inL o c s (hom key s c) key val c b X
theorem ins_n {o c : Nat} {s key val : Int32} {X : XS} (h : stp X.2.2.1 o c (hom key s c) 0 c = none) : ins o c s key val X = (false, X) := by
  simp only [ins, h]
theorem ins_s {o c : Nat} {s key val : Int32} {X : XS} {b : Nat} (h : stp X.2.2.1 o c (hom key s c) 0 c = some b) : ins o c s key val X = inL o c s (hom key s c) key val c b X := by
  simp only [ins, h]
def anw (o c : Nat) (s : Int32) : Nat → Nat → XS → Bool × XS
  | _, 0, X => (true, X)
  | i, n + 1, X => if X.2.2.1 i = true then
      (if (ins o c s (X.1 i) (X.2.1 i) X).1 = true then anw o c s (i + 1) n (ins o c s (X.1 i) (X.2.1 i) X).2 else (false, (ins o c s (X.1 i) (X.2.1 i) X).2))
    else anw o c s (i + 1) n X
/-- where the last part ends -/
def lastE (B P : Nat → Nat) : Nat := max (max (max 0 (B 0 + P 0)) (B 1 + P 1)) (B 2 + P 2)
theorem mxI {a b : Nat} (ha : a < 2 ^ 31) (hb : b < 2 ^ 31) : (if nI a < nI b then nI b else nI a) = nI (max a b) := by
  by_cases h : a < b
  · rw [if_pos (nI_lt h hb), Nat.max_eq_right (Nat.le_of_lt h)]
  · rw [if_neg (nI_nlt (Nat.not_lt.mp h) ha), Nat.max_eq_left (Nat.not_lt.mp h)]
/-- the lowest part from f on, among the first n -/
def lowS (B : Nat → Nat) (f : Nat) : Nat → Option Nat
  | 0 => none
  | i + 1 => match lowS B f i with
    | none => if f ≤ B i then some i else none
    | some j => if f ≤ B i ∧ B i < B j then some i else some j
theorem lowS_n {B : Nat → Nat} {f i : Nat} {r : Option Nat} (h : lowS B f i = r) (hn : ¬ f ≤ B i) : lowS B f (i + 1) = r := by
  show (match lowS B f i with | none => if f ≤ B i then some i else none | some j => if f ≤ B i ∧ B i < B j then some i else some j) = r
  rw [h]
  cases r with
  | none => exact if_neg hn
  | some j => exact if_neg (fun z => hn z.1)
theorem lowS_0 {B : Nat → Nat} {f i : Nat} (h : lowS B f i = none) (hn : f ≤ B i) : lowS B f (i + 1) = some i := by
  show (match lowS B f i with | none => if f ≤ B i then some i else none | some j => if f ≤ B i ∧ B i < B j then some i else some j) = some i
  rw [h]
  exact if_pos hn
theorem lowS_k {B : Nat → Nat} {f i j : Nat} (h : lowS B f i = some j) (hn : ¬ B i < B j) : lowS B f (i + 1) = some j := by
  show (match lowS B f i with | none => if f ≤ B i then some i else none | some j => if f ≤ B i ∧ B i < B j then some i else some j) = some j
  rw [h]
  exact if_neg (fun z => hn z.2)
theorem lowS_s {B : Nat → Nat} {f i j : Nat} (h : lowS B f i = some j) (hn : f ≤ B i) (h2 : B i < B j) : lowS B f (i + 1) = some i := by
  show (match lowS B f i with | none => if f ≤ B i then some i else none | some j => if f ≤ B i ∧ B i < B j then some i else some j) = some i
  rw [h]
  exact if_pos ⟨hn, h2⟩
def rQ (q : Nat → Nat) (r : Option Nat) : Value := match r with
  | some j => .ref (q j)
  | none => .null
def cpyI (f : IT) (b e : Nat) : Nat → IT
  | 0 => f
  | n + 1 => upd (cpyI f b e n) (e + n) (cpyI f b e n (b + n))
def cpyB (f : BT) (b e : Nat) : Nat → BT
  | 0 => f
  | n + 1 => va_up (cpyB f b e n) (e + n) (cpyB f b e n (b + n))
theorem sl_lt {o c x : Nat} (hc : pw c) (hb : o + c ≤ 256) : o + x % c < 256 := by
  have := md_lt (x := x) hc
  omega
def hopV (r : Option (Nat × Nat)) : Int32 := match r with
  | some x => nI (x.1 - x.2)
  | none => 0
theorem sub_md {f c x : Nat} (h : x ≤ f) : (f - x) % c = (f + c - x) % c := by
  rw [show f + c - x = (f - x) + c by omega, Nat.add_mod_right]
theorem hpD_s {T : BT} {K : IT} {o c : Nat} {s : Int32} {f d i : Nat} (h : hpI T K o c s ((f + c - (d + 1)) % c) 0 (d + 1) = some i) : hpD T K o c s f (d + 1) = some (d + 1, i) := by
  show (match hpI T K o c s ((f + c - (d + 1)) % c) 0 (d + 1) with | some i => some (d + 1, i) | none => hpD T K o c s f d) = _
  rw [h]
theorem hpD_n {T : BT} {K : IT} {o c : Nat} {s : Int32} {f d : Nat} (h : hpI T K o c s ((f + c - (d + 1)) % c) 0 (d + 1) = none) : hpD T K o c s f (d + 1) = hpD T K o c s f d := by
  show (match hpI T K o c s ((f + c - (d + 1)) % c) 0 (d + 1) with | some i => some (d + 1, i) | none => hpD T K o c s f d) = _
  rw [h]
theorem stp_lt {T : BT} {o c h : Nat} : ∀ (n i b : Nat), stp T o c h i n = some b → b < i + n := by
  intro n
  induction n with
  | zero =>
    intro i b hb
    cases hb
  | succ n ih =>
    intro i b hb
    have hb : (if T (o + (h + i) % c) = false then some i else stp T o c h (i + 1) n) = some b := hb
    by_cases hc : T (o + (h + i) % c) = false
    · rw [if_pos hc] at hb
      cases hb
      omega
    · rw [if_neg hc] at hb
      have := ih (i + 1) b hb
      omega
theorem hpI_lt {T : BT} {K : IT} {o c : Nat} {s : Int32} {h : Nat} : ∀ (n i b : Nat), hpI T K o c s h i n = some b → b < i + n := by
  intro n
  induction n with
  | zero =>
    intro i b hb
    cases hb
  | succ n ih =>
    intro i b hb
    have hb : (if bit T K o c s h i = true then some i else hpI T K o c s h (i + 1) n) = some b := hb
    by_cases hc : bit T K o c s h i = true
    · rw [if_pos hc] at hb
      cases hb
      omega
    · rw [if_neg hc] at hb
      have := ih (i + 1) b hb
      omega
theorem hpD_lt {T : BT} {K : IT} {o c : Nat} {s : Int32} {f : Nat} : ∀ (n d i : Nat), hpD T K o c s f n = some (d, i) → i < d ∧ d ≤ n := by
  intro n
  induction n with
  | zero =>
    intro d i h
    cases h
  | succ n ih =>
    intro d i h
    cases hq : hpI T K o c s ((f + c - (n + 1)) % c) 0 (n + 1) with
    | none =>
      rw [hpD_n hq] at h
      have := ih d i h
      omega
    | some x =>
      rw [hpD_s hq] at h
      cases h
      have := hpI_lt _ _ _ hq
      omega
theorem nI_m1 {b : Nat} (h : b < 2 ^ 31) : ¬ nI b = -1 := fun z => by
  have h1 := congrArg Int32.toInt z
  rw [nI_toInt h] at h1
  have h2 : ((-1 : Int32)).toInt = -1 := by decide
  omega
theorem anw_f {o c : Nat} {s : Int32} {i n : Nat} {X : XS} (h : X.2.2.1 i = false) : anw o c s i (n + 1) X = anw o c s (i + 1) n X := by
  show (if X.2.2.1 i = true then _ else _) = _
  rw [if_neg (by rw [h]; decide)]
theorem anw_t {o c : Nat} {s : Int32} {i n : Nat} {X : XS} (h : X.2.2.1 i = true) (h2 : (ins o c s (X.1 i) (X.2.1 i) X).1 = true) : anw o c s i (n + 1) X = anw o c s (i + 1) n (ins o c s (X.1 i) (X.2.1 i) X).2 := by
  show (if X.2.2.1 i = true then (if (ins o c s (X.1 i) (X.2.1 i) X).1 = true then _ else _) else _) = _
  rw [if_pos h, if_pos h2]
theorem anw_n {o c : Nat} {s : Int32} {i n : Nat} {X : XS} (h : X.2.2.1 i = true) (h2 : (ins o c s (X.1 i) (X.2.1 i) X).1 = false) : anw o c s i (n + 1) X = (false, (ins o c s (X.1 i) (X.2.1 i) X).2) := by
  show (if X.2.2.1 i = true then (if (ins o c s (X.1 i) (X.2.1 i) X).1 = true then _ else _) else _) = _
  rw [if_pos h, if_neg (by rw [h2]; decide)]
abbrev YS : Type := IT × IT × BT × (Nat → Nat)
def psh (P : Nat → Nat) : Nat → Nat → YS → YS
  | 0, _, Y => Y
  | n + 1, f, Y => match lowS Y.2.2.2 f 3 with
    | none => psh P n f Y
    | some r => psh P n (f + P r) (cpyI Y.1 (Y.2.2.2 r) f (P r), cpyI Y.2.1 (Y.2.2.2 r) f (P r), cpyB Y.2.2.1 (Y.2.2.2 r) f (P r), va_up Y.2.2.2 r f)
theorem psh_n {P : Nat → Nat} {n f : Nat} {Y : YS} (h : lowS Y.2.2.2 f 3 = none) : psh P (n + 1) f Y = psh P n f Y := by
  simp only [psh, h]
theorem psh_s {P : Nat → Nat} {n f r : Nat} {Y : YS} (h : lowS Y.2.2.2 f 3 = some r) : psh P (n + 1) f Y = psh P n (f + P r) (cpyI Y.1 (Y.2.2.2 r) f (P r), cpyI Y.2.1 (Y.2.2.2 r) f (P r), cpyB Y.2.2.1 (Y.2.2.2 r) f (P r), va_up Y.2.2.2 r f) := by
  simp only [psh, h]
theorem lowS_lt {B : Nat → Nat} {f : Nat} : ∀ (n r : Nat), lowS B f n = some r → r < n ∧ f ≤ B r := by
  intro n
  induction n with
  | zero =>
    intro r h
    cases h
  | succ n ih =>
    intro r h
    cases hq : lowS B f n with
    | none =>
      by_cases hf : f ≤ B n
      · rw [lowS_0 hq hf] at h
        cases h
        exact ⟨Nat.lt_succ_self _, hf⟩
      · rw [lowS_n hq hf] at h
        cases h
    | some j =>
      have hj := ih j hq
      by_cases hf : f ≤ B n
      · by_cases h2 : B n < B j
        · rw [lowS_s hq hf h2] at h
          cases h
          exact ⟨Nat.lt_succ_self _, hf⟩
        · rw [lowS_k hq h2] at h
          cases h
          exact ⟨Nat.lt_succ_of_lt hj.1, hj.2⟩
      · rw [lowS_n hq hf] at h
        cases h
        exact ⟨Nat.lt_succ_of_lt hj.1, hj.2⟩
theorem up_bd {B P : Nat → Nat} {r f : Nat} (h : ∀ i, i < 3 → B i + P i ≤ 256) (hf : f ≤ B r) (hr : r < 3) : ∀ i, i < 3 → (va_up B r f) i + P i ≤ 256 := by
  intro i hi
  unfold va_up
  by_cases e : i = r
  · rw [if_pos e, e]
    have := h r hr
    omega
  · rw [if_neg e]
    exact h i hi
