/-! what the reference holds while it grows -/
theorem hld_const {F : BT} {K V HK HV : IT} {o c : Nat} : ∀ n, hld F K V HK HV o c (c + n) = hld F K V HK HV o c c := by
  intro n
  induction n with
  | zero => rfl
  | succ n ih =>
    rw [show c + (n + 1) = (c + n) + 1 by omega, hld_f (by omega), ih]
theorem hld_mono {F : BT} {K V HK HV : IT} {o c : Nat} : ∀ n i, (hld F K V HK HV o c i).1 ≤ (hld F K V HK HV o c (i + n)).1 := by
  intro n
  induction n with
  | zero => intro i; exact Nat.le_refl _
  | succ n ih =>
    intro i
    have h := ih i
    by_cases hz : i + n < c ∧ F (o + (i + n)) = true
    · rw [show i + (n + 1) = (i + n) + 1 by omega, hld_t hz]
      show _ ≤ (hld F K V HK HV o c (i + n)).1 + 1
      omega
    · rw [show i + (n + 1) = (i + n) + 1 by omega, hld_f hz]
      exact h
theorem hld_st {F : BT} {K V HK HV : IT} {o c : Nat} : ∀ n i a, a < (hld F K V HK HV o c i).1 → (hld F K V HK HV o c (i + n)).2.1 a = (hld F K V HK HV o c i).2.1 a ∧ (hld F K V HK HV o c (i + n)).2.2 a = (hld F K V HK HV o c i).2.2 a := by
  intro n
  induction n with
  | zero => intro i a _; exact ⟨rfl, rfl⟩
  | succ n ih =>
    intro i a ha
    have h := ih i a ha
    have hm := hld_mono (F := F) (K := K) (V := V) (HK := HK) (HV := HV) (o := o) (c := c) n i
    by_cases hz : i + n < c ∧ F (o + (i + n)) = true
    · rw [show i + (n + 1) = (i + n) + 1 by omega, hld_t hz]
      have e : ¬ a = (hld F K V HK HV o c (i + n)).1 := by omega
      exact ⟨(if_neg e).trans h.1, (if_neg e).trans h.2⟩
    · rw [show i + (n + 1) = (i + n) + 1 by omega, hld_f hz]
      exact h
theorem hld_src {F : BT} {K V HK HV : IT} {o c : Nat} : ∀ i a, a < (hld F K V HK HV o c i).1 → ∃ p, p < i ∧ p < c ∧ F (o + p) = true ∧ (hld F K V HK HV o c i).2.1 a = K (o + p) ∧ (hld F K V HK HV o c p).1 = a := by
  intro i
  induction i with
  | zero => intro a ha; exact absurd ha (Nat.not_lt_zero _)
  | succ i ih =>
    intro a ha
    by_cases hz : i < c ∧ F (o + i) = true
    · rw [hld_t hz] at ha ⊢
      have ha : a < (hld F K V HK HV o c i).1 + 1 := ha
      by_cases e : a = (hld F K V HK HV o c i).1
      · exact ⟨i, by omega, hz.1, hz.2, if_pos e, e.symm⟩
      · obtain ⟨p, h1, h2, h3, h4, h5⟩ := ih a (by omega)
        exact ⟨p, by omega, h2, h3, (if_neg e).trans h4, h5⟩
    · rw [hld_f hz] at ha ⊢
      obtain ⟨p, h1, h2, h3, h4, h5⟩ := ih a ha
      exact ⟨p, by omega, h2, h3, h4, h5⟩
theorem hld_HL {F : BT} {K V HK HV OK OV C : IT} {OF : BT} {o c : Nat} {s key val : Int32} (hc : c ≤ 128) (hI : IM o c s (K, V, F, C)) (hk : KS o c (fun k => k ≠ key) (K, V, F, C)) :
    HL c ((hld F K V HK HV o c 128).1 + 1) (upd (hld F K V HK HV o c 128).2.1 (hld F K V HK HV o c 128).1 key) (upd (hld F K V HK HV o c 128).2.2 (hld F K V HK HV o c 128).1 val) key val (cpL OK K o 128, cpL OV V o 128, cpLB OF F o 128, C) (fun i => (hld F K V HK HV o c i).1) := by
  have hH : hld F K V HK HV o c 128 = hld F K V HK HV o c c := by
    have := hld_const (F := F) (K := K) (V := V) (HK := HK) (HV := HV) (o := o) (c := c) (128 - c)
    rw [show c + (128 - c) = 128 by omega] at this
    exact this
  rw [hH]
  have mono : ∀ i, i ≤ c → (hld F K V HK HV o c i).1 ≤ (hld F K V HK HV o c c).1 := fun i hi => by
    have := hld_mono (F := F) (K := K) (V := V) (HK := HK) (HV := HV) (o := o) (c := c) (c - i) i
    rw [show i + (c - i) = c by omega] at this
    exact this
  refine ⟨rfl, fun i hi => ⟨fun hT => ?_, fun hT => ?_⟩, if_pos rfl, if_pos rfl, rfl, fun a b hab hb => ?_, mono⟩
  · have hT : cpLB OF F o 128 i = true := hT
    rw [cpLB_at (by omega)] at hT
    have e := hld_t (F := F) (K := K) (V := V) (HK := HK) (HV := HV) (o := o) (c := c) (i := i) ⟨hi, hT⟩
    have e1 : (hld F K V HK HV o c (i + 1)).1 = (hld F K V HK HV o c i).1 + 1 := by rw [e]
    have hm := mono (i + 1) (by omega)
    have st := hld_st (F := F) (K := K) (V := V) (HK := HK) (HV := HV) (o := o) (c := c) (c - (i + 1)) (i + 1) (hld F K V HK HV o c i).1 (by omega)
    rw [show i + 1 + (c - (i + 1)) = c by omega] at st
    have ne : ¬ (hld F K V HK HV o c i).1 = (hld F K V HK HV o c c).1 := by omega
    refine ⟨e1, (if_neg ne).trans ?_, (if_neg ne).trans ?_⟩
    · rw [st.1, e]
      show upd (hld F K V HK HV o c i).2.1 (hld F K V HK HV o c i).1 (K (o + i)) (hld F K V HK HV o c i).1 = cpL OK K o 128 i
      rw [cpL_at (by omega)]; exact if_pos rfl
    · rw [st.2, e]
      show upd (hld F K V HK HV o c i).2.2 (hld F K V HK HV o c i).1 (V (o + i)) (hld F K V HK HV o c i).1 = cpL OV V o 128 i
      rw [cpL_at (by omega)]; exact if_pos rfl
  · have hT : cpLB OF F o 128 i = false := hT
    rw [cpLB_at (by omega)] at hT
    show (hld F K V HK HV o c (i + 1)).1 = (hld F K V HK HV o c i).1
    rw [hld_f (fun z => by rw [hT] at z; exact absurd z.2 (by decide))]
  · obtain ⟨p, p1, p2, p3, p4, p5⟩ := hld_src (F := F) (K := K) (V := V) (HK := HK) (HV := HV) (o := o) (c := c) c a (by omega)
    have ea : upd (hld F K V HK HV o c c).2.1 (hld F K V HK HV o c c).1 key a = K (o + p) := (if_neg (by omega)).trans p4
    rw [ea]
    by_cases e : b = (hld F K V HK HV o c c).1
    · rw [e]
      have eb : upd (hld F K V HK HV o c c).2.1 (hld F K V HK HV o c c).1 key (hld F K V HK HV o c c).1 = key := if_pos rfl
      rw [eb]
      exact hk p p2 p3
    · obtain ⟨q, q1, q2, q3, q4, q5⟩ := hld_src (F := F) (K := K) (V := V) (HK := HK) (HV := HV) (o := o) (c := c) c b (by omega)
      have eb : upd (hld F K V HK HV o c c).2.1 (hld F K V HK HV o c c).1 key b = K (o + q) := (if_neg e).trans q4
      rw [eb]
      intro z
      have := hI.2 p q p2 q2 p3 q3 z
      rw [this] at p5
      omega
theorem Sim_GI {Z Z' : HS} (h : Sim Z Z') {j : Nat} : GI (zP Z 0 + zP Z 1 + zP Z 2) (zP Z j) j (zB Z) (zP Z) := ⟨fun i hi => (h.1 i hi).2.2.2.2.1, h.2.2, fun i hi => pw_pos (h.1 i hi).2.2.2.1, rfl, rfl⟩
theorem Sim_GI' {Z Z' : HS} (h : Sim Z Z') {j : Nat} : GI (zP Z' 0 + zP Z' 1 + zP Z' 2) (zP Z' j) j (zB Z') (zP Z') := by
  have hB : ∀ r, r < 3 → zB Z r = zB Z' r := fun r hr => (h.1 r hr).1
  have hP : ∀ r, r < 3 → zP Z r = zP Z' r := fun r hr => (h.1 r hr).2.1
  refine ⟨fun i hi => ?_, fun i k hi hk hne => ?_, fun i hi => ?_, rfl, rfl⟩
  · rw [← hB i hi, ← hP i hi]; exact (h.1 i hi).2.2.2.2.1
  · rw [← hB i hi, ← hP i hi, ← hB k hk, ← hP k hk]; exact h.2.2 i k hi hk hne
  · rw [← hP i hi]; exact pw_pos (h.1 i hi).2.2.2.1
/-- one part changes: the others stay -/
theorem Sim_up {Z Z' : HS} {X X' : XS} {m : Nat} (hm : m < 3) (h : Sim Z Z') (hf : Fr (zB Z m) (zP Z m) (xs Z) X) (hf' : Fr (128 * m) (zP Z m) (xs Z') X') (hC : ∀ k, k < 3 → X.2.2.2 k = X'.2.2.2 k) (hr : Rp (zB Z m) (128 * m) (zP Z m) X X') (hI : IM (128 * m) (zP Z m) (zS Z m) X') : Sim (wX Z X) (wX Z' X') := by
  refine ⟨fun r hr9 => ?_, hC, h.2.2⟩
  obtain ⟨a1, a2, a3, a4, a5, a6, a7⟩ := h.1 r hr9
  by_cases e : r = m
  · subst e
    exact ⟨a1, a2, a3, a4, a5, hr, hI⟩
  · have h8 := pw_le a4
    have h9 := pw_le (h.1 m hm).2.2.2.1
    have g1 := Ag_fr (o := zB Z r) (c := zP Z r) hf (by have := h.2.2 r m hr9 hm e; omega)
    have g2 := Ag_fr (o := 128 * r) (c := zP Z r) hf' (by omega)
    exact ⟨a1, a2, a3, a4, a5, Rp_as a6 g1 g2, IM_as a7 g2⟩
theorem Sim_ins {Z Z' : HS} {m : Nat} {key val : Int32} (hm : m < 3) (h : Sim Z Z') (hk : KS (128 * m) (zP Z' m) (fun k => k ≠ key) (xs Z')) :
    (ins (zB Z m) (zP Z m) (zS Z m) key val (xs Z)).1 = (ins (128 * m) (zP Z' m) (zS Z' m) key val (xs Z')).1 ∧ Sim (wX Z (ins (zB Z m) (zP Z m) (zS Z m) key val (xs Z)).2) (wX Z' (ins (128 * m) (zP Z' m) (zS Z' m) key val (xs Z')).2) ∧ ((ins (128 * m) (zP Z' m) (zS Z' m) key val (xs Z')).1 = false → KS (128 * m) (zP Z' m) (fun k => k ≠ key) (ins (128 * m) (zP Z' m) (zS Z' m) key val (xs Z')).2) := by
  obtain ⟨a1, a2, a3, a4, a5, a6, a7⟩ := h.1 m hm
  rw [← a2] at hk ⊢
  rw [← a3]
  have hs := ins_sim (s := zS Z m) (key := key) (val := val) a4 (⟨a6, h.2.1⟩ : Rl (zB Z m) (128 * m) (zP Z m) (xs Z) (xs Z'))
  have hi := ins_IM (val := val) a4 hk a7
  exact ⟨hs.1, Sim_up hm h (ins_fr a4) (ins_fr a4) hs.2.2 hs.2.1 hi.1, fun z => hi.2.2 z _ hk⟩
/-- growing, whole -/
theorem grow_sim {Z Z' : HS} {m : Nat} {key val : Int32} {HK HV OK OV : IT} {OF : BT} (hm : m < 3) (h : Sim Z Z') (hk : KS (128 * m) (zP Z' m) (fun k => k ≠ key) (xs Z')) {Hh : Nat × IT × IT} (hH : hld Z'.2.2.1 Z'.1 Z'.2.1 HK HV (128 * m) (zP Z' m) 128 = Hh) :
    (grw m (zP Z m) (zP Z 0 + zP Z 1 + zP Z 2) key val 4 1 (zS Z m) Z).1 = (grM m (zP Z' m) (zP Z' 0 + zP Z' 1 + zP Z' 2) (Hh.1 + 1) (upd Hh.2.1 Hh.1 key) (upd Hh.2.2 Hh.1 val) (zP Z') 4 1 Z').1 ∧
    ((grw m (zP Z m) (zP Z 0 + zP Z 1 + zP Z 2) key val 4 1 (zS Z m) Z).1 = true → Sim (swZ m (grw m (zP Z m) (zP Z 0 + zP Z 1 + zP Z 2) key val 4 1 (zS Z m) Z).2) (grM m (zP Z' m) (zP Z' 0 + zP Z' 1 + zP Z' 2) (Hh.1 + 1) (upd Hh.2.1 Hh.1 key) (upd Hh.2.2 Hh.1 val) (zP Z') 4 1 Z').2) ∧
    ((grw m (zP Z m) (zP Z 0 + zP Z 1 + zP Z 2) key val 4 1 (zS Z m) Z).1 = false → Sim (grw m (zP Z m) (zP Z 0 + zP Z 1 + zP Z 2) key val 4 1 (zS Z m) Z).2 (pbZ m (cpL OK Z'.1 (128 * m) 128, cpL OV Z'.2.1 (128 * m) 128, cpLB OF Z'.2.2.1 (128 * m) 128, zC Z') (zP Z' m) (zS Z' m) (grM m (zP Z' m) (zP Z' 0 + zP Z' 1 + zP Z' 2) (Hh.1 + 1) (upd Hh.2.1 Hh.1 key) (upd Hh.2.2 Hh.1 val) (zP Z') 4 1 Z').2)) := by
  have hP : ∀ r, r < 3 → zP Z r = zP Z' r := fun r hr => (h.1 r hr).2.1
  obtain ⟨a1, a2, a3, a4, a5, a6, a7⟩ := h.1 m hm
  have h8 := pw_le a4
  rw [a2] at a4 a6 a7 h8
  rw [hP 0 (by decide), hP 1 (by decide), hP 2 (by decide), a2, a3]
  subst hH
  have hL := hld_HL (HK := HK) (HV := HV) (OK := OK) (OV := OV) (OF := OF) (val := val) h8 a7 hk
  have ag : Ag (128 * m) (zP Z' m) 0 (xs Z') (cpL OK Z'.1 (128 * m) 128, cpL OV Z'.2.1 (128 * m) 128, cpLB OF Z'.2.2.1 (128 * m) 128, zC Z') := fun p hp => by
    rw [Nat.zero_add]
    exact ⟨cpLB_at (by omega), cpL_at (by omega), cpL_at (by omega)⟩
  rw [a3] at a7
  exact gr_sim hm (IM_as a7 ag) hL 4 1 (zS Z' m) Z Z' rfl rfl ⟨fun r hr => ⟨(h.1 r hr).1, hP r hr, by rw [← hP r hr]; exact (h.1 r hr).2.2.2.1, by rw [← hP r hr]; exact (h.1 r hr).2.2.2.2.1⟩, h.2.2, h.2.1, fun r hr _ => ⟨(h.1 r hr).2.2.1, rfl, by rw [← hP r hr]; exact (h.1 r hr).2.2.2.2.2.1, by rw [← hP r hr]; exact (h.1 r hr).2.2.2.2.2.2⟩, a3, Rp_as a6 Ag.id ag⟩
/-- a value, a removal, a clear -/
theorem Sim_val {Z Z' : HS} {m p : Nat} {val : Int32} (hm : m < 3) (h : Sim Z Z') (hp : p < zP Z m) : Sim (wX Z (Z.1, upd Z.2.1 (zB Z m + p) val, Z.2.2.1, Z.2.2.2.1)) (wX Z' (Z'.1, upd Z'.2.1 (128 * m + p) val, Z'.2.2.1, Z'.2.2.2.1)) := by
  obtain ⟨a1, a2, a3, a4, a5, a6, a7⟩ := h.1 m hm
  refine Sim_up hm h (fun i hi => ⟨rfl, rfl, if_neg (by omega)⟩) (fun i hi => ⟨rfl, rfl, if_neg (by omega)⟩) h.2.1 (fun q hq => ⟨(a6 q hq).1, fun z => ⟨((a6 q hq).2 z).1, ?_⟩⟩) a7
  show upd Z.2.1 (zB Z m + p) val (zB Z m + q) = upd Z'.2.1 (128 * m + p) val (128 * m + q)
  rw [upd_at, upd_at]
  by_cases e : q = p
  · rw [if_pos (by omega), if_pos (by omega)]
  · rw [if_neg (by omega), if_neg (by omega)]; exact ((a6 q hq).2 z).2
theorem Sim_rem {Z Z' : HS} {m p : Nat} (hm : m < 3) (h : Sim Z Z') (hp : p < zP Z m) : Sim (wX Z (Z.1, Z.2.1, va_up Z.2.2.1 (zB Z m + p) false, Z.2.2.2.1)) (wX Z' (Z'.1, Z'.2.1, va_up Z'.2.2.1 (128 * m + p) false, Z'.2.2.2.1)) := by
  obtain ⟨a1, a2, a3, a4, a5, a6, a7⟩ := h.1 m hm
  have key : ∀ q, q < zP Z m → va_up Z.2.2.1 (zB Z m + p) false (zB Z m + q) = va_up Z'.2.2.1 (128 * m + p) false (128 * m + q) := fun q hq => by
    rw [vup_at, vup_at]
    by_cases e : q = p
    · rw [if_pos (by omega), if_pos (by omega)]
    · rw [if_neg (by omega), if_neg (by omega)]; exact (a6 q hq).1
  have wk : ∀ q, va_up Z.2.2.1 (zB Z m + p) false q = true → Z.2.2.1 q = true := fun q z => by
    rw [vup_at] at z
    by_cases e : q = zB Z m + p
    · rw [if_pos e] at z; exact absurd z (by decide)
    · rw [if_neg e] at z; exact z
  have wk' : ∀ q, va_up Z'.2.2.1 (128 * m + p) false q = true → Z'.2.2.1 q = true := fun q z => by
    rw [vup_at] at z
    by_cases e : q = 128 * m + p
    · rw [if_pos e] at z; exact absurd z (by decide)
    · rw [if_neg e] at z; exact z
  exact Sim_up hm h (fun i hi => ⟨if_neg (by omega), rfl, rfl⟩) (fun i hi => ⟨if_neg (by omega), rfl, rfl⟩) h.2.1 (fun q hq => ⟨key q hq, fun z => (a6 q hq).2 (wk _ z)⟩) ⟨fun q hq z => a7.1 q hq (wk' _ z), fun q t hq ht z1 z2 z3 => a7.2 q t hq ht (wk' _ z1) (wk' _ z2) z3⟩
def clZ (m o n : Nat) (Z : HS) : HS := (Z.1, Z.2.1, clr Z.2.2.1 o n, Z.2.2.2.1, Z.2.2.2.2.1, va_up Z.2.2.2.2.2.1 m 8, Z.2.2.2.2.2.2)
theorem Sim_clr {Z Z' : HS} {m : Nat} (hm : m < 3) (h : Sim Z Z') : Sim (clZ m (zB Z m) 8 Z) (clZ m (128 * m) 128 Z') := by
  have p8 : pw 8 := Or.inl rfl
  have hle : ∀ r, va_up (zP Z) m 8 r ≤ zP Z r ∨ r = m := fun r => by
    by_cases e : r = m
    · exact Or.inr e
    · rw [va_up_ne _ _ e]; exact Or.inl (Nat.le_refl _)
  have h8m := pw_ge (h.1 m hm).2.2.2.1
  have hle2 : ∀ r, r < 3 → va_up (zP Z) m 8 r ≤ zP Z r := fun r hr => by
    by_cases e : r = m
    · rw [e, va_up_self]; exact h8m
    · rw [va_up_ne _ _ e]; exact Nat.le_refl _
  refine ⟨fun r hr => ?_, h.2.1, fun i k hi hk hne => ?_⟩
  · obtain ⟨a1, a2, a3, a4, a5, a6, a7⟩ := h.1 r hr
    have h128 := pw_le a4
    by_cases e : r = m
    · subst e
      have f1 : ∀ p, p < 8 → clr Z.2.2.1 (zB Z r) 8 (zB Z r + p) = false := fun p hp => if_pos (by omega)
      have f2 : ∀ p, p < 8 → clr Z'.2.2.1 (128 * r) 128 (128 * r + p) = false := fun p hp => if_pos (by omega)
      refine ⟨a1, ?_, a3, ?_, ?_, ?_, ?_⟩
      · exact (va_up_self _ _ _).trans (va_up_self _ _ _).symm
      · show pw (va_up (zP Z) r 8 r)
        rw [va_up_self]; exact p8
      · show zB Z r + va_up (zP Z) r 8 r ≤ 256
        rw [va_up_self]; omega
      · show Rp (zB Z r) (128 * r) (va_up (zP Z) r 8 r) _ _
        rw [va_up_self]
        exact fun p hp => ⟨(f1 p hp).trans (f2 p hp).symm, fun z => absurd ((f1 p hp).symm.trans z) (by decide)⟩
      · show IM (128 * r) (va_up (zP Z) r 8 r) (zS Z r) _
        rw [va_up_self]
        exact ⟨fun p hp z => absurd ((f2 p hp).symm.trans z) (by decide), fun p q hp _ z => absurd ((f2 p hp).symm.trans z) (by decide)⟩
    · have dj := h.2.2 r m hr hm e
      have g1 : Ag (zB Z r) (zP Z r) (zB Z r) (xs Z) (xs (clZ m (zB Z m) 8 Z)) := fun p hp => ⟨if_neg (by omega), rfl, rfl⟩
      have g2 : Ag (128 * r) (zP Z r) (128 * r) (xs Z') (xs (clZ m (128 * m) 128 Z')) := fun p hp => ⟨if_neg (by omega), rfl, rfl⟩
      refine ⟨a1, ?_, a3, ?_, ?_, ?_, ?_⟩
      · exact (va_up_ne _ _ e).trans (a2.trans (va_up_ne _ _ e).symm)
      · show pw (va_up (zP Z) m 8 r)
        rw [va_up_ne _ _ e]; exact a4
      · show zB Z r + va_up (zP Z) m 8 r ≤ 256
        rw [va_up_ne _ _ e]; exact a5
      · show Rp (zB Z r) (128 * r) (va_up (zP Z) m 8 r) _ _
        rw [va_up_ne _ _ e]; exact Rp_as a6 g1 g2
      · show IM (128 * r) (va_up (zP Z) m 8 r) (zS Z r) _
        rw [va_up_ne _ _ e]; exact IM_as a7 g2
  · show zB Z i + va_up (zP Z) m 8 i ≤ zB Z k ∨ zB Z k + va_up (zP Z) m 8 k ≤ zB Z i
    have l1 := hle2 i hi
    have l2 := hle2 k hk
    have dj := h.2.2 i k hi hk hne
    omega
theorem Sim_init : Sim ((fun _ => 0), (fun _ => 0), (fun _ => false), (fun _ => 0), iB, iP, iS) ((fun _ => 0), (fun _ => 0), (fun _ => false), (fun _ => 0), jB, jP, jS) := by
  refine ⟨fun r hr => ?_, fun _ _ => rfl, fun i k hi hk hne => ?_⟩
  · have hrp : ∀ o o' c : Nat, Rp o o' c ((fun _ => 0), (fun _ => 0), (fun _ => false), (fun _ => 0)) ((fun _ => 0), (fun _ => 0), (fun _ => false), (fun _ => 0)) := fun o o' c p hp => ⟨rfl, fun z => absurd (show false = true from z) (by decide)⟩
    have him : ∀ (o c : Nat) (s : Int32), IM o c s ((fun _ => 0), (fun _ => 0), (fun _ => false), (fun _ => 0)) := fun o c s => ⟨fun p hp z => absurd (show false = true from z) (by decide), fun p q hp _ z => absurd (show false = true from z) (by decide)⟩
    refine ⟨?_, ?_, ?_, Or.inl rfl, ?_, hrp _ _ _, him _ _ _⟩
    · rcases (show r = 0 ∨ r = 1 ∨ r = 2 by omega) with rfl | rfl | rfl <;> rfl
    · rcases (show r = 0 ∨ r = 1 ∨ r = 2 by omega) with rfl | rfl | rfl <;> rfl
    · rcases (show r = 0 ∨ r = 1 ∨ r = 2 by omega) with rfl | rfl | rfl <;> rfl
    · rcases (show r = 0 ∨ r = 1 ∨ r = 2 by omega) with rfl | rfl | rfl <;> decide
  · rcases (show i = 0 ∨ i = 1 ∨ i = 2 by omega) with rfl | rfl | rfl <;> rcases (show k = 0 ∨ k = 1 ∨ k = 2 by omega) with rfl | rfl | rfl <;> first | exact absurd rfl hne | (left; decide) | (right; decide)
