/-! the class and the reference step alike: what an insert does depends on the part's places alone -/
def Rl (o o' c : Nat) (X X' : XS) : Prop := (∀ p, p < c → X.2.2.1 (o + p) = X'.2.2.1 (o' + p) ∧ (X.2.2.1 (o + p) = true → X.1 (o + p) = X'.1 (o' + p) ∧ X.2.1 (o + p) = X'.2.1 (o' + p))) ∧ ∀ k, k < 3 → X.2.2.2 k = X'.2.2.2 k
def Fr (o c : Nat) (X Y : XS) : Prop := ∀ i, i < o ∨ o + c ≤ i → Y.2.2.1 i = X.2.2.1 i ∧ Y.1 i = X.1 i ∧ Y.2.1 i = X.2.1 i
theorem Fr.rfl' {o c : Nat} {X : XS} : Fr o c X X := fun _ _ => ⟨rfl, rfl, rfl⟩
theorem Fr.tr {o c : Nat} {X Y Z : XS} (h1 : Fr o c X Y) (h2 : Fr o c Y Z) : Fr o c X Z := fun i hi => ⟨(h2 i hi).1.trans (h1 i hi).1, (h2 i hi).2.1.trans (h1 i hi).2.1, (h2 i hi).2.2.trans (h1 i hi).2.2⟩
theorem Rl_T {o o' c : Nat} {X X' : XS} (h : Rl o o' c X X') {x : Nat} (hc : pw c) : X.2.2.1 (o + x % c) = X'.2.2.1 (o' + x % c) := (h.1 _ (md_lt hc)).1
theorem Rl_bit {o o' c : Nat} {s : Int32} {X X' : XS} (h : Rl o o' c X X') (hc : pw c) (a i : Nat) : bit X.2.2.1 X.1 o c s a i = bit X'.2.2.1 X'.1 o' c s a i := by
  unfold bit
  have e := h.1 ((a + i) % c) (md_lt hc)
  cases hT : X.2.2.1 (o + (a + i) % c) with
  | false => rw [← e.1, hT, Bool.false_and, Bool.false_and]
  | true => rw [← e.1, hT, (e.2 hT).1]
theorem Rl_stp {o o' c : Nat} {X X' : XS} (h : Rl o o' c X X') (hc : pw c) (a : Nat) : ∀ n i, stp X.2.2.1 o c a i n = stp X'.2.2.1 o' c a i n := by
  intro n
  induction n with
  | zero => intro i; rfl
  | succ n ih =>
    intro i
    show (if X.2.2.1 (o + (a + i) % c) = false then some i else stp X.2.2.1 o c a (i + 1) n) = (if X'.2.2.1 (o' + (a + i) % c) = false then some i else stp X'.2.2.1 o' c a (i + 1) n)
    rw [Rl_T h hc, ih]
theorem Rl_hpI {o o' c : Nat} {s : Int32} {X X' : XS} (h : Rl o o' c X X') (hc : pw c) (a : Nat) : ∀ n i, hpI X.2.2.1 X.1 o c s a i n = hpI X'.2.2.1 X'.1 o' c s a i n := by
  intro n
  induction n with
  | zero => intro i; rfl
  | succ n ih =>
    intro i
    show (if bit X.2.2.1 X.1 o c s a i = true then some i else hpI X.2.2.1 X.1 o c s a (i + 1) n) = (if bit X'.2.2.1 X'.1 o' c s a i = true then some i else hpI X'.2.2.1 X'.1 o' c s a (i + 1) n)
    rw [Rl_bit h hc, ih]
theorem Rl_hpD {o o' c : Nat} {s : Int32} {X X' : XS} (h : Rl o o' c X X') (hc : pw c) (f : Nat) : ∀ d, hpD X.2.2.1 X.1 o c s f d = hpD X'.2.2.1 X'.1 o' c s f d := by
  intro d
  induction d with
  | zero => rfl
  | succ d ih =>
    show (match hpI X.2.2.1 X.1 o c s ((f + c - (d + 1)) % c) 0 (d + 1) with | some i => some (d + 1, i) | none => hpD X.2.2.1 X.1 o c s f d) = (match hpI X'.2.2.1 X'.1 o' c s ((f + c - (d + 1)) % c) 0 (d + 1) with | some i => some (d + 1, i) | none => hpD X'.2.2.1 X'.1 o' c s f d)
    rw [Rl_hpI h hc, ih]
theorem upd_at (f : IT) (i : Nat) (x : Int32) (k : Nat) : upd f i x k = if k = i then x else f k := rfl
theorem vup_at (f : BT) (i : Nat) (x : Bool) (k : Nat) : va_up f i x k = if k = i then x else f k := rfl
theorem Rl_plc {o o' c : Nat} {h : Nat} {key val : Int32} {b : Nat} {X X' : XS} (hr : Rl o o' c X X') (hc : pw c) : Rl o o' c (plc o c h key val b X) (plc o' c h key val b X') := by
  refine ⟨fun p hp => ?_, hr.2⟩
  have hl := md_lt (x := h + b) hc
  show va_up X.2.2.1 (o + (h + b) % c) true (o + p) = va_up X'.2.2.1 (o' + (h + b) % c) true (o' + p) ∧ (va_up X.2.2.1 (o + (h + b) % c) true (o + p) = true → upd X.1 (o + (h + b) % c) key (o + p) = upd X'.1 (o' + (h + b) % c) key (o' + p) ∧ upd X.2.1 (o + (h + b) % c) val (o + p) = upd X'.2.1 (o' + (h + b) % c) val (o' + p))
  simp only [upd_at, vup_at]
  by_cases e : p = (h + b) % c
  · rw [e]; simp
  · have e1 : ¬ o + p = o + (h + b) % c := by omega
    have e2 : ¬ o' + p = o' + (h + b) % c := by omega
    simp only [if_neg e1, if_neg e2]
    exact hr.1 p hp
theorem Rl_hop {o o' c f : Nat} {x : Nat × Nat} {X X' : XS} (hr : Rl o o' c X X') (hc : pw c) (hT : X.2.2.1 (o + ((f + c - x.1) % c + x.2) % c) = true) : Rl o o' c (hopX o c f (some x) X) (hopX o' c f (some x) X') := by
  have hg := md_lt (x := (f + c - x.1) % c + x.2) hc
  have hf := md_lt (x := f) hc
  have eg := hr.1 _ hg
  have hT' := eg.1.symm.trans hT
  have ek := eg.2 hT
  refine ⟨fun p hp => ?_, fun k hk => ?_⟩
  · show mvT X.2.2.1 (o + ((f + c - x.1) % c + x.2) % c) (o + f % c) (o + p) = mvT X'.2.2.1 (o' + ((f + c - x.1) % c + x.2) % c) (o' + f % c) (o' + p) ∧ (mvT X.2.2.1 (o + ((f + c - x.1) % c + x.2) % c) (o + f % c) (o + p) = true → upd X.1 (o + f % c) (X.1 (o + ((f + c - x.1) % c + x.2) % c)) (o + p) = upd X'.1 (o' + f % c) (X'.1 (o' + ((f + c - x.1) % c + x.2) % c)) (o' + p) ∧ upd X.2.1 (o + f % c) (X.2.1 (o + ((f + c - x.1) % c + x.2) % c)) (o + p) = upd X'.2.1 (o' + f % c) (X'.2.1 (o' + ((f + c - x.1) % c + x.2) % c)) (o' + p))
    unfold mvT
    rw [hT, hT', ek.1, ek.2]
    generalize ((f + c - x.1) % c + x.2) % c = g at *
    generalize f % c = f' at *
    simp only [upd_at, vup_at]
    by_cases e : p = g
    · rw [e]; simp
    · have e1 : ¬ o + p = o + g := by omega
      have e2 : ¬ o' + p = o' + g := by omega
      simp only [if_neg e1, if_neg e2]
      by_cases e3 : p = f'
      · rw [e3]; simp
      · have e4 : ¬ o + p = o + f' := by omega
        have e5 : ¬ o' + p = o' + f' := by omega
        simp only [if_neg e4, if_neg e5]
        exact hr.1 p hp
  · show upd X.2.2.2 0 (X.2.2.2 0 + 1) k = upd X'.2.2.2 0 (X'.2.2.2 0 + 1) k
    simp only [upd_at]
    rw [hr.2 k hk, hr.2 0 (by decide)]
theorem Fr_plc {o c : Nat} {h : Nat} {key val : Int32} {b : Nat} {X : XS} (hc : pw c) : Fr o c X (plc o c h key val b X) := fun i hi => by
  have hl := md_lt (x := h + b) hc
  have e : ¬ i = o + (h + b) % c := by omega
  exact ⟨if_neg e, if_neg e, if_neg e⟩
theorem Fr_hop {o c f : Nat} {x : Nat × Nat} {X : XS} (hc : pw c) : Fr o c X (hopX o c f (some x) X) := fun i hi => by
  have hg := md_lt (x := (f + c - x.1) % c + x.2) hc
  have hf := md_lt (x := f) hc
  have e1 : ¬ i = o + ((f + c - x.1) % c + x.2) % c := by omega
  have e2 : ¬ i = o + f % c := by omega
  refine ⟨?_, if_neg e2, if_neg e2⟩
  show mvT X.2.2.1 (o + ((f + c - x.1) % c + x.2) % c) (o + f % c) i = X.2.2.1 i
  unfold mvT
  simp only [vup_at, if_neg e1, if_neg e2]
theorem inL_sim {o o' c : Nat} {s : Int32} {h : Nat} {key val : Int32} (hc : pw c) : ∀ (n b : Nat) (X X' : XS), Rl o o' c X X' → (inL o c s h key val n b X).1 = (inL o' c s h key val n b X').1 ∧ Rl o o' c (inL o c s h key val n b X).2 (inL o' c s h key val n b X').2 := by
  intro n
  induction n with
  | zero => intro b X X' hr; exact ⟨rfl, Rl_plc hr hc⟩
  | succ n ih =>
    intro b X X' hr
    by_cases hb : b < 8
    · rw [inL_p hb, inL_p hb]
      exact ⟨rfl, Rl_plc hr hc⟩
    · cases hq : hpD X.2.2.1 X.1 o c s (h + b) 7 with
      | none =>
        rw [inL_n hb hq, inL_n hb ((Rl_hpD hr hc (h + b) 7).symm.trans hq)]
        exact ⟨rfl, hr⟩
      | some x =>
        rw [inL_s hb hq, inL_s hb ((Rl_hpD hr hc (h + b) 7).symm.trans hq)]
        exact ih _ _ _ (Rl_hop hr hc (bit_T (hpD_b _ _ hq).1))
theorem inL_fr {o c : Nat} {s : Int32} {h : Nat} {key val : Int32} (hc : pw c) : ∀ (n b : Nat) (X : XS), Fr o c X (inL o c s h key val n b X).2 := by
  intro n
  induction n with
  | zero => intro b X; exact Fr_plc hc
  | succ n ih =>
    intro b X
    by_cases hb : b < 8
    · rw [inL_p hb]; exact Fr_plc hc
    · cases hq : hpD X.2.2.1 X.1 o c s (h + b) 7 with
      | none => rw [inL_n hb hq]; exact Fr.rfl'
      | some x => rw [inL_s hb hq]; exact (Fr_hop hc).tr (ih _ _)
theorem ins_sim {o o' c : Nat} {s key val : Int32} {X X' : XS} (hc : pw c) (hr : Rl o o' c X X') : (ins o c s key val X).1 = (ins o' c s key val X').1 ∧ Rl o o' c (ins o c s key val X).2 (ins o' c s key val X').2 := by
  cases hq : stp X.2.2.1 o c (hom key s c) 0 c with
  | none => rw [ins_n hq, ins_n ((Rl_stp hr hc _ c 0).symm.trans hq)]; exact ⟨rfl, hr⟩
  | some b => rw [ins_s hq, ins_s ((Rl_stp hr hc _ c 0).symm.trans hq)]; exact inL_sim hc _ _ _ _ hr
theorem ins_fr {o c : Nat} {s key val : Int32} {X : XS} (hc : pw c) : Fr o c X (ins o c s key val X).2 := by
  cases hq : stp X.2.2.1 o c (hom key s c) 0 c with
  | none => rw [ins_n hq]; exact Fr.rfl'
  | some b => rw [ins_s hq]; exact inL_fr hc _ _ _
/-! what an insert keeps: every key near its home, no key twice -/
def IM (o c : Nat) (s : Int32) (X : XS) : Prop := (∀ p, p < c → X.2.2.1 (o + p) = true → (p + c - hom (X.1 (o + p)) s c) % c < 8) ∧ (∀ p q, p < c → q < c → X.2.2.1 (o + p) = true → X.2.2.1 (o + q) = true → X.1 (o + p) = X.1 (o + q) → p = q)
def KS (o c : Nat) (Q : Int32 → Prop) (X : XS) : Prop := ∀ p, p < c → X.2.2.1 (o + p) = true → Q (X.1 (o + p))
theorem md_d {c f d : Nat} (hc : pw c) (hd : d ≤ 7) : (f % c + c - (f + c - d) % c) % c = d := by
  rcases hc with rfl | rfl | rfl | rfl | rfl <;> omega
theorem hop_at {o c f : Nat} {x : Nat × Nat} {X : XS} (hT : X.2.2.1 (o + ((f + c - x.1) % c + x.2) % c) = true) {p : Nat} :
    (hopX o c f (some x) X).2.2.1 (o + p) = (if p = ((f + c - x.1) % c + x.2) % c then false else if p = f % c then true else X.2.2.1 (o + p)) ∧
    (hopX o c f (some x) X).1 (o + p) = (if p = f % c then X.1 (o + ((f + c - x.1) % c + x.2) % c) else X.1 (o + p)) := by
  refine ⟨?_, ?_⟩
  · show mvT X.2.2.1 (o + ((f + c - x.1) % c + x.2) % c) (o + f % c) (o + p) = _
    unfold mvT
    rw [hT]
    simp only [vup_at, Nat.add_left_cancel_iff]
  · show upd X.1 (o + f % c) (X.1 (o + ((f + c - x.1) % c + x.2) % c)) (o + p) = _
    simp only [upd_at, Nat.add_left_cancel_iff]
theorem hop_KS {o c f : Nat} {s : Int32} {x : Nat × Nat} {X : XS} (hc : pw c) (hb : bit X.2.2.1 X.1 o c s ((f + c - x.1) % c) x.2 = true) {Q : Int32 → Prop} (h : KS o c Q X) : KS o c Q (hopX o c f (some x) X) := by
  have hT := bit_T hb
  intro p hp hq
  have ha := hop_at (f := f) (x := x) hT (p := p)
  rw [ha.1] at hq
  rw [ha.2]
  by_cases e1 : p = ((f + c - x.1) % c + x.2) % c
  · rw [if_pos e1] at hq; exact absurd hq (by decide)
  · rw [if_neg e1] at hq
    by_cases e2 : p = f % c
    · rw [if_pos e2]; exact h _ (md_lt hc) hT
    · rw [if_neg e2] at hq
      rw [if_neg e2]; exact h p hp hq
theorem hop_IM {o c f : Nat} {s : Int32} {x : Nat × Nat} {X : XS} (hc : pw c) (hb : bit X.2.2.1 X.1 o c s ((f + c - x.1) % c) x.2 = true) (hd : x.1 ≤ 7) (hf : X.2.2.1 (o + f % c) = false) (h : IM o c s X) : IM o c s (hopX o c f (some x) X) := by
  have hT := bit_T hb
  have hg := md_lt (x := (f + c - x.1) % c + x.2) hc
  have hho : hom (X.1 (o + ((f + c - x.1) % c + x.2) % c)) s c = (f + c - x.1) % c := by
    unfold bit at hb
    rw [Bool.and_eq_true] at hb
    exact of_decide_eq_true hb.2
  refine ⟨fun p hp hq => ?_, fun p q hp hq h1 h2 h3 => ?_⟩
  · have ha := hop_at (f := f) (x := x) hT (p := p)
    rw [ha.1] at hq
    rw [ha.2]
    by_cases e1 : p = ((f + c - x.1) % c + x.2) % c
    · rw [if_pos e1] at hq; exact absurd hq (by decide)
    · rw [if_neg e1] at hq
      by_cases e2 : p = f % c
      · rw [if_pos e2, hho, e2, md_d hc hd]; omega
      · rw [if_neg e2] at hq
        rw [if_neg e2]; exact h.1 p hp hq
  · have ha := hop_at (f := f) (x := x) hT (p := p)
    have hz := hop_at (f := f) (x := x) hT (p := q)
    rw [ha.1] at h1
    rw [hz.1] at h2
    rw [ha.2, hz.2] at h3
    by_cases e1 : p = ((f + c - x.1) % c + x.2) % c
    · rw [if_pos e1] at h1; exact absurd h1 (by decide)
    · rw [if_neg e1] at h1
      by_cases e2 : q = ((f + c - x.1) % c + x.2) % c
      · rw [if_pos e2] at h2; exact absurd h2 (by decide)
      · rw [if_neg e2] at h2
        by_cases e3 : p = f % c
        · rw [if_pos e3] at h3
          by_cases e4 : q = f % c
          · rw [e3, e4]
          · rw [if_neg e4] at h2 h3
            exact absurd (h.2 _ q hg hq hT h2 h3).symm e2
        · rw [if_neg e3] at h1 h3
          by_cases e4 : q = f % c
          · rw [if_pos e4] at h3
            exact absurd (h.2 p _ hp hg h1 hT h3) e1
          · rw [if_neg e4] at h2 h3
            exact h.2 p q hp hq h1 h2 h3
theorem plc_at {o c h : Nat} {key val : Int32} {b : Nat} {X : XS} {p : Nat} :
    (plc o c h key val b X).2.2.1 (o + p) = (if p = (h + b) % c then true else X.2.2.1 (o + p)) ∧
    (plc o c h key val b X).1 (o + p) = (if p = (h + b) % c then key else X.1 (o + p)) := by
  refine ⟨?_, ?_⟩
  · show va_up X.2.2.1 (o + (h + b) % c) true (o + p) = _
    simp only [vup_at, Nat.add_left_cancel_iff]
  · show upd X.1 (o + (h + b) % c) key (o + p) = _
    simp only [upd_at, Nat.add_left_cancel_iff]
theorem plc_KS {o c h : Nat} {key val : Int32} {b : Nat} {X : XS} {Q : Int32 → Prop} (hx : KS o c Q X) (hk : Q key) : KS o c Q (plc o c h key val b X) := by
  intro p hp hq
  rw [plc_at.1] at hq
  rw [plc_at.2]
  by_cases e : p = (h + b) % c
  · rw [if_pos e]; exact hk
  · rw [if_neg e] at hq
    rw [if_neg e]; exact hx p hp hq
theorem plc_IM {o c : Nat} {s key val : Int32} {b : Nat} {X : XS} (hc : pw c) (hb : b < 8) (hn : KS o c (fun k => k ≠ key) X) (h : IM o c s X) : IM o c s (plc o c (hom key s c) key val b X) := by
  have hh := hom_lt (key := key) (s := s) hc
  have h8 := pw_ge hc
  refine ⟨fun p hp hq => ?_, fun p q hp hq h1 h2 h3 => ?_⟩
  · rw [plc_at.1] at hq
    rw [plc_at.2]
    by_cases e : p = (hom key s c + b) % c
    · rw [if_pos e, e, md_h hc hh (by omega)]; exact hb
    · rw [if_neg e] at hq
      rw [if_neg e]; exact h.1 p hp hq
  · rw [plc_at.1] at h1 h2
    rw [plc_at.2, plc_at.2] at h3
    by_cases e : p = (hom key s c + b) % c
    · by_cases e2 : q = (hom key s c + b) % c
      · rw [e, e2]
      · rw [if_pos e, if_neg e2] at h3
        rw [if_neg e2] at h2
        exact absurd h3.symm (hn q hq h2)
    · rw [if_neg e] at h1 h3
      by_cases e2 : q = (hom key s c + b) % c
      · rw [if_pos e2] at h3
        exact absurd h3 (hn p hp h1)
      · rw [if_neg e2] at h2 h3
        exact h.2 p q hp hq h1 h2 h3
theorem inL_IM {o c : Nat} {s key val : Int32} (hc : pw c) : ∀ (n b : Nat) (X : XS), b < n → b < c → X.2.2.1 (o + (hom key s c + b) % c) = false → KS o c (fun k => k ≠ key) X → IM o c s X →
    IM o c s (inL o c s (hom key s c) key val n b X).2 ∧ (∀ Q : Int32 → Prop, KS o c Q X → Q key → KS o c Q (inL o c s (hom key s c) key val n b X).2) ∧ ((inL o c s (hom key s c) key val n b X).1 = false → ∀ Q : Int32 → Prop, KS o c Q X → KS o c Q (inL o c s (hom key s c) key val n b X).2) := by
  have hh := hom_lt (key := key) (s := s) hc
  intro n
  induction n with
  | zero => intro b X hb; exact absurd hb (Nat.not_lt_zero _)
  | succ n ih =>
    intro b X hbn hbc hT hn h
    by_cases hb : b < 8
    · rw [inL_p hb]
      exact ⟨plc_IM hc hb hn h, fun Q hQ hk => plc_KS hQ hk, fun z => absurd (show true = false from z) (by decide)⟩
    · cases hq : hpD X.2.2.1 X.1 o c s (hom key s c + b) 7 with
      | none =>
        rw [inL_n hb hq]
        exact ⟨h, fun Q hQ _ => hQ, fun _ Q hQ => hQ⟩
      | some x =>
        rw [inL_s hb hq]
        have hx := hpD_b _ _ hq
        have hg := md_g (h := hom key s c) (b := b) (d := x.1) (i := x.2) hc hh hbc (by omega) hx.2.2 hx.2.1
        have hTg := bit_T hx.1
        have h1 : (hopX o c (hom key s c + b) (some x) X).2.2.1 (o + (hom key s c + (b - (x.1 - x.2))) % c) = false := by
          rw [← hg, (hop_at hTg).1, if_pos rfl]
        have hi := ih (b - (x.1 - x.2)) (hopX o c (hom key s c + b) (some x) X) (by omega) (by omega) h1 (hop_KS hc hx.1 hn) (hop_IM hc hx.1 hx.2.2 hT h)
        exact ⟨hi.1, fun Q hQ hk => hi.2.1 Q (hop_KS hc hx.1 hQ) hk, fun z Q hQ => hi.2.2 z Q (hop_KS hc hx.1 hQ)⟩
theorem stp_T {T : BT} {o c h : Nat} : ∀ (n i b : Nat), stp T o c h i n = some b → T (o + (h + b) % c) = false := by
  intro n
  induction n with
  | zero =>
    intro i b hb
    cases hb
  | succ n ih =>
    intro i b hb
    have hb : (if T (o + (h + i) % c) = false then some i else stp T o c h (i + 1) n) = some b := hb
    by_cases hc : T (o + (h + i) % c) = false
    · rw [if_pos hc] at hb
      cases hb
      exact hc
    · rw [if_neg hc] at hb
      exact ih (i + 1) b hb
theorem ins_IM {o c : Nat} {s key val : Int32} {X : XS} (hc : pw c) (hn : KS o c (fun k => k ≠ key) X) (h : IM o c s X) :
    IM o c s (ins o c s key val X).2 ∧ (∀ Q : Int32 → Prop, KS o c Q X → Q key → KS o c Q (ins o c s key val X).2) ∧ ((ins o c s key val X).1 = false → ∀ Q : Int32 → Prop, KS o c Q X → KS o c Q (ins o c s key val X).2) := by
  cases hq : stp X.2.2.1 o c (hom key s c) 0 c with
  | none => rw [ins_n hq]; exact ⟨h, fun Q hQ _ => hQ, fun _ Q hQ => hQ⟩
  | some b =>
    rw [ins_s hq]
    have hb := stp_lt _ _ _ hq
    exact inL_IM hc c b X (by omega) (by omega) (stp_T _ _ _ hq) hn h
/-- a key is found where it is -/
theorem plF_no {F : BT} {K : IT} {o : Nat} {key : Int32} : ∀ (n : Nat), plF F K o key n = none → ∀ p, p < n → ¬ (F (o + p) = true ∧ K (o + p) = key) := by
  intro n
  induction n with
  | zero => intro _ p hp; exact absurd hp (Nat.not_lt_zero _)
  | succ n ih =>
    intro h p hp
    have h : (if F (o + n) = true ∧ K (o + n) = key then some n else plF F K o key n) = none := h
    by_cases hz : F (o + n) = true ∧ K (o + n) = key
    · rw [if_pos hz] at h; cases h
    · rw [if_neg hz] at h
      by_cases e : p = n
      · rw [e]; exact hz
      · exact ih h p (by omega)
theorem plF_KS {X : XS} {o c : Nat} {key : Int32} (h : plF X.2.2.1 X.1 o key c = none) : KS o c (fun k => k ≠ key) X := fun p hp hq z => plF_no c h p hp ⟨hq, z⟩
theorem fnd_no {T : BT} {K : IT} {o c h : Nat} {key : Int32} (hc : pw c) (hn : ∀ p, p < c → ¬ (T (o + p) = true ∧ K (o + p) = key)) : ∀ n i, fnd T K o c h key i n = none := by
  intro n
  induction n with
  | zero => intro i; rfl
  | succ n ih =>
    intro i
    show (if T (o + (h + i) % c) = true ∧ K (o + (h + i) % c) = key then some (o + (h + i) % c) else fnd T K o c h key (i + 1) n) = none
    rw [if_neg (hn _ (md_lt hc))]
    exact ih (i + 1)
theorem fnd_is {T : BT} {K : IT} {o c h : Nat} {key : Int32} {p : Nat} (hc : pw c) (hp : p < c) (hT : T (o + p) = true) (hK : K (o + p) = key) (hu : ∀ q, q < c → T (o + q) = true → K (o + q) = key → q = p) : ∀ n i j, i ≤ j → j < i + n → (h + j) % c = p → fnd T K o c h key i n = some (o + p) := by
  intro n
  induction n with
  | zero => intro i j h1 h2; omega
  | succ n ih =>
    intro i j h1 h2 h3
    show (if T (o + (h + i) % c) = true ∧ K (o + (h + i) % c) = key then some (o + (h + i) % c) else fnd T K o c h key (i + 1) n) = some (o + p)
    by_cases hz : T (o + (h + i) % c) = true ∧ K (o + (h + i) % c) = key
    · rw [if_pos hz, hu _ (md_lt hc) hz.1 hz.2]
    · rw [if_neg hz]
      by_cases e : i = j
      · rw [← e] at h3
        rw [h3] at hz
        exact absurd ⟨hT, hK⟩ hz
      · exact ih (i + 1) j (by omega) (by omega) h3
theorem md_i {c h p : Nat} (hc : pw c) (hh : h < c) (hp : p < c) : (h + (p + c - h) % c) % c = p := by
  rcases hc with rfl | rfl | rfl | rfl | rfl <;> omega
theorem fnd_sim {o o' c : Nat} {s key : Int32} {X X' : XS} (hc : pw c) (hr : Rl o o' c X X') (hI : IM o' c s X') : fnd X.2.2.1 X.1 o c (hom key s c) key 0 8 = (plF X'.2.2.1 X'.1 o' key c).map (fun p => o + p) := by
  have hh := hom_lt (key := key) (s := s) hc
  have tr : ∀ q, q < c → X.2.2.1 (o + q) = true → X.1 (o + q) = key → X'.2.2.1 (o' + q) = true ∧ X'.1 (o' + q) = key := fun q hq h1 h2 => by
    have e := hr.1 q hq
    exact ⟨e.1.symm.trans h1, (e.2 h1).1.symm.trans h2⟩
  cases hq : plF X'.2.2.1 X'.1 o' key c with
  | none =>
    have hno := plF_no c hq
    exact fnd_no hc (fun p hp z => hno p hp (tr p hp z.1 z.2)) 8 0
  | some p =>
    have hp := plF_lt c p hq
    have e := hr.1 p hp.1
    have hT := e.1.trans hp.2.1
    have hK := (e.2 hT).1.trans hp.2.2
    have hd := hI.1 p hp.1 hp.2.1
    rw [hp.2.2] at hd
    exact fnd_is hc hp.1 hT hK (fun q hq h1 h2 => by
      have z := tr q hq h1 h2
      exact hI.2 q p hq hp.1 z.1 hp.2.1 (z.2.trans hp.2.2.symm)) 8 0 ((p + c - hom key s c) % c) (by omega) (by omega) (md_i hc hh hp.1)
theorem cnt_sim {o o' c : Nat} {X X' : XS} (hr : Rl o o' c X X') : ∀ n, n ≤ c → cnt X.2.2.1 o n = cnt X'.2.2.1 o' n := by
  intro n
  induction n with
  | zero => intro _; rfl
  | succ n ih =>
    intro hn
    show (if X.2.2.1 (o + n) = true then cnt X.2.2.1 o n + 1 else cnt X.2.2.1 o n) = (if X'.2.2.1 (o' + n) = true then cnt X'.2.2.1 o' n + 1 else cnt X'.2.2.1 o' n)
    rw [(hr.1 n (by omega)).1, ih (by omega)]
theorem nxF_sim {o o' c : Nat} {X X' : XS} (hc : pw c) (hr : Rl o o' c X X') : ∀ n i, nxF X.2.2.1 o c i n = nxF X'.2.2.1 o' c i n := by
  intro n
  induction n with
  | zero => intro i; rfl
  | succ n ih =>
    intro i
    show (if X.2.2.1 (o + i % c) = true then some i else nxF X.2.2.1 o c (i + 1) n) = (if X'.2.2.1 (o' + i % c) = true then some i else nxF X'.2.2.1 o' c (i + 1) n)
    rw [Rl_T hr hc, ih]
theorem rowB_sim {o o' c : Nat} {s : Int32} {X X' : XS} (hc : pw c) (hr : Rl o o' c X X') (a : Nat) : (fun i => bit X.2.2.1 X.1 o c s a i) = fun i => bit X'.2.2.1 X'.1 o' c s a i := by
  funext i
  exact Rl_bit hr hc a i
theorem dist_eq {c b p h : Nat} (hc : pw c) (hp : p < c) (hh : h < c) : nI (((nI (b + p) - nI b) - nI h).toBitVec.toNat % c) = nI ((p + c - h) % c) := by
  rw [pk_sub (by omega), show b + p - b = p by omega, ← pw_and hc, pw_subN hc (by have := pw_le hc; omega) (by omega)]
