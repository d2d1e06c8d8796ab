theorem lt_L {L i : Nat} (hL : L ≤ 2048) (hi : i ≤ 4096) : nI L - 4 < nI i ↔ L < i + 4 := by
  have e : (nI L - 4).toInt = (L : Int) - 4 := pk_sub_toInt (a := L) (b := 4) (by omega) (by omega)
  rw [Int32.lt_iff_toInt_lt, e, nI_toInt (by omega)]
  omega
theorem and15 (x : Int32) : ∃ r, r < 16 ∧ x &&& 15 = nI r := ⟨x.toBitVec.toNat % 16, Nat.mod_lt _ (by decide), pk_and x 4 (by decide)⟩
section HLD
variable {p : Program} {l : Launch} {e : Env} {s : State} {m : MethodId} {below : List Frame} {meth : Method} {c : Code} {b L : Nat} {xs : Nat → Int32} {D : va_G} {ca a cm am sa : Nat → Nat} {o co : Nat} {A : Nat → Prop}
set_option maxHeartbeats 4000000 in
set_option maxRecDepth 100000 in
theorem lw_end {ls : Array Slot} {H : Heap} {locs : List Loc} {cells slots : Nat} (hx : p.tables.exec = Jvm.exec) (hb : c.code = code) (hr : meth.sig.returnType = ret) (hlocks : meth.locks = false) (hS : va_S (fun q => s.heap.size ≤ q) s.heap H locs) (h1 : cells ≤ 601024) (h2 : slots ≤ 7293034) : W p l e room_1 s m #[Value.ref b] below meth c H locs cells slots (lw_Z below #[Value.ref b] s) (F0 m 984 ls []) := by
  refine lv_iconst (v := 1) hx hb d_law_984 (by decide) ?_
  refine va_forget (fun q hq => hS.2.2 q hq) ?_
  refine W.widen (k := 601024) (n := 7293034) h1 h2 ?_
  exact lw_ret hx hb hr hlocks d_law_985
set_option maxHeartbeats 4000000 in
set_option maxRecDepth 100000 in
theorem lw_loop (X : CallFix p m c code 7 s #[Value.ref b] wsA R_Law) (hC : LK l D ca cm sa co (fun q => s.heap.size ≤ q) s b L xs) (hL : L ≤ 2048) (hr : meth.sig.returnType = ret) (hlocks : meth.locks = false) : ∀ (n j : Nat) (ls : Array Slot) (H : Heap) (locs : List Loc) (q : Nat → Nat) (Z : HS) (f : Nat → Int64) (z : Int32) (Z' : HS) (O : OS), j + n = 512 → LI D ca a cm am o co (fun q => s.heap.size ≤ q) s H locs q Z f z Z' O → lv_has ls 7 [(4, .int (nI (4 * j))), (0, .ref b), (1, .ref (a 0)), (2, .ref (am 0)), (3, .ref o)] → W p l e room_1 s m #[Value.ref b] below meth c H locs (1000 + 3 * j) (5000 + 18 * j) (lw_Z below #[Value.ref b] s) (F0 m 23 ls []) := by
  have hC0 := hC
  obtain ⟨hlt, hK, hKm, hF, hZ, hN, hX, hbl, hbA⟩ := hC
  have hx := X.1
  have hb := X.2.1
  intro n
  induction n with
  | zero =>
    intro j ls H locs q Z f z Z' O hj hI hl
    have hS := hI.2.2.2.2.2.1
    refine lv_iload hx hb d_law_23 (lv_at hl 0 rfl) ?_
    refine lv_aload_n hx hb d_law_25 rfl (lv_at hl 1 rfl) ?_
    refine va_slen hx hb hX hbl hbA hS d_law_26 ?_
    refine lv_iconst (v := 4) hx hb d_law_27 (by decide) ?_
    refine lv_isub hx hb d_law_28 ?_
    refine lvT_icmp_gt (tgt := 984) hx hb d_law_29 (by decide) ((lt_L hL (by omega)).mpr (by omega)) ?_
    exact lw_end hx hb hr hlocks hS (by omega) (by omega)
  | succ n ih =>
    intro j ls H locs q Z f z Z' O hj hI hl
    have hS := hI.2.2.2.2.2.1
    refine lv_iload hx hb d_law_23 (lv_at hl 0 rfl) ?_
    refine lv_aload_n hx hb d_law_25 rfl (lv_at hl 1 rfl) ?_
    refine va_slen hx hb hX hbl hbA hS d_law_26 ?_
    refine lv_iconst (v := 4) hx hb d_law_27 (by decide) ?_
    refine lv_isub hx hb d_law_28 ?_
    refine lv_icmp_gt (tgt := 984) hx hb d_law_29 (by decide) (fun h1 => ?_) (fun h1 => ?_)
    · exact lw_end hx hb hr hlocks hS (by omega) (by omega)
    · have hi4 : 4 * j + 4 ≤ L := Nat.not_lt.mp (fun z9 => h1 ((lt_L hL (by omega)).mpr z9))
      have cont : ∀ (ls : Array Slot) (H : Heap) (locs : List Loc) (q : Nat → Nat) (Z : HS) (f : Nat → Int64) (z : Int32) (Z' : HS) (O : OS) (cells slots : Nat), cells ≤ 1000 + 3 * (j + 1) → slots ≤ 5000 + 18 * (j + 1) → LI D ca a cm am o co (fun q => s.heap.size ≤ q) s H locs q Z f z Z' O → lv_has ls 7 [(4, .int (nI (4 * j))), (0, .ref b), (1, .ref (a 0)), (2, .ref (am 0)), (3, .ref o)] → W p l e room_1 s m #[Value.ref b] below meth c H locs cells slots (lw_Z below #[Value.ref b] s) (F0 m 978 ls []) := by
        intro ls H locs q Z f z Z' O cells slots hc1 hs1 hI hl
        refine W.widen (k := 1000 + 3 * (j + 1)) (n := 5000 + 18 * (j + 1)) hc1 hs1 ?_
        refine lv_iinc (k := 0) (v := nI (4 * (j + 1))) (lv' := [(4, .int (nI (4 * (j + 1)))), (0, .ref b), (1, .ref (a 0)), (2, .ref (am 0)), (3, .ref o)]) hx hb d_law_978 hl rfl (nI_add (4 * j) 4) (by decide) rfl (fun ls hl => ?_)
        refine lv_goto (tgt := 23) hx hb d_law_981 (by decide) ?_
        exact ih (j + 1) ls H locs q Z f z Z' O (by omega) hI (lv_sub hl [0, 1, 2, 3, 4] rfl)
      refine lv_aload_n hx hb d_law_32 rfl (lv_at hl 1 rfl) ?_
      refine lv_iload hx hb d_law_33 (lv_at hl 0 rfl) ?_
      refine va_sld hx hb hX hbl hbA hS (i := nI (4 * j)) (vp_in_nI (by omega) (by omega)) d_law_35 ?_
      rw [nI_clamp (show 4 * j < 2 ^ 31 by omega)]
      refine lv_bipush (v := 15) hx hb d_law_36 (by decide) ?_
      refine lv_iand hx hb d_law_38 ?_
      obtain ⟨r, hr16, he⟩ := and15 (xs (4 * j))
      refine lv_tope (y := nI r) he ?_
      clear he
      by_cases h13 : 12 < r
      · refine lv_tableOut (tgt := 978) hx hb d_law_39 (Or.inr (by rw [nI_toInt (by omega)]; omega)) (by decide) ?_
        exact cont ls H locs q Z f z Z' O _ _ (by omega) (by omega) hI hl
      · rcases (show r = 0 ∨ r = 1 ∨ r = 2 ∨ r = 3 ∨ r = 4 ∨ r = 5 ∨ r = 6 ∨ r = 7 ∨ r = 8 ∨ r = 9 ∨ r = 10 ∨ r = 11 ∨ r = 12 by omega) with rfl | rfl | rfl | rfl | rfl | rfl | rfl | rfl | rfl | rfl | rfl | rfl | rfl
        · refine lv_tableIn (tgt := 104) (off := 65) hx hb d_law_39 (by decide) (by decide) (by decide) (by decide) ?_
          exact lw_put X hC0 hi4 hL hI ⟨by show 1000 + 3 * j + 2 ≤ 601024; omega, by show 5000 + 18 * j + 12 ≤ 7293034; omega⟩ hl (fun ls H locs q Z f z Z' O hI hl => cont ls H locs q Z f z Z' O _ _ (by omega) (by omega) hI hl)
        · refine lv_tableIn (tgt := 191) (off := 152) hx hb d_law_39 (by decide) (by decide) (by decide) (by decide) ?_
          exact lw_get X hC0 hi4 hL hI ⟨by show 1000 + 3 * j + 2 ≤ 601024; omega, by show 5000 + 18 * j + 12 ≤ 7293034; omega⟩ hl (fun ls H locs q Z f z Z' O hI hl => cont ls H locs q Z f z Z' O _ _ (by omega) (by omega) hI hl)
        · refine lv_tableIn (tgt := 259) (off := 220) hx hb d_law_39 (by decide) (by decide) (by decide) (by decide) ?_
          exact lw_remove X hC0 hi4 hL hI ⟨by show 1000 + 3 * j + 2 ≤ 601024; omega, by show 5000 + 18 * j + 12 ≤ 7293034; omega⟩ hl (fun ls H locs q Z f z Z' O hI hl => cont ls H locs q Z f z Z' O _ _ (by omega) (by omega) hI hl)
        · refine lv_tableIn (tgt := 327) (off := 288) hx hb d_law_39 (by decide) (by decide) (by decide) (by decide) ?_
          exact lw_has X hC0 hi4 hL hI ⟨by show 1000 + 3 * j + 1 ≤ 601024; omega, by show 5000 + 18 * j + 6 ≤ 7293034; omega⟩ hl (fun ls H locs q Z f z Z' O hI hl => cont ls H locs q Z f z Z' O _ _ (by omega) (by omega) hI hl)
        · refine lv_tableIn (tgt := 402) (off := 363) hx hb d_law_39 (by decide) (by decide) (by decide) (by decide) ?_
          exact lw_size X hC0 hi4 hL hI ⟨by show 1000 + 3 * j + 1 ≤ 601024; omega, by show 5000 + 18 * j + 6 ≤ 7293034; omega⟩ hl (fun ls H locs q Z f z Z' O hI hl => cont ls H locs q Z f z Z' O _ _ (by omega) (by omega) hI hl)
        · refine lv_tableIn (tgt := 458) (off := 419) hx hb d_law_39 (by decide) (by decide) (by decide) (by decide) ?_
          exact lw_clear X hC0 hi4 hL hI ⟨by show 1000 + 3 * j + 1 ≤ 601024; omega, by show 5000 + 18 * j + 6 ≤ 7293034; omega⟩ hl (fun ls H locs q Z f z Z' O hI hl => cont ls H locs q Z f z Z' O _ _ (by omega) (by omega) hI hl)
        · refine lv_tableIn (tgt := 514) (off := 475) hx hb d_law_39 (by decide) (by decide) (by decide) (by decide) ?_
          exact lw_about X hC0 hi4 hL hI ⟨by show 1000 + 3 * j + 2 ≤ 601024; omega, by show 5000 + 18 * j + 12 ≤ 7293034; omega⟩ hl (fun ls H locs q Z f z Z' O hI hl => cont ls H locs q Z f z Z' O _ _ (by omega) (by omega) hI hl)
        · refine lv_tableIn (tgt := 582) (off := 543) hx hb d_law_39 (by decide) (by decide) (by decide) (by decide) ?_
          exact lw_home X hC0 hi4 hL hI ⟨by show 1000 + 3 * j + 1 ≤ 601024; omega, by show 5000 + 18 * j + 6 ≤ 7293034; omega⟩ hl (fun ls H locs q Z f z Z' O hI hl => cont ls H locs q Z f z Z' O _ _ (by omega) (by omega) hI hl)
        · refine lv_tableIn (tgt := 650) (off := 611) hx hb d_law_39 (by decide) (by decide) (by decide) (by decide) ?_
          exact lw_distance X hC0 hi4 hL hI ⟨by show 1000 + 3 * j + 2 ≤ 601024; omega, by show 5000 + 18 * j + 12 ≤ 7293034; omega⟩ hl (fun ls H locs q Z f z Z' O hI hl => cont ls H locs q Z f z Z' O _ _ (by omega) (by omega) hI hl)
        · refine lv_tableIn (tgt := 718) (off := 679) hx hb d_law_39 (by decide) (by decide) (by decide) (by decide) ?_
          exact lw_bits X hC0 hi4 hL hI ⟨by show 1000 + 3 * j + 2 ≤ 601024; omega, by show 5000 + 18 * j + 12 ≤ 7293034; omega⟩ hl (fun ls H locs q Z f z Z' O hI hl => cont ls H locs q Z f z Z' O _ _ (by omega) (by omega) hI hl)
        · refine lv_tableIn (tgt := 786) (off := 747) hx hb d_law_39 (by decide) (by decide) (by decide) (by decide) ?_
          exact lw_next X hC0 hi4 hL hI ⟨by show 1000 + 3 * j + 2 ≤ 601024; omega, by show 5000 + 18 * j + 12 ≤ 7293034; omega⟩ hl (fun ls H locs q Z f z Z' O hI hl => cont ls H locs q Z f z Z' O _ _ (by omega) (by omega) hI hl)
        · refine lv_tableIn (tgt := 854) (off := 815) hx hb d_law_39 (by decide) (by decide) (by decide) (by decide) ?_
          exact lw_key X hC0 hi4 hL hI ⟨by show 1000 + 3 * j + 3 ≤ 601024; omega, by show 5000 + 18 * j + 18 ≤ 7293034; omega⟩ hl (fun ls H locs q Z f z Z' O hI hl => cont ls H locs q Z f z Z' O _ _ (by omega) (by omega) hI hl)
        · refine lv_tableIn (tgt := 922) (off := 883) hx hb d_law_39 (by decide) (by decide) (by decide) (by decide) ?_
          exact lw_count X hC0 hi4 hL hI ⟨by show 1000 + 3 * j + 1 ≤ 601024; omega, by show 5000 + 18 * j + 6 ≤ 7293034; omega⟩ hl (fun ls H locs q Z f z Z' O hI hl => cont ls H locs q Z f z Z' O _ _ (by omega) (by omega) hI hl)
end HLD
