set_option maxHeartbeats 4000000 in
set_option maxRecDepth 100000 in
/-- growWith -/
theorem c_Hop_growWith (l : Launch) (D : va_G) (ca a q : Nat → Nat) (K V : IT) (T : BT) (C : IT) (B P : Nat → Nat) (S : IT) (j : Nat) (key val : Int32) (hj : j < 3) (hc : pw (P j)) (hG : GI (P 0 + P 1 + P 2) (P j) j B P) : Met l y_Hop_growWith w_Hop_growWith (rmD 5 0 0) (va_Pc [.ref (a 0), .int (nI j), .int key, .int val] (hb_W D hCl (wH ca a q K V T C B P S) (tyH ca))) (hq_W (some (.int (bI (grw j (P j) (P 0 + P 1 + P 2) key val 4 1 (S j) (K, V, T, C, B, P, S)).1))) D hCl (gW ca a q j (grw j (P j) (P 0 + P 1 + P 2) key val 4 1 (S j) (K, V, T, C, B, P, S))) (hA (wH ca a q K V T C B P S))) 0 0 (hA (wH ca a q K V T C B P S)) := by
  refine Met.ofW (cc := b_Hop_growWith) (maxL := 10) (ret := some .boolean) (by decide) rfl ?_
  intro p e s m args below meth c0 s₁ B0 hml hv
  obtain ⟨rfl, hP, hK, hD0⟩ := hv
  have hx := B0.exec
  have hb := B0.bytes
  have hr := B0.returns
  have hts := atoms_spec (ws := w_Hop_growWith) B0.pre
  have hown : s.vm.findClass R_Hop = some m.cls := findClass_of_methodNamed B0.named
  have hlocks := B0.notSynchronized
  have hwA : ∀ w ∈ wsA, w.before ([.ref (a 0), .int (nI j), .int key, .int val] : List Value).toArray s = true := fun w h => hts w (List.mem_cons_of_mem _ h)
  have X : CallFix p m c0 b_Hop_growWith 10 s ([.ref (a 0), .int (nI j), .int key, .int val] : List Value).toArray wsA R_Hop := ⟨hx, hb, hml, hown, hwA⟩
  have hD := hA_D hD0
  have hS : va_S (hA (wH ca a q K V T C B P S)) s.heap s.heap [] := va_S.rf
  have hl := lv_entry ([.ref (a 0), .int (nI j), .int key, .int val]) (n := 10) (Nat.le_of_ble_eq_true rfl)
  rw [lg_entry_eq]
  generalize (lg_sl ([.ref (a 0), .int (nI j), .int key, .int val]) ++ List.replicate (10 - (lg_sl ([.ref (a 0), .int (nI j), .int key, .int val])).length) Slot.unset).toArray = ls at hl ⊢
  have hl : lv_has ls 10 [(0, .ref (a 0)), (1, .int (nI j)), (2, .int key), (3, .int val)] := hl
  have hj4 : j < 4 := by omega
  have hP8 := pw_le hc
  have loop : ∀ (n d : Nat) (sd : Int32) (ls : Array Slot) (H : Heap) (locs : List Loc) (K' V' : IT) (T' : BT) (C' : IT) (B' P' : Nat → Nat) (S' : IT), d + n = 5 → 1 ≤ d → GI (P 0 + P 1 + P 2) (P j) j B' P' → grw j (P j) (P 0 + P 1 + P 2) key val n d sd (K', V', T', C', B', P', S') = (grw j (P j) (P 0 + P 1 + P 2) key val 4 1 (S j) (K, V, T, C, B, P, S)) → va_P D hCl (wH ca a q K' V' T' C' B' P' S') H → va_D (hA (wH ca a q K V T C B P S)) (wH ca a q K' V' T' C' B' P' S') → va_S (hA (wH ca a q K V T C B P S)) s.heap H locs → lv_has ls 10 [(8, .int (nI d)), (7, .int sd), (6, .int (nI (P 0 + P 1 + P 2))), (5, .ref (q 3)), (4, .ref (q j)), (0, .ref (a 0)), (1, .int (nI j)), (2, .int key), (3, .int val)] → W p l e (headSpec w_Hop_growWith (rmD 5 0 0)).room s m ([.ref (a 0), .int (nI j), .int key, .int val] : List Value).toArray below meth c0 H locs 0 0 (MQ below (hq_W (some (.int (bI (grw j (P j) (P 0 + P 1 + P 2) key val 4 1 (S j) (K, V, T, C, B, P, S)).1))) D hCl (gW ca a q j (grw j (P j) (P 0 + P 1 + P 2) key val 4 1 (S j) (K, V, T, C, B, P, S))) (hA (wH ca a q K V T C B P S))) ([.ref (a 0), .int (nI j), .int key, .int val] : List Value).toArray s 0 0 (hA (wH ca a q K V T C B P S))) (F0 m 30 ls []) := by
    intro n
    induction n with
    | zero =>
      intro d sd ls H locs K' V' T' C' B' P' S' hd hd1 hG' hR hP hD hS hl
      refine lv_iload hx hb d_Hop_growWith_30 (lv_at hl 0 rfl) ?_
      refine lv_iconst (v := 4) hx hb d_Hop_growWith_32 (by decide) ?_
      refine lvT_icmp_gt (tgt := 131) hx hb d_Hop_growWith_33 (by decide) (nI_lt (a := 4) (b := d) (by omega) (by omega)) ?_
      refine lv_iconst (v := 0) hx hb d_Hop_growWith_131 (by decide) ?_
      have hR1 : (grw j (P j) (P 0 + P 1 + P 2) key val 4 1 (S j) (K, V, T, C, B, P, S)) = (false, (K', V', T', C', B', P', S')) := hR.symm
      exact W.zret (v := 0) hx hb hr rfl (fun t ht hW => ⟨by rw [hR1]; rfl, by rw [ht, hR1]; exact hP, hS.F ht⟩) hS.2.2 d_Hop_growWith_132
    | succ n ih =>
      intro d sd ls H locs K' V' T' C' B' P' S' hd hd1 hG' hR hP hD hS hl
      have hsb := sh_bd hP8 (show d ≤ 4 by omega)
      obtain ⟨cp, hcp⟩ : ∃ z, z = P j * 2 ^ d := ⟨_, rfl⟩
      rw [← hcp] at hsb
      have hb3 := hG'.1
      have hs256 : P 0 + P 1 + P 2 ≤ 768 := by have e0 := hb3 0 (by decide); have e1 := hb3 1 (by decide); have e2 := hb3 2 (by decide); have e3 := hG'.2.2.2.1; omega
      refine lv_iload hx hb d_Hop_growWith_30 (lv_at hl 0 rfl) ?_
      refine lv_iconst (v := 4) hx hb d_Hop_growWith_32 (by decide) ?_
      refine lvF_icmp_gt (tgt := 131) hx hb d_Hop_growWith_33 (by decide) (nI_nlt (a := 4) (b := d) (by omega) (by omega)) ?_
      refine lv_aload hx hb d_Hop_growWith_36 (lv_at hl 4 rfl) ?_
      refine hg_capacity X hK hP hj4 d_Hop_growWith_38 ?_
      refine lv_iload hx hb d_Hop_growWith_41 (lv_at hl 0 rfl) ?_
      refine lv_ishl hx hb d_Hop_growWith_43 ?_
      refine lv_tope (y := nI cp) (by rw [hG'.2.2.2.2, hcp]; exact pk_shlN _ d (shD d (by omega)) (by rw [← hcp]; omega)) ?_
      refine lv_istore (lv' := [(9, .int (nI cp)), (8, .int (nI d)), (7, .int sd), (6, .int (nI (P 0 + P 1 + P 2))), (5, .ref (q 3)), (4, .ref (q j)), (0, .ref (a 0)), (1, .int (nI j)), (2, .int key), (3, .int val)]) hx hb d_Hop_growWith_44 hl (by decide) rfl (fun ls hl => ?_)
      refine lv_iload hx hb d_Hop_growWith_46 (lv_at hl 0 rfl) ?_
      refine lv_sipush (v := 128) hx hb d_Hop_growWith_48 (by decide) ?_
      refine lv_icmp_gt (tgt := 65) hx hb d_Hop_growWith_51 (by decide) (fun h1 => ?_) (fun h1 => ?_)
      · refine lv_iconst (v := 0) hx hb d_Hop_growWith_65 (by decide) ?_
        have h1n : 128 < P j * 2 ^ d := by rw [← hcp]; exact (nI_ltI (a := 128) (b := cp) (by omega) (by omega)).mp h1
        have hR1 : (grw j (P j) (P 0 + P 1 + P 2) key val 4 1 (S j) (K, V, T, C, B, P, S)) = (false, (K', V', T', C', B', P', S')) := hR.symm.trans (if_pos (Or.inl h1n))
        exact W.zret (v := 0) hx hb hr rfl (fun t ht hW => ⟨by rw [hR1]; rfl, by rw [ht, hR1]; exact hP, hS.F ht⟩) hS.2.2 d_Hop_growWith_66
      · have h1n : ¬ 128 < cp := fun z => h1 ((nI_ltI (a := 128) (b := cp) (by omega) (by omega)).mpr z)
        refine lv_iload hx hb d_Hop_growWith_54 (lv_at hl 3 rfl) ?_
        refine lv_iload hx hb d_Hop_growWith_56 (lv_at hl 0 rfl) ?_
        refine lv_iadd hx hb d_Hop_growWith_58 ?_
        refine lv_tope (y := nI (P 0 + P 1 + P 2 + cp)) (nI_add _ _) ?_
        refine lv_sipush (v := 256) hx hb d_Hop_growWith_59 (by decide) ?_
        refine lv_icmp_le (tgt := 67) hx hb d_Hop_growWith_62 (by decide) (fun h2 => ?_) (fun h2 => ?_)
        · have h2n : P 0 + P 1 + P 2 + cp ≤ 256 := (nI_leI (a := P 0 + P 1 + P 2 + cp) (b := 256) (by omega) (by omega)).mp h2
          obtain ⟨hft, hG1⟩ := lay_inv (sd := sd * 1664525 + 1013904223) (K := K') (V := V') (T := T') (C := C') (S := S') hj hG' h2n
          refine lv_iload hx hb d_Hop_growWith_67 (lv_at hl 2 rfl) ?_
          refine lv_ldc (v := 1664525) hx hb hown (hwA (.constant R_Hop 139 (1664525)) m_227) d_Hop_growWith_69 ?_
          refine lv_imul hx hb d_Hop_growWith_71 ?_
          refine lv_ldc (v := 1013904223) hx hb hown (hwA (.constant R_Hop 140 (1013904223)) m_228) d_Hop_growWith_72 ?_
          refine lv_iadd hx hb d_Hop_growWith_74 ?_
          refine lv_tope (y := sd * 1664525 + 1013904223) (rfl) ?_
          refine lv_istore (lv' := [(7, .int (sd * 1664525 + 1013904223)), (9, .int (nI cp)), (8, .int (nI d)), (6, .int (nI (P 0 + P 1 + P 2))), (5, .ref (q 3)), (4, .ref (q j)), (0, .ref (a 0)), (1, .int (nI j)), (2, .int key), (3, .int val)]) hx hb d_Hop_growWith_75 hl (by decide) rfl (fun ls hl => ?_)
          refine lv_aload_n hx hb d_Hop_growWith_77 rfl (lv_at hl 6 rfl) ?_
          refine lv_aload hx hb d_Hop_growWith_78 (lv_at hl 4 rfl) ?_
          refine lv_iload hx hb d_Hop_growWith_80 (lv_at hl 1 rfl) ?_
          refine lv_iload hx hb d_Hop_growWith_82 (lv_at hl 0 rfl) ?_
          refine k_layOut X hK hP hD hS hl.1 (cp := cp) (sd := sd * 1664525 + 1013904223) (hb3 0 (by decide)) (hb3 1 (by decide)) (hb3 2 (by decide)) (by omega) (hft) (Nat.le_of_ble_eq_true rfl) ⟨Nat.zero_le _, Nat.zero_le _⟩ ⟨Nat.le_of_ble_eq_true rfl, Nat.le_of_ble_eq_true rfl⟩ d_Hop_growWith_84 (fun H locs hP hD hS => ?_)
          have hR : grC (fun Z => grw j (P j) (P 0 + P 1 + P 2) key val n (d + 1) (sd * 1664525 + 1013904223) Z) j key val (lay cp (sd * 1664525 + 1013904223) (K', V', T', C', B', P', S')) = (grw j (P j) (P 0 + P 1 + P 2) key val 4 1 (S j) (K, V, T, C, B, P, S)) := by rw [← hR, hcp]; exact (if_neg (by rw [← hcp]; omega)).symm
          have h3B : (lay cp (sd * 1664525 + 1013904223) (K', V', T', C', B', P', S')).2.2.2.2.1 3 + (lay cp (sd * 1664525 + 1013904223) (K', V', T', C', B', P', S')).2.2.2.2.2.1 3 ≤ 256 := by rw [lay_B3, lay_P3]; exact hft
          have h3P : (lay cp (sd * 1664525 + 1013904223) (K', V', T', C', B', P', S')).2.2.2.2.2.1 3 = cp := lay_P3 _ _ _
          generalize lay cp (sd * 1664525 + 1013904223) (K', V', T', C', B', P', S') = Z1 at hP hD hR hG1 h3B h3P
          obtain ⟨K1, V1, T1, C1, B1, P1, S1⟩ := Z1
          have hP : va_P D hCl (wH ca a q K1 V1 T1 C1 B1 P1 S1) H := hP
          have hD : va_D (hA (wH ca a q K V T C B P S)) (wH ca a q K1 V1 T1 C1 B1 P1 S1) := hD
          have hG1 : GI (P 0 + P 1 + P 2) (P j) j B1 P1 := hG1
          have hb33 : B1 3 + P1 3 ≤ 256 := h3B
          have h3P : P1 3 = cp := h3P
          have hpc : pw (P1 3) := by rw [h3P, hcp]; exact pw_sh hc (by omega) (by rw [← hcp]; omega)
          refine lv_aload_n hx hb d_Hop_growWith_87 rfl (lv_at hl 6 rfl) ?_
          refine lv_aload hx hb d_Hop_growWith_88 (lv_at hl 5 rfl) ?_
          refine lv_aload hx hb d_Hop_growWith_90 (lv_at hl 4 rfl) ?_
          refine k_insertAnew X hK hP hD hS hl.1 (j := j) (k0 := 3) hj4 (by decide) (hG1.1 j hj) hpc hb33 (Nat.le_of_ble_eq_true rfl) ⟨Nat.zero_le _, Nat.zero_le _⟩ ⟨Nat.le_of_ble_eq_true rfl, Nat.le_of_ble_eq_true rfl⟩ d_Hop_growWith_92 (fun H locs hP hD hS => ?_)
          have hR : grD (fun Z => grw j (P j) (P 0 + P 1 + P 2) key val n (d + 1) (sd * 1664525 + 1013904223) Z) key val (K1, V1, T1, C1, B1, P1, S1) (anw (B1 3) (P1 3) (S1 3) (B1 j) (P1 j) (K1, V1, T1, C1)) = (grw j (P j) (P 0 + P 1 + P 2) key val 4 1 (S j) (K, V, T, C, B, P, S)) := hR
          generalize anw (B1 3) (P1 3) (S1 3) (B1 j) (P1 j) (K1, V1, T1, C1) = r1 at hP hD hR ⊢
          obtain ⟨b1, K2, V2, T2, C2⟩ := r1
          have hP : va_P D hCl (wH ca a q K2 V2 T2 C2 B1 P1 S1) H := hP
          have hD : va_D (hA (wH ca a q K V T C B P S)) (wH ca a q K2 V2 T2 C2 B1 P1 S1) := hD
          refine lv_if_eq (tgt := 125) hx hb d_Hop_growWith_95 (by decide) (fun h3 => ?_) (fun h3 => ?_)
          · refine lv_iinc (k := 2) (v := nI (d + 1)) (lv' := [(8, .int (nI (d + 1))), (7, .int (sd * 1664525 + 1013904223)), (9, .int (nI cp)), (6, .int (nI (P 0 + P 1 + P 2))), (5, .ref (q 3)), (4, .ref (q j)), (0, .ref (a 0)), (1, .int (nI j)), (2, .int key), (3, .int val)]) hx hb d_Hop_growWith_125 hl rfl (inc1 d) (by decide) rfl (fun ls hl => ?_)
            refine lv_goto (tgt := 30) hx hb d_Hop_growWith_128 (by decide) ?_
            exact ih (d + 1) (sd * 1664525 + 1013904223) ls H locs _ _ _ _ _ _ _ (by omega) (by omega) hG1 (by rw [← hR]; exact (if_neg (by rw [show (b1, K2, V2, T2, C2).1 = false from bI_0.mp h3]; decide)).symm) hP hD hS (lv_sub hl [0, 1, 3, 4, 5, 6, 7, 8, 9] rfl)
          · refine lv_aload_n hx hb d_Hop_growWith_98 rfl (lv_at hl 6 rfl) ?_
            refine lv_aload hx hb d_Hop_growWith_99 (lv_at hl 4 rfl) ?_
            refine lv_iload_n hx hb d_Hop_growWith_101 rfl (lv_at hl 8 rfl) ?_
            refine lv_iload_n hx hb d_Hop_growWith_102 rfl (lv_at hl 9 rfl) ?_
            refine k_insert X hK hP hD hS hl.1 (key := key) (val := val) (by decide) hpc hb33 (Nat.le_of_ble_eq_true rfl) ⟨Nat.zero_le _, Nat.zero_le _⟩ ⟨Nat.le_of_ble_eq_true rfl, Nat.le_of_ble_eq_true rfl⟩ d_Hop_growWith_103 (fun H locs hP hD hS => ?_)
            have hR : grE (fun Z => grw j (P j) (P 0 + P 1 + P 2) key val n (d + 1) (sd * 1664525 + 1013904223) Z) (K1, V1, T1, C1, B1, P1, S1) (ins (B1 3) (P1 3) (S1 3) key val (K2, V2, T2, C2)) = (grw j (P j) (P 0 + P 1 + P 2) key val 4 1 (S j) (K, V, T, C, B, P, S)) := by rw [← hR]; exact (if_pos (bI_n0.mp h3)).symm
            generalize ins (B1 3) (P1 3) (S1 3) key val (K2, V2, T2, C2) = r2 at hP hD hR ⊢
            obtain ⟨b2, K3, V3, T3, C3⟩ := r2
            have hP : va_P D hCl (wH ca a q K3 V3 T3 C3 B1 P1 S1) H := hP
            have hD : va_D (hA (wH ca a q K V T C B P S)) (wH ca a q K3 V3 T3 C3 B1 P1 S1) := hD
            refine lv_if_eq (tgt := 125) hx hb d_Hop_growWith_106 (by decide) (fun h4 => ?_) (fun h4 => ?_)
            · refine lv_iinc (k := 2) (v := nI (d + 1)) (lv' := [(8, .int (nI (d + 1))), (7, .int (sd * 1664525 + 1013904223)), (9, .int (nI cp)), (6, .int (nI (P 0 + P 1 + P 2))), (5, .ref (q 3)), (4, .ref (q j)), (0, .ref (a 0)), (1, .int (nI j)), (2, .int key), (3, .int val)]) hx hb d_Hop_growWith_125 hl rfl (inc1 d) (by decide) rfl (fun ls hl => ?_)
              refine lv_goto (tgt := 30) hx hb d_Hop_growWith_128 (by decide) ?_
              exact ih (d + 1) (sd * 1664525 + 1013904223) ls H locs _ _ _ _ _ _ _ (by omega) (by omega) hG1 (by rw [← hR]; exact (if_neg (by rw [show (b2, K3, V3, T3, C3).1 = false from bI_0.mp h4]; decide)).symm) hP hD hS (lv_sub hl [0, 1, 3, 4, 5, 6, 7, 8, 9] rfl)
            · refine lv_aload_n hx hb d_Hop_growWith_109 rfl (lv_at hl 6 rfl) ?_
              refine hg_parts X hK hP d_Hop_growWith_110 ?_
              refine lv_iload_n hx hb d_Hop_growWith_113 rfl (lv_at hl 7 rfl) ?_
              refine lv_aload hx hb d_Hop_growWith_114 (lv_at hl 4 rfl) ?_
              refine va_astq (r := (R_Part, F_Part, 3)) hx hb hK hP hD hS 4 3 9 1 rfl rfl rfl rfl (vp_in_nI hj (by decide)) d_Hop_growWith_116 (fun H locs hP hD hS => ?_)
              rw [nI_clamp (by omega)] at hP hD
              refine lv_aload_n hx hb d_Hop_growWith_117 rfl (lv_at hl 6 rfl) ?_
              refine lv_aload hx hb d_Hop_growWith_118 (lv_at hl 5 rfl) ?_
              refine va_put (D := D) (ci := 0) (v := .ref (q j)) (ty := .object "HopArena$Part") (C := R_Hop) (T := F_Hop) (N := 6) hx hb hwA hin_Hop t_Hop t_Hop_ok n_Hop hown hK hP hD hS 0 rfl rfl 5 (by decide) (hwA (.fieldLink R_Hop 32 "HopArena" "spare" "LHopArena$Part;") m_86) (fun _ h9 => h9) rfl (by decide +kernel) rfl rfl (Nat.le_of_ble_eq_true rfl) d_Hop_growWith_120 (fun H locs hP hD hS => ?_)
              have hP := wHs_P hj (show va_P D hCl (wHs ca a q j K3 V3 T3 C3 B1 P1 S1) H from hP)
              refine lv_iconst (v := 1) hx hb d_Hop_growWith_123 (by decide) ?_
              have hR1 : (grw j (P j) (P 0 + P 1 + P 2) key val 4 1 (S j) (K, V, T, C, B, P, S)) = (true, K3, V3, T3, C3, B1, P1, S1) := by rw [← hR]; exact if_pos (bI_n0.mp h4)
              exact W.zret (v := 1) hx hb hr rfl (fun t ht hW => ⟨by rw [hR1]; rfl, by rw [ht, hR1]; exact hP, hS.F ht⟩) hS.2.2 d_Hop_growWith_124
        · refine lv_iconst (v := 0) hx hb d_Hop_growWith_65 (by decide) ?_
          have h2n : 256 < P 0 + P 1 + P 2 + P j * 2 ^ d := by rw [← hcp]; exact Nat.not_le.mp (fun z => h2 ((nI_leI (a := P 0 + P 1 + P 2 + cp) (b := 256) (by omega) (by omega)).mpr z))
          have hR1 : (grw j (P j) (P 0 + P 1 + P 2) key val 4 1 (S j) (K, V, T, C, B, P, S)) = (false, (K', V', T', C', B', P', S')) := hR.symm.trans (if_pos (Or.inr h2n))
          exact W.zret (v := 0) hx hb hr rfl (fun t ht hW => ⟨by rw [hR1]; rfl, by rw [ht, hR1]; exact hP, hS.F ht⟩) hS.2.2 d_Hop_growWith_66
  refine lv_aload_n hx hb d_Hop_growWith_0 rfl (lv_at hl 0 rfl) ?_
  refine hg_parts X hK hP d_Hop_growWith_1 ?_
  refine lv_iload_n hx hb d_Hop_growWith_4 rfl (lv_at hl 1 rfl) ?_
  refine hl_P X hK hP (i := j) (hj) d_Hop_growWith_5 ?_
  refine lv_astore (lv' := [(4, .ref (q j)), (0, .ref (a 0)), (1, .int (nI j)), (2, .int key), (3, .int val)]) hx hb d_Hop_growWith_6 hl (by decide) rfl (fun ls hl => ?_)
  refine lv_aload_n hx hb d_Hop_growWith_8 rfl (lv_at hl 1 rfl) ?_
  refine hg_spare X hK hP d_Hop_growWith_9 ?_
  refine lv_astore (lv' := [(5, .ref (q 3)), (4, .ref (q j)), (0, .ref (a 0)), (1, .int (nI j)), (2, .int key), (3, .int val)]) hx hb d_Hop_growWith_12 hl (by decide) rfl (fun ls hl => ?_)
  refine lv_aload_n hx hb d_Hop_growWith_14 rfl (lv_at hl 2 rfl) ?_
  refine k_sumOfCapacities X hK hP hl.1 (Nat.le_of_ble_eq_true rfl) ⟨Nat.zero_le _, Nat.zero_le _⟩ ⟨Nat.le_of_ble_eq_true rfl, Nat.le_of_ble_eq_true rfl⟩ d_Hop_growWith_15 ?_
  refine lv_istore (lv' := [(6, .int (nI (P 0 + P 1 + P 2))), (5, .ref (q 3)), (4, .ref (q j)), (0, .ref (a 0)), (1, .int (nI j)), (2, .int key), (3, .int val)]) hx hb d_Hop_growWith_18 hl (by decide) rfl (fun ls hl => ?_)
  refine lv_aload hx hb d_Hop_growWith_20 (lv_at hl 2 rfl) ?_
  refine hg_seed X hK hP hj4 d_Hop_growWith_22 ?_
  refine lv_istore (lv' := [(7, .int (S j)), (6, .int (nI (P 0 + P 1 + P 2))), (5, .ref (q 3)), (4, .ref (q j)), (0, .ref (a 0)), (1, .int (nI j)), (2, .int key), (3, .int val)]) hx hb d_Hop_growWith_25 hl (by decide) rfl (fun ls hl => ?_)
  refine lv_iconst (v := 1) hx hb d_Hop_growWith_27 (by decide) ?_
  refine lv_istore (lv' := [(8, .int 1), (7, .int (S j)), (6, .int (nI (P 0 + P 1 + P 2))), (5, .ref (q 3)), (4, .ref (q j)), (0, .ref (a 0)), (1, .int (nI j)), (2, .int key), (3, .int val)]) hx hb d_Hop_growWith_28 hl (by decide) rfl (fun ls hl => ?_)
  exact loop 4 1 (S j) ls s.heap [] K V T C B P S (by omega) (by omega) hG rfl hP hD hS hl
section HKB
variable {p : Program} {l : Launch} {e : Env} {R : Room} {s : State} {m : MethodId} {args : Array Value} {below : List Frame} {meth : Method} {c : Code} {H : Heap} {locs : List Loc} {cells slots : Nat} {Q : State → Prop}
variable {cc : ByteArray} {pc nL : Nat} {ls : Array Slot} {rest st0 : List Value} {D : va_G} {A : Nat → Prop} {H0 : Heap} {ca a q : Nat → Nat} {K V : IT} {T : BT} {C : IT} {B P : Nat → Nat} {S : IT}
theorem k_growWith (X : CallFix p m c cc nL s args wsA R_Hop) (hK : va_K D hCl (tyH ca) s) (hP : va_P D hCl (wH ca a q K V T C B P S) H) (hD : va_D A (wH ca a q K V T C B P S)) (hS : va_S A H0 H locs) (hsz : ls.size = nL) {j : Nat} {key val : Int32} (hj : j < 3) (hc : pw (P j)) (hG : GI (P 0 + P 1 + P 2) (P j) j B P) (hrm : (rest.map fun v => v.category).sum ≤ 8) (hf : cells ≤ R.cells ∧ slots ≤ R.slots) (hR : 6 ≤ R.frames ∧ 180 ≤ R.locals) (d : decode cc pc = .ok (.invokevirtual 48, 3)) (k : ∀ (H1 : Heap) (locs1 : List Loc), va_P D hCl (gW ca a q j (grw j (P j) (P 0 + P 1 + P 2) key val 4 1 (S j) (K, V, T, C, B, P, S))) H1 → va_D A (gW ca a q j (grw j (P j) (P 0 + P 1 + P 2) key val 4 1 (S j) (K, V, T, C, B, P, S))) → va_S A H0 H1 locs1 → W p l e R s m args below meth c H1 locs1 cells slots Q (F0 m (pc + 3) ls (.int (bI (grw j (P j) (P 0 + P 1 + P 2) key val 4 1 (S j) (K, V, T, C, B, P, S)).1) :: rest))) : W p l e R s m args below meth c H locs cells slots Q (F0 m pc ls (.int val :: .int key :: .int (nI j) :: .ref (a 0) :: rest)) :=
  hw_call (va_runV (As := [.int (nI j), .int key, .int val]) (C := R_Hop) (rest := rest) X (c_Hop_growWith l D ca a q K V T C B P S j key val hj hc hG) (cwV 3 X.2.2.2.2 g_Hop_growWith rfl rfl rfl (by decide +kernel) ⟨by show 5 + 1 ≤ _; omega, by show 8 + (10 + 11) + 30 * 5 ≤ _; omega⟩) (hb_preW hP hK hD (va_recv (q0 := 0) (ci := 0) (q := (R_Hop, F_Hop, 6)) hK hP rfl rfl)) rfl rfl hsz rfl (lv_room hrm) d hf) hS (hA_sub hD) (fun H1 locs1 h1 _ h2 => k H1 locs1 h1 (gW_D hj hD) h2)
end HKB
