/-! GROUP G6: the beginning of a run. -/
theorem bg2_s {A o : Nat → Int} {wc d v : Int} {k : Nat} (hk : k < 8) (hd : d = if (k : Int) = wc then 0 else A (10 + k)) (hv : v = if A 34 / 2 ^ 6 % 2 = 1 ∧ 4 < A (18 + k) then 4 else A (18 + k)) : (fun j => if j = 8 + k then v else if j = 0 + k then d else bg2 A o wc 42 k j) = bg2 A o wc 42 (k + 1) := by
  funext j
  unfold bg2
  by_cases h1 : j = 8 + k
  · rw [if_pos h1, if_neg (by omega), if_pos (by omega), hv, show j - 8 = k by omega]
  · rw [if_neg h1]
    by_cases h2 : j = 0 + k
    · rw [if_pos h2, if_pos (by omega), hd, show j = k by omega]
    · rw [if_neg h2]
      by_cases h3 : j < k
      · rw [if_pos h3, if_pos (show j < k + 1 by omega)]
      · rw [if_neg h3, if_neg (show ¬ j < k + 1 by omega)]
        by_cases h4 : 8 ≤ j ∧ j < 8 + k
        · rw [if_pos h4, if_pos (show 8 ≤ j ∧ j < 8 + (k + 1) by omega)]
        · rw [if_neg h4, if_neg (show ¬ (8 ≤ j ∧ j < 8 + (k + 1)) by omega)]
theorem bg2_0 {A o : Nat → Int} {wc : Int} : (fun j => if j < 42 then (fun _ : Nat => (0 : Int)) j else o j) = bg2 A o wc 42 0 := by
  funext j
  unfold bg2
  rw [if_neg (Nat.not_lt_zero _), if_neg (show ¬ (8 ≤ j ∧ j < 8 + 0) by omega)]

theorem c_X11_begins {d : Nat} {H : ZH} (ok : okZ H) {sd : Int} (sd1 : -2147483648 ≤ sd) (sd2 : sd ≤ 2147483647) (ws : WFS (H.1 2)) : EvC zX (d + 2) mX11_begins [.ref 0, .int (zN (sd))] (eh H) (zPv (fun (H1 : ZH) => H1 = wA H 6 (bgn (H.1 2) (H.1 6) (H.1 0 22) sd))) := by
  show _ ∧ Ev zX mX11_begins (EvC zX (d + 1)) (zPv (fun (H1 : ZH) => H1 = wA H 6 (bgn (H.1 2) (H.1 6) (H.1 0 22) sd))) 0 [(0, .ref 0), (1, .int (zN (sd)))] [] (eh H)
  refine ⟨Nat.le_of_ble_eq_true rfl, ?_⟩
  have wsx := ws
  obtain ⟨ws0, ws1, wsC, ws34, ws35, ws36, ws37, ws38, ws39⟩ := wsx
  refine z_iconst (pc := 0) dX11_begins_0 ?_
  refine x_istore_n (pc := 1) dX11_begins_1 (Nat.le_of_ble_eq_true rfl) ?_
  show Ev _ _ _ _ _ [(2, .int (zN (0))), (0, .ref 0), (1, .int (zN (sd)))] _ _
  have lp2 : ∀ (nF : Nat) (k : Nat), okZ (wA H 6 (fun j => if j < k then (fun _ : Nat => (0 : Int)) j else H.1 6 j)) → (k ≤ 42) → 42 - k < nF → Ev zX mX11_begins (EvC zX (d + 1)) (zPv (fun (H1 : ZH) => H1 = wA H 6 (bgn (H.1 2) (H.1 6) (H.1 0 22) sd))) 2 [(0, .ref 0), (1, .int (zN (sd))), (2, .int (zN ((k : Int))))] [] (eh (wA H 6 (fun j => if j < k then (fun _ : Nat => (0 : Int)) j else H.1 6 j))) := by
    intro nF
    induction nF with
    | zero => intro k okl2 hk hm; exact absurd hm (Nat.not_lt_zero _)
    | succ nF ih2 =>
      intro k okl2 hk hm
      refine x_iload_n (pc := 2) dX11_begins_2 (List.Mem.tail _ (List.Mem.tail _ (List.Mem.head _))) ?_
      refine z_bipush (pc := 3) dX11_begins_3 bp_42 ?_
      refine z_icmp_ge (pc := 5) (tgt := 21) dX11_begins_5 (by decide) (by omega) (by omega) (by decide) (by decide) (fun hb1 => ?_) (fun hb1 => ?_)
      · skip
        refine z_iconst (pc := 21) dX11_begins_21 ?_
        refine x_istore_n (pc := 22) dX11_begins_22 (Nat.le_of_ble_eq_true rfl) ?_
        show Ev _ _ _ _ _ [(2, .int (zN (0))), (0, .ref 0), (1, .int (zN (sd)))] _ _
        have lp23 : ∀ (nF : Nat) (m : Nat), okZ (wA H 6 (bg2 (H.1 2) (H.1 6) (H.1 0 22) 42 m)) → ((m : Int) ≤ H.1 2 1) → (H.1 2 1).toNat - m < nF → Ev zX mX11_begins (EvC zX (d + 1)) (zPv (fun (H1 : ZH) => H1 = wA H 6 (bgn (H.1 2) (H.1 6) (H.1 0 22) sd))) 23 [(0, .ref 0), (1, .int (zN (sd))), (2, .int (zN ((m : Int))))] [] (eh (wA H 6 (bg2 (H.1 2) (H.1 6) (H.1 0 22) 42 m))) := by
          intro nF
          induction nF with
          | zero => intro m okl23 hm8 hm; exact absurd hm (Nat.not_lt_zero _)
          | succ nF ih23 =>
            intro m okl23 hm8 hm
            refine x_iload_n (pc := 23) dX11_begins_23 (List.Mem.tail _ (List.Mem.tail _ (List.Mem.head _))) ?_
            refine x_aload_n (pc := 24) dX11_begins_24 (List.Mem.head _) ?_
            refine z_getR (pc := 25) (k := 2) (r := 2) dX11_begins_25 lf_X11_17 sh_0 rfl rf_0_2 ?_
            refine z_iconst (pc := 28) dX11_begins_28 ?_
            have rd2 := ok.1 2 1
            refine z_iald (pc := 29) (j := 1) (v := H.1 2 1) dX11_begins_29 sh_2 rfl (Nat.le_of_ble_eq_true rfl) (by decide) (by rw [wA1c (by omega)]) ?_
            refine z_icmp_ge (pc := 30) (tgt := 112) dX11_begins_30 (by decide) (by omega) (by omega) (by omega) (by omega) (fun hb3 => ?_) (fun hb3 => ?_)
            · skip
              refine x_aload_n (pc := 112) dX11_begins_112 (List.Mem.head _) ?_
              refine z_getR (pc := 113) (k := 18) (r := 6) dX11_begins_113 lf_X11_33 sh_0 rfl rf_0_18 ?_
              refine z_bipush (pc := 116) dX11_begins_116 bp_39 ?_
              refine z_iconst (pc := 118) dX11_begins_118 ?_
              refine z_iast (pc := 119) (j := 39) (v := (-1)) dX11_begins_119 sh_6 rfl (Nat.le_of_ble_eq_true rfl) (by decide) ?_
              have ok4 := okI okl23 6 39 (v := (-1)) (by decide) (by decide)
              refine x_aload_n (pc := 120) dX11_begins_120 (List.Mem.head _) ?_
              refine z_getR (pc := 121) (k := 18) (r := 6) dX11_begins_121 lf_X11_33 sh_0 rfl rf_0_18 ?_
              refine z_bipush (pc := 124) dX11_begins_124 bp_40 ?_
              refine x_iload_n (pc := 126) dX11_begins_126 (List.Mem.tail _ (List.Mem.head _)) ?_
              refine z_iast (pc := 127) (j := 40) (v := sd) dX11_begins_127 sh_6 rfl (Nat.le_of_ble_eq_true rfl) (by decide) ?_
              have ok5 := okI ok4 6 40 (v := sd) (by omega) (by omega)
              refine z_vreturn (pc := 128) dX11_begins_128 rfl ok5 ?_
              rw [wI_wA, wI_wA]
              refine congrArg (wA H 6) ?_
              funext j
              unfold bgn
              rw [show m = (H.1 2 1).toNat by omega]
            · skip
              have wc := wsC m (by omega)
              refine x_aload_n (pc := 33) dX11_begins_33 (List.Mem.head _) ?_
              refine z_getR (pc := 34) (k := 18) (r := 6) dX11_begins_34 lf_X11_33 sh_0 rfl rf_0_18 ?_
              refine z_iconst (pc := 37) dX11_begins_37 ?_
              refine x_iload_n (pc := 38) dX11_begins_38 (List.Mem.tail _ (List.Mem.tail _ (List.Mem.head _))) ?_
              refine z_iadd (pc := 39) dX11_begins_39 ?_
              refine x_iload_n (pc := 40) dX11_begins_40 (List.Mem.tail _ (List.Mem.tail _ (List.Mem.head _))) ?_
              refine x_aload_n (pc := 41) dX11_begins_41 (List.Mem.head _) ?_
              have rd6 := ok.1 0 22
              refine z_getI (pc := 42) (k := 22) (v := H.1 0 22) dX11_begins_42 lf_X11_45 sh_0 rfl (by rw [wA1c (by omega)]) ?_
              refine z_icmp_ne (pc := 45) (tgt := 52) dX11_begins_45 (by decide) (by omega) (by omega) (by omega) (by omega) (fun hb7 => ?_) (fun hb7 => ?_)
              · skip
                refine x_aload_n (pc := 52) dX11_begins_52 (List.Mem.head _) ?_
                refine z_getR (pc := 53) (k := 2) (r := 2) dX11_begins_53 lf_X11_17 sh_0 rfl rf_0_2 ?_
                refine z_bipush (pc := 56) dX11_begins_56 bp_10 ?_
                refine x_iload_n (pc := 58) dX11_begins_58 (List.Mem.tail _ (List.Mem.tail _ (List.Mem.head _))) ?_
                refine z_iadd (pc := 59) dX11_begins_59 ?_
                have rd8 := ok.1 2 (10 + m)
                refine z_iald (pc := 60) (j := 10 + m) (v := H.1 2 (10 + m)) dX11_begins_60 sh_2 (by omega) (by omega) (by decide) (by rw [wA1c (by omega)]) ?_
                refine z_iast (pc := 61) (j := 0 + m) (v := (H.1 2 (10 + m))) dX11_begins_61 sh_6 (by omega) (by omega) (by decide) ?_
                have ok9 := okI okl23 6 (0 + m) (v := (H.1 2 (10 + m))) (by omega) (by omega)
                refine x_aload_n (pc := 62) dX11_begins_62 (List.Mem.head _) ?_
                refine z_getR (pc := 63) (k := 18) (r := 6) dX11_begins_63 lf_X11_33 sh_0 rfl rf_0_18 ?_
                refine z_bipush (pc := 66) dX11_begins_66 bp_8 ?_
                refine x_iload_n (pc := 68) dX11_begins_68 (List.Mem.tail _ (List.Mem.tail _ (List.Mem.head _))) ?_
                refine z_iadd (pc := 69) dX11_begins_69 ?_
                refine x_aload_n (pc := 70) dX11_begins_70 (List.Mem.head _) ?_
                refine z_bipush (pc := 71) dX11_begins_71 bp_6 ?_
                refine z_callVbp (pc := 73) (i := mX11_hasTrait) (S := [.int (zN ((8 + (m : Int)))), .ref 6]) [.int (zN (6))] dX11_begins_73 ml_X11_225 ok_X11_hasTrait rfl sh_0 rfl (Or.inr rfl) (Nat.le_of_ble_eq_true rfl) (c_X11_hasTrait (d := d) (k := 6) (hk := (by omega)) (ok := ok9) (ws := ws)) (fun hc12 ok11 => ?_) (fun hc12 ok11 => ?_)
                · skip
                  have hT6 : H.1 2 34 / 2 ^ 6 % 2 = 1 := hc12
                  refine z_if_eq (pc := 76) (tgt := 96) dX11_begins_76 (by decide) (by decide) (by decide) (fun h => absurd h (by decide)) (fun _ => ?_)
                  refine x_aload_n (pc := 79) dX11_begins_79 (List.Mem.head _) ?_
                  refine z_getR (pc := 80) (k := 2) (r := 2) dX11_begins_80 lf_X11_17 sh_0 rfl rf_0_2 ?_
                  refine z_bipush (pc := 83) dX11_begins_83 bp_18 ?_
                  refine x_iload_n (pc := 85) dX11_begins_85 (List.Mem.tail _ (List.Mem.tail _ (List.Mem.head _))) ?_
                  refine z_iadd (pc := 86) dX11_begins_86 ?_
                  have rd14 := ok.1 2 (18 + m)
                  refine z_iald (pc := 87) (j := 18 + m) (v := H.1 2 (18 + m)) dX11_begins_87 sh_2 (by omega) (by omega) (by decide) (by rw [wI1c (by omega), wA1c (by omega)]) ?_
                  refine z_iconst (pc := 88) dX11_begins_88 ?_
                  refine z_icmp_le (pc := 89) (tgt := 96) dX11_begins_89 (by decide) (by omega) (by omega) (by decide) (by decide) (fun hb15 => ?_) (fun hb15 => ?_)
                  · skip
                    refine x_aload_n (pc := 96) dX11_begins_96 (List.Mem.head _) ?_
                    refine z_getR (pc := 97) (k := 2) (r := 2) dX11_begins_97 lf_X11_17 sh_0 rfl rf_0_2 ?_
                    refine z_bipush (pc := 100) dX11_begins_100 bp_18 ?_
                    refine x_iload_n (pc := 102) dX11_begins_102 (List.Mem.tail _ (List.Mem.tail _ (List.Mem.head _))) ?_
                    refine z_iadd (pc := 103) dX11_begins_103 ?_
                    have rd16 := ok.1 2 (18 + m)
                    refine z_iald (pc := 104) (j := 18 + m) (v := H.1 2 (18 + m)) dX11_begins_104 sh_2 (by omega) (by omega) (by decide) (by rw [wI1c (by omega), wA1c (by omega)]) ?_
                    refine z_iast (pc := 105) (j := 8 + m) (v := (H.1 2 (18 + m))) dX11_begins_105 sh_6 (by omega) (by omega) (by decide) ?_
                    have ok17 := okI ok11 6 (8 + m) (v := (H.1 2 (18 + m))) (by omega) (by omega)
                    refine z_iinc (pc := 106) dX11_begins_106 (List.Mem.tail _ (List.Mem.tail _ (List.Mem.head _))) (Nat.le_of_ble_eq_true rfl) ?_
                    show Ev _ _ _ _ _ [(2, .int (zN ((m : Int) + 1))), (0, .ref 0), (1, .int (zN (sd)))] _ _
                    refine x_goto (pc := 109) (tgt := 23) dX11_begins_109 (by decide) ?_
                    refine x_weaken (L1 := [(0, .ref 0), (1, .int (zN (sd))), (2, .int (zN ((((m + 1) : Nat) : Int))))]) (List.forall_mem_cons.mpr ⟨(List.Mem.tail _ (List.Mem.head _)), (List.forall_mem_cons.mpr ⟨(List.Mem.tail _ (List.Mem.tail _ (List.Mem.head _))), (List.forall_mem_cons.mpr ⟨(mem_ci (by omega) (List.Mem.head _)), (fun _ h => absurd h List.not_mem_nil)⟩)⟩)⟩) ?_
                    have he18 : (wI (wI (wA H 6 (bg2 (H.1 2) (H.1 6) (H.1 0 22) 42 m)) 6 (0 + m) ((H.1 2 (10 + m)))) 6 (8 + m) ((H.1 2 (18 + m)))) = (wA H 6 (bg2 (H.1 2) (H.1 6) (H.1 0 22) 42 (m + 1))) := by rw [wI_wA, wI_wA]; exact congrArg (wA H 6) (bg2_s (by omega) (by first | exact (if_pos (by omega)).symm | exact (if_neg (by omega)).symm) (by first | exact (if_pos ⟨hT6, by omega⟩).symm | exact (if_neg (fun q => hT6 q.1)).symm | exact (if_neg (by omega)).symm))
                    refine Ev_heq he18 ?_
                    have ok19 : okZ (wA H 6 (bg2 (H.1 2) (H.1 6) (H.1 0 22) 42 (m + 1))) := by rw [← he18]; exact ok17
                    exact ih23 ((m + 1)) ok19 (by first | assumption | omega) (by omega)
                  · skip
                    refine z_iconst (pc := 92) dX11_begins_92 ?_
                    refine x_goto (pc := 93) (tgt := 105) dX11_begins_93 (by decide) ?_
                    refine z_iast (pc := 105) (j := 8 + m) (v := 4) dX11_begins_105 sh_6 (by omega) (by omega) (by decide) ?_
                    have ok20 := okI ok11 6 (8 + m) (v := 4) (by decide) (by decide)
                    refine z_iinc (pc := 106) dX11_begins_106 (List.Mem.tail _ (List.Mem.tail _ (List.Mem.head _))) (Nat.le_of_ble_eq_true rfl) ?_
                    show Ev _ _ _ _ _ [(2, .int (zN ((m : Int) + 1))), (0, .ref 0), (1, .int (zN (sd)))] _ _
                    refine x_goto (pc := 109) (tgt := 23) dX11_begins_109 (by decide) ?_
                    refine x_weaken (L1 := [(0, .ref 0), (1, .int (zN (sd))), (2, .int (zN ((((m + 1) : Nat) : Int))))]) (List.forall_mem_cons.mpr ⟨(List.Mem.tail _ (List.Mem.head _)), (List.forall_mem_cons.mpr ⟨(List.Mem.tail _ (List.Mem.tail _ (List.Mem.head _))), (List.forall_mem_cons.mpr ⟨(mem_ci (by omega) (List.Mem.head _)), (fun _ h => absurd h List.not_mem_nil)⟩)⟩)⟩) ?_
                    have he21 : (wI (wI (wA H 6 (bg2 (H.1 2) (H.1 6) (H.1 0 22) 42 m)) 6 (0 + m) ((H.1 2 (10 + m)))) 6 (8 + m) (4)) = (wA H 6 (bg2 (H.1 2) (H.1 6) (H.1 0 22) 42 (m + 1))) := by rw [wI_wA, wI_wA]; exact congrArg (wA H 6) (bg2_s (by omega) (by first | exact (if_pos (by omega)).symm | exact (if_neg (by omega)).symm) (by first | exact (if_pos ⟨hT6, by omega⟩).symm | exact (if_neg (fun q => hT6 q.1)).symm | exact (if_neg (by omega)).symm))
                    refine Ev_heq he21 ?_
                    have ok22 : okZ (wA H 6 (bg2 (H.1 2) (H.1 6) (H.1 0 22) 42 (m + 1))) := by rw [← he21]; exact ok20
                    exact ih23 ((m + 1)) ok22 (by first | assumption | omega) (by omega)
                · skip
                  have hT6 : ¬ H.1 2 34 / 2 ^ 6 % 2 = 1 := hc12
                  refine z_if_eq (pc := 76) (tgt := 96) dX11_begins_76 (by decide) (by decide) (by decide) (fun _ => ?_) (fun h => absurd h (by decide))
                  refine x_aload_n (pc := 96) dX11_begins_96 (List.Mem.head _) ?_
                  refine z_getR (pc := 97) (k := 2) (r := 2) dX11_begins_97 lf_X11_17 sh_0 rfl rf_0_2 ?_
                  refine z_bipush (pc := 100) dX11_begins_100 bp_18 ?_
                  refine x_iload_n (pc := 102) dX11_begins_102 (List.Mem.tail _ (List.Mem.tail _ (List.Mem.head _))) ?_
                  refine z_iadd (pc := 103) dX11_begins_103 ?_
                  have rd24 := ok.1 2 (18 + m)
                  refine z_iald (pc := 104) (j := 18 + m) (v := H.1 2 (18 + m)) dX11_begins_104 sh_2 (by omega) (by omega) (by decide) (by rw [wI1c (by omega), wA1c (by omega)]) ?_
                  refine z_iast (pc := 105) (j := 8 + m) (v := (H.1 2 (18 + m))) dX11_begins_105 sh_6 (by omega) (by omega) (by decide) ?_
                  have ok25 := okI ok11 6 (8 + m) (v := (H.1 2 (18 + m))) (by omega) (by omega)
                  refine z_iinc (pc := 106) dX11_begins_106 (List.Mem.tail _ (List.Mem.tail _ (List.Mem.head _))) (Nat.le_of_ble_eq_true rfl) ?_
                  show Ev _ _ _ _ _ [(2, .int (zN ((m : Int) + 1))), (0, .ref 0), (1, .int (zN (sd)))] _ _
                  refine x_goto (pc := 109) (tgt := 23) dX11_begins_109 (by decide) ?_
                  refine x_weaken (L1 := [(0, .ref 0), (1, .int (zN (sd))), (2, .int (zN ((((m + 1) : Nat) : Int))))]) (List.forall_mem_cons.mpr ⟨(List.Mem.tail _ (List.Mem.head _)), (List.forall_mem_cons.mpr ⟨(List.Mem.tail _ (List.Mem.tail _ (List.Mem.head _))), (List.forall_mem_cons.mpr ⟨(mem_ci (by omega) (List.Mem.head _)), (fun _ h => absurd h List.not_mem_nil)⟩)⟩)⟩) ?_
                  have he26 : (wI (wI (wA H 6 (bg2 (H.1 2) (H.1 6) (H.1 0 22) 42 m)) 6 (0 + m) ((H.1 2 (10 + m)))) 6 (8 + m) ((H.1 2 (18 + m)))) = (wA H 6 (bg2 (H.1 2) (H.1 6) (H.1 0 22) 42 (m + 1))) := by rw [wI_wA, wI_wA]; exact congrArg (wA H 6) (bg2_s (by omega) (by first | exact (if_pos (by omega)).symm | exact (if_neg (by omega)).symm) (by first | exact (if_pos ⟨hT6, by omega⟩).symm | exact (if_neg (fun q => hT6 q.1)).symm | exact (if_neg (by omega)).symm))
                  refine Ev_heq he26 ?_
                  have ok27 : okZ (wA H 6 (bg2 (H.1 2) (H.1 6) (H.1 0 22) 42 (m + 1))) := by rw [← he26]; exact ok25
                  exact ih23 ((m + 1)) ok27 (by first | assumption | omega) (by omega)
              · skip
                refine z_iconst (pc := 48) dX11_begins_48 ?_
                refine x_goto (pc := 49) (tgt := 61) dX11_begins_49 (by decide) ?_
                refine z_iast (pc := 61) (j := 0 + m) (v := 0) dX11_begins_61 sh_6 (by omega) (by omega) (by decide) ?_
                have ok28 := okI okl23 6 (0 + m) (v := 0) (by decide) (by decide)
                refine x_aload_n (pc := 62) dX11_begins_62 (List.Mem.head _) ?_
                refine z_getR (pc := 63) (k := 18) (r := 6) dX11_begins_63 lf_X11_33 sh_0 rfl rf_0_18 ?_
                refine z_bipush (pc := 66) dX11_begins_66 bp_8 ?_
                refine x_iload_n (pc := 68) dX11_begins_68 (List.Mem.tail _ (List.Mem.tail _ (List.Mem.head _))) ?_
                refine z_iadd (pc := 69) dX11_begins_69 ?_
                refine x_aload_n (pc := 70) dX11_begins_70 (List.Mem.head _) ?_
                refine z_bipush (pc := 71) dX11_begins_71 bp_6 ?_
                refine z_callVbp (pc := 73) (i := mX11_hasTrait) (S := [.int (zN ((8 + (m : Int)))), .ref 6]) [.int (zN (6))] dX11_begins_73 ml_X11_225 ok_X11_hasTrait rfl sh_0 rfl (Or.inr rfl) (Nat.le_of_ble_eq_true rfl) (c_X11_hasTrait (d := d) (k := 6) (hk := (by omega)) (ok := ok28) (ws := ws)) (fun hc31 ok30 => ?_) (fun hc31 ok30 => ?_)
                · skip
                  have hT6 : H.1 2 34 / 2 ^ 6 % 2 = 1 := hc31
                  refine z_if_eq (pc := 76) (tgt := 96) dX11_begins_76 (by decide) (by decide) (by decide) (fun h => absurd h (by decide)) (fun _ => ?_)
                  refine x_aload_n (pc := 79) dX11_begins_79 (List.Mem.head _) ?_
                  refine z_getR (pc := 80) (k := 2) (r := 2) dX11_begins_80 lf_X11_17 sh_0 rfl rf_0_2 ?_
                  refine z_bipush (pc := 83) dX11_begins_83 bp_18 ?_
                  refine x_iload_n (pc := 85) dX11_begins_85 (List.Mem.tail _ (List.Mem.tail _ (List.Mem.head _))) ?_
                  refine z_iadd (pc := 86) dX11_begins_86 ?_
                  have rd33 := ok.1 2 (18 + m)
                  refine z_iald (pc := 87) (j := 18 + m) (v := H.1 2 (18 + m)) dX11_begins_87 sh_2 (by omega) (by omega) (by decide) (by rw [wI1c (by omega), wA1c (by omega)]) ?_
                  refine z_iconst (pc := 88) dX11_begins_88 ?_
                  refine z_icmp_le (pc := 89) (tgt := 96) dX11_begins_89 (by decide) (by omega) (by omega) (by decide) (by decide) (fun hb34 => ?_) (fun hb34 => ?_)
                  · skip
                    refine x_aload_n (pc := 96) dX11_begins_96 (List.Mem.head _) ?_
                    refine z_getR (pc := 97) (k := 2) (r := 2) dX11_begins_97 lf_X11_17 sh_0 rfl rf_0_2 ?_
                    refine z_bipush (pc := 100) dX11_begins_100 bp_18 ?_
                    refine x_iload_n (pc := 102) dX11_begins_102 (List.Mem.tail _ (List.Mem.tail _ (List.Mem.head _))) ?_
                    refine z_iadd (pc := 103) dX11_begins_103 ?_
                    have rd35 := ok.1 2 (18 + m)
                    refine z_iald (pc := 104) (j := 18 + m) (v := H.1 2 (18 + m)) dX11_begins_104 sh_2 (by omega) (by omega) (by decide) (by rw [wI1c (by omega), wA1c (by omega)]) ?_
                    refine z_iast (pc := 105) (j := 8 + m) (v := (H.1 2 (18 + m))) dX11_begins_105 sh_6 (by omega) (by omega) (by decide) ?_
                    have ok36 := okI ok30 6 (8 + m) (v := (H.1 2 (18 + m))) (by omega) (by omega)
                    refine z_iinc (pc := 106) dX11_begins_106 (List.Mem.tail _ (List.Mem.tail _ (List.Mem.head _))) (Nat.le_of_ble_eq_true rfl) ?_
                    show Ev _ _ _ _ _ [(2, .int (zN ((m : Int) + 1))), (0, .ref 0), (1, .int (zN (sd)))] _ _
                    refine x_goto (pc := 109) (tgt := 23) dX11_begins_109 (by decide) ?_
                    refine x_weaken (L1 := [(0, .ref 0), (1, .int (zN (sd))), (2, .int (zN ((((m + 1) : Nat) : Int))))]) (List.forall_mem_cons.mpr ⟨(List.Mem.tail _ (List.Mem.head _)), (List.forall_mem_cons.mpr ⟨(List.Mem.tail _ (List.Mem.tail _ (List.Mem.head _))), (List.forall_mem_cons.mpr ⟨(mem_ci (by omega) (List.Mem.head _)), (fun _ h => absurd h List.not_mem_nil)⟩)⟩)⟩) ?_
                    have he37 : (wI (wI (wA H 6 (bg2 (H.1 2) (H.1 6) (H.1 0 22) 42 m)) 6 (0 + m) (0)) 6 (8 + m) ((H.1 2 (18 + m)))) = (wA H 6 (bg2 (H.1 2) (H.1 6) (H.1 0 22) 42 (m + 1))) := by rw [wI_wA, wI_wA]; exact congrArg (wA H 6) (bg2_s (by omega) (by first | exact (if_pos (by omega)).symm | exact (if_neg (by omega)).symm) (by first | exact (if_pos ⟨hT6, by omega⟩).symm | exact (if_neg (fun q => hT6 q.1)).symm | exact (if_neg (by omega)).symm))
                    refine Ev_heq he37 ?_
                    have ok38 : okZ (wA H 6 (bg2 (H.1 2) (H.1 6) (H.1 0 22) 42 (m + 1))) := by rw [← he37]; exact ok36
                    exact ih23 ((m + 1)) ok38 (by first | assumption | omega) (by omega)
                  · skip
                    refine z_iconst (pc := 92) dX11_begins_92 ?_
                    refine x_goto (pc := 93) (tgt := 105) dX11_begins_93 (by decide) ?_
                    refine z_iast (pc := 105) (j := 8 + m) (v := 4) dX11_begins_105 sh_6 (by omega) (by omega) (by decide) ?_
                    have ok39 := okI ok30 6 (8 + m) (v := 4) (by decide) (by decide)
                    refine z_iinc (pc := 106) dX11_begins_106 (List.Mem.tail _ (List.Mem.tail _ (List.Mem.head _))) (Nat.le_of_ble_eq_true rfl) ?_
                    show Ev _ _ _ _ _ [(2, .int (zN ((m : Int) + 1))), (0, .ref 0), (1, .int (zN (sd)))] _ _
                    refine x_goto (pc := 109) (tgt := 23) dX11_begins_109 (by decide) ?_
                    refine x_weaken (L1 := [(0, .ref 0), (1, .int (zN (sd))), (2, .int (zN ((((m + 1) : Nat) : Int))))]) (List.forall_mem_cons.mpr ⟨(List.Mem.tail _ (List.Mem.head _)), (List.forall_mem_cons.mpr ⟨(List.Mem.tail _ (List.Mem.tail _ (List.Mem.head _))), (List.forall_mem_cons.mpr ⟨(mem_ci (by omega) (List.Mem.head _)), (fun _ h => absurd h List.not_mem_nil)⟩)⟩)⟩) ?_
                    have he40 : (wI (wI (wA H 6 (bg2 (H.1 2) (H.1 6) (H.1 0 22) 42 m)) 6 (0 + m) (0)) 6 (8 + m) (4)) = (wA H 6 (bg2 (H.1 2) (H.1 6) (H.1 0 22) 42 (m + 1))) := by rw [wI_wA, wI_wA]; exact congrArg (wA H 6) (bg2_s (by omega) (by first | exact (if_pos (by omega)).symm | exact (if_neg (by omega)).symm) (by first | exact (if_pos ⟨hT6, by omega⟩).symm | exact (if_neg (fun q => hT6 q.1)).symm | exact (if_neg (by omega)).symm))
                    refine Ev_heq he40 ?_
                    have ok41 : okZ (wA H 6 (bg2 (H.1 2) (H.1 6) (H.1 0 22) 42 (m + 1))) := by rw [← he40]; exact ok39
                    exact ih23 ((m + 1)) ok41 (by first | assumption | omega) (by omega)
                · skip
                  have hT6 : ¬ H.1 2 34 / 2 ^ 6 % 2 = 1 := hc31
                  refine z_if_eq (pc := 76) (tgt := 96) dX11_begins_76 (by decide) (by decide) (by decide) (fun _ => ?_) (fun h => absurd h (by decide))
                  refine x_aload_n (pc := 96) dX11_begins_96 (List.Mem.head _) ?_
                  refine z_getR (pc := 97) (k := 2) (r := 2) dX11_begins_97 lf_X11_17 sh_0 rfl rf_0_2 ?_
                  refine z_bipush (pc := 100) dX11_begins_100 bp_18 ?_
                  refine x_iload_n (pc := 102) dX11_begins_102 (List.Mem.tail _ (List.Mem.tail _ (List.Mem.head _))) ?_
                  refine z_iadd (pc := 103) dX11_begins_103 ?_
                  have rd43 := ok.1 2 (18 + m)
                  refine z_iald (pc := 104) (j := 18 + m) (v := H.1 2 (18 + m)) dX11_begins_104 sh_2 (by omega) (by omega) (by decide) (by rw [wI1c (by omega), wA1c (by omega)]) ?_
                  refine z_iast (pc := 105) (j := 8 + m) (v := (H.1 2 (18 + m))) dX11_begins_105 sh_6 (by omega) (by omega) (by decide) ?_
                  have ok44 := okI ok30 6 (8 + m) (v := (H.1 2 (18 + m))) (by omega) (by omega)
                  refine z_iinc (pc := 106) dX11_begins_106 (List.Mem.tail _ (List.Mem.tail _ (List.Mem.head _))) (Nat.le_of_ble_eq_true rfl) ?_
                  show Ev _ _ _ _ _ [(2, .int (zN ((m : Int) + 1))), (0, .ref 0), (1, .int (zN (sd)))] _ _
                  refine x_goto (pc := 109) (tgt := 23) dX11_begins_109 (by decide) ?_
                  refine x_weaken (L1 := [(0, .ref 0), (1, .int (zN (sd))), (2, .int (zN ((((m + 1) : Nat) : Int))))]) (List.forall_mem_cons.mpr ⟨(List.Mem.tail _ (List.Mem.head _)), (List.forall_mem_cons.mpr ⟨(List.Mem.tail _ (List.Mem.tail _ (List.Mem.head _))), (List.forall_mem_cons.mpr ⟨(mem_ci (by omega) (List.Mem.head _)), (fun _ h => absurd h List.not_mem_nil)⟩)⟩)⟩) ?_
                  have he45 : (wI (wI (wA H 6 (bg2 (H.1 2) (H.1 6) (H.1 0 22) 42 m)) 6 (0 + m) (0)) 6 (8 + m) ((H.1 2 (18 + m)))) = (wA H 6 (bg2 (H.1 2) (H.1 6) (H.1 0 22) 42 (m + 1))) := by rw [wI_wA, wI_wA]; exact congrArg (wA H 6) (bg2_s (by omega) (by first | exact (if_pos (by omega)).symm | exact (if_neg (by omega)).symm) (by first | exact (if_pos ⟨hT6, by omega⟩).symm | exact (if_neg (fun q => hT6 q.1)).symm | exact (if_neg (by omega)).symm))
                  refine Ev_heq he45 ?_
                  have ok46 : okZ (wA H 6 (bg2 (H.1 2) (H.1 6) (H.1 0 22) 42 (m + 1))) := by rw [← he45]; exact ok44
                  exact ih23 ((m + 1)) ok46 (by first | assumption | omega) (by omega)
        refine x_weaken (L1 := [(0, .ref 0), (1, .int (zN (sd))), (2, .int (zN (((0 : Nat) : Int))))]) (List.forall_mem_cons.mpr ⟨(List.Mem.tail _ (List.Mem.head _)), (List.forall_mem_cons.mpr ⟨(List.Mem.tail _ (List.Mem.tail _ (List.Mem.head _))), (List.forall_mem_cons.mpr ⟨(mem_ci (by omega) (List.Mem.head _)), (fun _ h => absurd h List.not_mem_nil)⟩)⟩)⟩) ?_
        have he47 : (wA H 6 (fun j => if j < k then (fun _ : Nat => (0 : Int)) j else H.1 6 j)) = (wA H 6 (bg2 (H.1 2) (H.1 6) (H.1 0 22) 42 0)) := by rw [show k = 42 by omega]; exact congrArg (wA H 6) bg2_0
        refine Ev_heq he47 ?_
        have ok48 : okZ (wA H 6 (bg2 (H.1 2) (H.1 6) (H.1 0 22) 42 0)) := by rw [← he47]; exact okl2
        exact lp23 ((H.1 2 1).toNat - 0 + 1) (0) ok48 (by first | assumption | omega) (Nat.lt_succ_self _)
      · skip
        refine x_aload_n (pc := 8) dX11_begins_8 (List.Mem.head _) ?_
        refine z_getR (pc := 9) (k := 18) (r := 6) dX11_begins_9 lf_X11_33 sh_0 rfl rf_0_18 ?_
        refine x_iload_n (pc := 12) dX11_begins_12 (List.Mem.tail _ (List.Mem.tail _ (List.Mem.head _))) ?_
        refine z_iconst (pc := 13) dX11_begins_13 ?_
        refine z_iast (pc := 14) (j := k) (v := 0) dX11_begins_14 sh_6 rfl (by omega) (by decide) ?_
        have ok49 := okI okl2 6 k (v := 0) (by decide) (by decide)
        refine z_iinc (pc := 15) dX11_begins_15 (List.Mem.tail _ (List.Mem.tail _ (List.Mem.head _))) (Nat.le_of_ble_eq_true rfl) ?_
        show Ev _ _ _ _ _ [(2, .int (zN ((k : Int) + 1))), (0, .ref 0), (1, .int (zN (sd)))] _ _
        refine x_goto (pc := 18) (tgt := 2) dX11_begins_18 (by decide) ?_
        refine x_weaken (L1 := [(0, .ref 0), (1, .int (zN (sd))), (2, .int (zN ((((k + 1) : Nat) : Int))))]) (List.forall_mem_cons.mpr ⟨(List.Mem.tail _ (List.Mem.head _)), (List.forall_mem_cons.mpr ⟨(List.Mem.tail _ (List.Mem.tail _ (List.Mem.head _))), (List.forall_mem_cons.mpr ⟨(mem_ci (by omega) (List.Mem.head _)), (fun _ h => absurd h List.not_mem_nil)⟩)⟩)⟩) ?_
        have he50 : (wI (wA H 6 (fun j => if j < k then (fun _ : Nat => (0 : Int)) j else H.1 6 j)) 6 k (0)) = (wA H 6 (fun j => if j < (k + 1) then (fun _ : Nat => (0 : Int)) j else H.1 6 j)) := wA_step H 6 (fun _ : Nat => (0 : Int)) k _ rfl
        refine Ev_heq he50 ?_
        have ok51 : okZ (wA H 6 (fun j => if j < (k + 1) then (fun _ : Nat => (0 : Int)) j else H.1 6 j)) := by rw [← he50]; exact ok49
        exact ih2 ((k + 1)) ok51 (by omega) (by omega)
  refine x_weaken (L1 := [(0, .ref 0), (1, .int (zN (sd))), (2, .int (zN (((0 : Nat) : Int))))]) (List.forall_mem_cons.mpr ⟨(List.Mem.tail _ (List.Mem.head _)), (List.forall_mem_cons.mpr ⟨(List.Mem.tail _ (List.Mem.tail _ (List.Mem.head _))), (List.forall_mem_cons.mpr ⟨(mem_ci (by omega) (List.Mem.head _)), (fun _ h => absurd h List.not_mem_nil)⟩)⟩)⟩) ?_
  have he52 : H = (wA H 6 (fun j => if j < 0 then (fun _ : Nat => (0 : Int)) j else H.1 6 j)) := wA_zero H 6 (fun _ : Nat => (0 : Int))
  refine Ev_heq he52 ?_
  have ok53 : okZ (wA H 6 (fun j => if j < 0 then (fun _ : Nat => (0 : Int)) j else H.1 6 j)) := by rw [← he52]; exact ok
  exact lp2 (42 - 0 + 1) (0) ok53 (by omega) (Nat.lt_succ_self _)
