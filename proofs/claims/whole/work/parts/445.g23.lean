/-! GROUP G23: back, wise and the rest. -/
theorem lea_fix {h : Nat → Bool} {l n : Nat} (e : lea h l ≠ -1) (hn : l ≤ n) : lea h n = lea h l := by
  induction n with
  | zero => rw [show l = 0 by omega]
  | succ n ih =>
    by_cases q : l = n + 1
    · rw [q]
    · have i := ih (by omega)
      show (if lea h n = -1 then (if h n = true then (n : Int) else -1) else lea h n) = lea h l
      rw [i, if_neg e]

theorem c_X11_back {d : Nat} {H : ZH} (ok : okZ H) {most : Int} (most1 : -2147483648 ≤ most) (most2 : most ≤ 2147483647) (cm : cntOK H 1) (th : H.1 0 0 = 0) (ws : WFS (H.1 2)) (wl : WFL (H.1 2)) (h42 : ∀ j, 42 ≤ j → H.1 6 j = 0) : EvC zX (d + 16) mX11_back [.ref 0, .int (zN (most))] (eh H) (zPi (fun (r : Int) (H1 : ZH) => ((0 ≤ most ∧ most ≤ 1000) ∧ r = lea (bkB (H.1 2) (H.1 0 21) (H.1 0 22) most) 31 ∧ WoF H H1) ∨ (¬ (0 ≤ most ∧ most ≤ 1000) ∧ r = -3 ∧ H1 = bumpM 1 H))) := by
  show _ ∧ Ev zX mX11_back (EvC zX (d + 15)) (zPi (fun (r : Int) (H1 : ZH) => ((0 ≤ most ∧ most ≤ 1000) ∧ r = lea (bkB (H.1 2) (H.1 0 21) (H.1 0 22) most) 31 ∧ WoF H H1) ∨ (¬ (0 ≤ most ∧ most ≤ 1000) ∧ r = -3 ∧ H1 = bumpM 1 H))) 0 [(0, .ref 0), (1, .int (zN (most)))] [] (eh H)
  refine ⟨Nat.le_of_ble_eq_true rfl, ?_⟩
  have wsx := ws
  obtain ⟨ws0, ws1, wsC, ws34, ws35, ws36, ws37, ws38, ws39⟩ := wsx
  have pb := p100_bd (n := (H.1 2 1).toNat) (by omega)
  refine x_aload_n (pc := 0) dX11_back_0 (List.Mem.head _) ?_
  refine z_iconst (pc := 1) dX11_back_1 ?_
  refine z_putI (pc := 2) (k := 0) dX11_back_2 lp_X11_1 sh_0 rfl ?_
  have ok1 := okI ok 0 0 (v := 0) (by decide) (by decide)
  rw [wI_same th]
  refine x_iload_n (pc := 5) dX11_back_5 (List.Mem.tail _ (List.Mem.head _)) ?_
  refine z_i2l (pc := 6) dX11_back_6 (by omega) (by omega) ?_
  refine z_lconst (pc := 7) 0 dX11_back_7 rfl ?_
  refine z_ldc2_w (pc := 8) 1000 dX11_back_8 cl_X11_306 (by decide) ?_
  refine z_callSbp (pc := 11) (i := mX11_within) (S := []) [.long (zL (most)), .long (zL (0)), .long (zL (1000))] dX11_back_11 ml_X11_152 ok_X11_within rfl (Or.inr rfl) (Nat.le_of_ble_eq_true rfl) (c_X11_within (d := d + 14) (v := most) (lo := 0) (hi := 1000) (v1 := (by omega)) (v2 := (by omega)) (lo1 := (by omega)) (lo2 := (by omega)) (hi1 := (by omega)) (hi2 := (by omega)) (ok := ok)) (fun hc4 ok3 => ?_) (fun hc4 ok3 => ?_)
  · skip
    refine z_if_ne (pc := 14) (tgt := 24) dX11_back_14 (by decide) (by decide) (by decide) (fun _ => ?_) (fun h => absurd h (by decide))
    refine x_aload_n (pc := 24) dX11_back_24 (List.Mem.head _) ?_
    refine z_getR (pc := 25) (k := 2) (r := 2) dX11_back_25 lf_X11_17 sh_0 rfl rf_0_2 ?_
    refine z_bipush (pc := 28) dX11_back_28 bp_35 ?_
    have rd6 := ok3.1 2 35
    refine z_iald (pc := 30) (j := 35) (v := H.1 2 35) dX11_back_30 sh_2 rfl (Nat.le_of_ble_eq_true rfl) (by decide) rfl ?_
    refine x_istore_n (pc := 31) dX11_back_31 (Nat.le_of_ble_eq_true rfl) ?_
    show Ev _ _ _ _ _ [(2, .int (zN ((H.1 2 35)))), (0, .ref 0), (1, .int (zN (most)))] _ _
    refine z_iconst (pc := 32) dX11_back_32 ?_
    refine x_istore_n (pc := 33) dX11_back_33 (Nat.le_of_ble_eq_true rfl) ?_
    show Ev _ _ _ _ _ [(3, .int (zN ((-1)))), (2, .int (zN ((H.1 2 35)))), (0, .ref 0), (1, .int (zN (most)))] _ _
    refine z_iconst (pc := 34) dX11_back_34 ?_
    refine x_istore (pc := 35) dX11_back_35 (Nat.le_of_ble_eq_true rfl) ?_
    show Ev _ _ _ _ _ [(4, .int (zN (0))), (3, .int (zN ((-1)))), (2, .int (zN ((H.1 2 35)))), (0, .ref 0), (1, .int (zN (most)))] _ _
    have lp37 : ∀ (nF : Nat) (l : Nat) (Hm : ZH), okZ Hm → (l ≤ 31) → ((∀ cc k, ¬ (cc = 2 ∧ k = 35) → ¬ (cc = 6 ∨ cc = 7 ∨ cc = 8 ∨ cc = 9 ∨ cc = 10 ∨ (cc = 0 ∧ (k = 26 ∨ k = 23))) → Hm.1 cc k = H.1 cc k) ∧ (∀ j, 42 ≤ j → Hm.1 6 j = 0) ∧ ∀ cc k, ¬ (cc = 11 ∨ cc = 12 ∨ cc = 13) → Hm.2 cc k = H.2 cc k) → 31 - l < nF → Ev zX mX11_back (EvC zX (d + 15)) (zPi (fun (r : Int) (H1 : ZH) => ((0 ≤ most ∧ most ≤ 1000) ∧ r = lea (bkB (H.1 2) (H.1 0 21) (H.1 0 22) most) 31 ∧ WoF H H1) ∨ (¬ (0 ≤ most ∧ most ≤ 1000) ∧ r = -3 ∧ H1 = bumpM 1 H))) 37 [(0, .ref 0), (1, .int (zN (most))), (2, .int (zN ((H.1 2 35)))), (3, .int (zN ((lea (bkB (H.1 2) (H.1 0 21) (H.1 0 22) most) l)))), (4, .int (zN ((l : Int))))] [] (eh Hm) := by
      intro nF
      induction nF with
      | zero => intro l Hm okl37 hl wfm hm; exact absurd hm (Nat.not_lt_zero _)
      | succ nF ih37 =>
        intro l Hm okl37 hl wfm hm
        have lb := lea_bd (bkB (H.1 2) (H.1 0 21) (H.1 0 22) most) l
        refine x_iload (pc := 37) dX11_back_37 (List.Mem.tail _ (List.Mem.tail _ (List.Mem.tail _ (List.Mem.tail _ (List.Mem.head _))))) ?_
        refine z_bipush (pc := 39) dX11_back_39 bp_30 ?_
        refine z_icmp_gt (pc := 41) (tgt := 148) dX11_back_41 (by decide) (by omega) (by omega) (by decide) (by decide) (fun hb7 => ?_) (fun hb7 => ?_)
        · skip
          refine x_aload_n (pc := 148) dX11_back_148 (List.Mem.head _) ?_
          refine z_getR (pc := 149) (k := 2) (r := 2) dX11_back_149 lf_X11_17 sh_0 rfl rf_0_2 ?_
          refine z_bipush (pc := 152) dX11_back_152 bp_35 ?_
          refine x_iload_n (pc := 154) dX11_back_154 (List.Mem.tail _ (List.Mem.tail _ (List.Mem.head _))) ?_
          refine z_iast (pc := 155) (j := 35) (v := (H.1 2 35)) dX11_back_155 sh_2 rfl (Nat.le_of_ble_eq_true rfl) (by decide) ?_
          have ok8 := okI okl37 2 35 (v := (H.1 2 35)) (by omega) (by omega)
          refine x_iload_n (pc := 156) dX11_back_156 (List.Mem.tail _ (List.Mem.tail _ (List.Mem.tail _ (List.Mem.head _)))) ?_
          refine z_ireturn (pc := 157) dX11_back_157 rfl (Or.inl rfl) ok8 (by omega) (by omega) ?_
          have wfe : WoF H (wI Hm 2 35 ((H.1 2 35))) := ⟨fun cc k h => by
              rw [wIg]
              by_cases q : cc = 2 ∧ k = 35
              · rw [if_pos q, q.1, q.2]
              · rw [if_neg q]; exact wfm.1 cc k q h
            , fun j hj => by rw [wI1c (by omega)]; exact wfm.2.1 j hj, wfm.2.2⟩
          first | exact Or.inl ⟨by omega, by rw [show 31 = l by omega], wfe⟩ | exact Or.inl ⟨by omega, (lea_fix (by omega) (by omega)).symm, wfe⟩
        · skip
          refine x_iload_n (pc := 44) dX11_back_44 (List.Mem.tail _ (List.Mem.tail _ (List.Mem.tail _ (List.Mem.head _)))) ?_
          refine z_iconst (pc := 45) dX11_back_45 ?_
          refine z_icmp_ne (pc := 46) (tgt := 148) dX11_back_46 (by decide) (by omega) (by omega) (by decide) (by decide) (fun hb9 => ?_) (fun hb9 => ?_)
          · skip
            refine x_aload_n (pc := 148) dX11_back_148 (List.Mem.head _) ?_
            refine z_getR (pc := 149) (k := 2) (r := 2) dX11_back_149 lf_X11_17 sh_0 rfl rf_0_2 ?_
            refine z_bipush (pc := 152) dX11_back_152 bp_35 ?_
            refine x_iload_n (pc := 154) dX11_back_154 (List.Mem.tail _ (List.Mem.tail _ (List.Mem.head _))) ?_
            refine z_iast (pc := 155) (j := 35) (v := (H.1 2 35)) dX11_back_155 sh_2 rfl (Nat.le_of_ble_eq_true rfl) (by decide) ?_
            have ok10 := okI okl37 2 35 (v := (H.1 2 35)) (by omega) (by omega)
            refine x_iload_n (pc := 156) dX11_back_156 (List.Mem.tail _ (List.Mem.tail _ (List.Mem.tail _ (List.Mem.head _)))) ?_
            refine z_ireturn (pc := 157) dX11_back_157 rfl (Or.inl rfl) ok10 (by omega) (by omega) ?_
            have wfe : WoF H (wI Hm 2 35 ((H.1 2 35))) := ⟨fun cc k h => by
                rw [wIg]
                by_cases q : cc = 2 ∧ k = 35
                · rw [if_pos q, q.1, q.2]
                · rw [if_neg q]; exact wfm.1 cc k q h
              , fun j hj => by rw [wI1c (by omega)]; exact wfm.2.1 j hj, wfm.2.2⟩
            first | exact Or.inl ⟨by omega, by rw [show 31 = l by omega], wfe⟩ | exact Or.inl ⟨by omega, (lea_fix (by omega) (by omega)).symm, wfe⟩
          · skip
            refine x_aload_n (pc := 49) dX11_back_49 (List.Mem.head _) ?_
            refine z_getR (pc := 50) (k := 2) (r := 2) dX11_back_50 lf_X11_17 sh_0 rfl rf_0_2 ?_
            refine z_bipush (pc := 53) dX11_back_53 bp_35 ?_
            refine x_iload (pc := 55) dX11_back_55 (List.Mem.tail _ (List.Mem.tail _ (List.Mem.tail _ (List.Mem.tail _ (List.Mem.head _))))) ?_
            refine z_iast (pc := 57) (j := 35) (v := (l : Int)) dX11_back_57 sh_2 rfl (Nat.le_of_ble_eq_true rfl) (by decide) ?_
            have ok11 := okI okl37 2 35 (v := (l : Int)) (by omega) (by omega)
            obtain ⟨Hx, hHx⟩ : ∃ Hx, Hx = (wI Hm 2 35 ((l : Int))) := ⟨_, rfl⟩
            rw [← hHx]
            have okHx : okZ Hx := by rw [hHx]; exact ok11
            have x2 : Hx.1 2 = upA (H.1 2) 35 (l : Int) := by
              rw [hHx]; funext j; rw [wIp]; unfold upA
              exact if q : j = 35 then (by rw [if_pos q, if_pos q]) else (by rw [if_neg q, if_neg q]; exact wfm.1 2 j (by omega) (by omega))
            have xo : ∀ cc j, ¬ (cc = 2 ∧ j = 35) → Hx.1 cc j = Hm.1 cc j := fun cc j h => by rw [hHx, wIg]; exact if_neg h
            have xJ : Hx.2 = Hm.2 := by rw [hHx]; rfl
            have wsx2 : WFS (upA (H.1 2) 35 (l : Int)) := WFS_up ws (by omega) ⟨by omega, by omega, by omega, by omega, by omega⟩
            have wlx2 : WFL (upA (H.1 2) 35 (l : Int)) := WFL_up wl (by omega)
            have e1x : (upA (H.1 2) 35 (l : Int)) 1 = H.1 2 1 := upA_ne (by omega)
            refine x_aload_n (pc := 58) dX11_back_58 (List.Mem.head _) ?_
            refine z_callVv (pc := 59) (i := mX11_worksOdds) (S := []) [] dX11_back_59 ml_X11_296 ok_X11_worksOdds rfl sh_0 rfl rfl (Nat.le_of_ble_eq_true rfl) (c_X11_worksOdds (d := d) (ok := okHx) (ws := (by rw [x2]; exact wsx2)) (wl := (by rw [x2]; exact wlx2)) (h42 := (fun j hj => by rw [xo 6 j (by omega)]; exact wfm.2.1 j hj))) ?_
            intro H3 ok13 hp14
            obtain ⟨wf3, wsm⟩ := hp14
            rw [x2, (xo 0 21 (by omega)).trans (wfm.1 0 21 (by omega) (by omega)), (xo 0 22 (by omega)).trans (wfm.1 0 22 (by omega) (by omega))] at wsm
            have e23 := (WoF_2 wf3).trans x2
            have wfm3 : (∀ cc k, ¬ (cc = 2 ∧ k = 35) → ¬ (cc = 6 ∨ cc = 7 ∨ cc = 8 ∨ cc = 9 ∨ cc = 10 ∨ (cc = 0 ∧ (k = 26 ∨ k = 23))) → H3.1 cc k = H.1 cc k) ∧ (∀ j, 42 ≤ j → H3.1 6 j = 0) ∧ ∀ cc k, ¬ (cc = 11 ∨ cc = 12 ∨ cc = 13) → H3.2 cc k = H.2 cc k := ⟨fun cc k h1 h2 => (wf3.1 cc k h2).trans ((xo cc k h1).trans (wfm.1 cc k h1 h2)), wf3.2.1, fun cc k h => (wf3.2.2 cc k h).trans ((congrFun (congrFun xJ cc) k).trans (wfm.2.2 cc k h))⟩
            have tb := TS_bd (wo := H.1 0 21) (wc := H.1 0 22) wsx2 (gK_ok (upA (H.1 2) 35 (l : Int)) 1)
            rw [e1x] at tb
            have hbk : (bkB (H.1 2) (H.1 0 21) (H.1 0 22) most) l = if ((100 : Int) ^ (H.1 2 1).toNat) < 1000 then decide ((TS (upA (H.1 2) 35 (l : Int)) (H.1 0 21) (H.1 0 22) (gK 1)) * 1000 ≤ most * ((100 : Int) ^ (H.1 2 1).toNat)) else decide ((TS (upA (H.1 2) 35 (l : Int)) (H.1 0 21) (H.1 0 22) (gK 1)) ≤ most * (((100 : Int) ^ (H.1 2 1).toNat) / 1000)) := rfl
            refine x_aload_n (pc := 62) dX11_back_62 (List.Mem.head _) ?_
            refine z_callVlp (pc := 63) (i := mX11_allParts) (S := []) [] dX11_back_63 ml_X11_292 ok_X11_allParts rfl sh_0 rfl rfl (Nat.le_of_ble_eq_true rfl) (c_X11_allParts (d := d + 14) (ok := ok13) (hn8 := (by rw [e23, e1x]; exact ws1))) (fun r15a r15b ok16 => ?_)
            rw [show (100 : Int) ^ (H3.1 2 1).toNat = (100 : Int) ^ (H.1 2 1).toNat by rw [e23, e1x]]
            refine x_lstore (pc := 66) dX11_back_66 (Nat.le_of_ble_eq_true rfl) ?_
            show Ev _ _ _ _ _ [(5, .long (zL (((100 : Int) ^ (H.1 2 1).toNat)))), (0, .ref 0), (1, .int (zN (most))), (2, .int (zN ((H.1 2 35)))), (3, .int (zN ((lea (bkB (H.1 2) (H.1 0 21) (H.1 0 22) most) l)))), (4, .int (zN ((l : Int))))] _ _
            refine x_lload (pc := 68) dX11_back_68 (List.Mem.head _) ?_
            refine z_ldc2_w (pc := 70) 1000 dX11_back_70 cl_X11_306 (by decide) ?_
            refine z_lcmp_ge (pc := 73) (tgt := 104) dX11_back_73 dX11_back_74 (by decide) (by omega) (by omega) (by decide) (by decide) (fun hb17 => ?_) (fun hb17 => ?_)
            · skip
              have m1k := nn2 (x := most) (y := (100 : Int) ^ (H.1 2 1).toNat / 1000) (A := 1000) (B := 10000000000000) (by omega) (by omega) (by omega) (by omega)
              refine x_aload_n (pc := 104) dX11_back_104 (List.Mem.tail _ (List.Mem.head _)) ?_
              refine z_getR (pc := 105) (k := 27) (r := 11) dX11_back_105 lf_X11_54 sh_0 rfl rf_0_27 ?_
              refine z_iconst (pc := 108) dX11_back_108 ?_
              refine z_lald (pc := 109) (j := 1) (v := (TS (upA (H.1 2) 35 (l : Int)) (H.1 0 21) (H.1 0 22) (gK 1))) dX11_back_109 sh_11 rfl (Nat.le_of_ble_eq_true rfl) (by decide) (wsm.1 1 (by omega)) ?_
              refine x_iload_n (pc := 110) dX11_back_110 (List.Mem.tail _ (List.Mem.tail _ (List.Mem.head _))) ?_
              refine z_i2l (pc := 111) dX11_back_111 (by omega) (by omega) ?_
              refine x_lload (pc := 112) dX11_back_112 (List.Mem.head _) ?_
              refine z_ldc2_w (pc := 114) 1000 dX11_back_114 cl_X11_306 (by decide) ?_
              refine z_ldivP (pc := 117) dX11_back_117 (by omega) (by omega) (by omega) (by omega) ?_
              refine z_lmul (pc := 118) dX11_back_118 ?_
              refine z_lcmp_gt (pc := 119) (tgt := 127) dX11_back_119 dX11_back_120 (by decide) (by omega) (by omega) (by omega) (by omega) (fun hb18 => ?_) (fun hb18 => ?_)
              · skip
                have hok : (bkB (H.1 2) (H.1 0 21) (H.1 0 22) most) l = false := by rw [hbk, if_neg (by omega)]; exact decide_eq_false (by omega)
                refine z_iconst (pc := 127) dX11_back_127 ?_
                refine x_istore (pc := 128) dX11_back_128 (Nat.le_of_ble_eq_true rfl) ?_
                show Ev _ _ _ _ _ [(7, .int (zN (0))), (5, .long (zL (((100 : Int) ^ (H.1 2 1).toNat)))), (0, .ref 0), (1, .int (zN (most))), (2, .int (zN ((H.1 2 35)))), (3, .int (zN ((lea (bkB (H.1 2) (H.1 0 21) (H.1 0 22) most) l)))), (4, .int (zN ((l : Int))))] _ _
                refine x_iload (pc := 130) dX11_back_130 (List.Mem.head _) ?_
                refine z_if_eq (pc := 132) (tgt := 140) dX11_back_132 (by decide) (by decide) (by decide) (fun _ => ?_) (fun h => absurd h (by decide))
                refine z_iconst (pc := 140) dX11_back_140 ?_
                refine x_istore_n (pc := 141) dX11_back_141 (Nat.le_of_ble_eq_true rfl) ?_
                show Ev _ _ _ _ _ [(3, .int (zN ((-1)))), (7, .int (zN (0))), (5, .long (zL (((100 : Int) ^ (H.1 2 1).toNat)))), (0, .ref 0), (1, .int (zN (most))), (2, .int (zN ((H.1 2 35)))), (4, .int (zN ((l : Int))))] _ _
                refine z_iinc (pc := 142) dX11_back_142 (List.Mem.tail _ (List.Mem.tail _ (List.Mem.tail _ (List.Mem.tail _ (List.Mem.tail _ (List.Mem.tail _ (List.Mem.head _))))))) (Nat.le_of_ble_eq_true rfl) ?_
                show Ev _ _ _ _ _ [(4, .int (zN ((l : Int) + 1))), (3, .int (zN ((-1)))), (7, .int (zN (0))), (5, .long (zL (((100 : Int) ^ (H.1 2 1).toNat)))), (0, .ref 0), (1, .int (zN (most))), (2, .int (zN ((H.1 2 35))))] _ _
                refine x_goto (pc := 145) (tgt := 37) dX11_back_145 (by decide) ?_
                refine x_weaken (L1 := [(0, .ref 0), (1, .int (zN (most))), (2, .int (zN ((H.1 2 35)))), (3, .int (zN ((lea (bkB (H.1 2) (H.1 0 21) (H.1 0 22) most) (l + 1))))), (4, .int (zN ((((l + 1) : Nat) : Int))))]) (List.forall_mem_cons.mpr ⟨(List.Mem.tail _ (List.Mem.tail _ (List.Mem.tail _ (List.Mem.tail _ (List.Mem.head _))))), (List.forall_mem_cons.mpr ⟨(List.Mem.tail _ (List.Mem.tail _ (List.Mem.tail _ (List.Mem.tail _ (List.Mem.tail _ (List.Mem.head _)))))), (List.forall_mem_cons.mpr ⟨(List.Mem.tail _ (List.Mem.tail _ (List.Mem.tail _ (List.Mem.tail _ (List.Mem.tail _ (List.Mem.tail _ (List.Mem.head _))))))), (List.forall_mem_cons.mpr ⟨(mem_ci (by show (if lea (bkB (H.1 2) (H.1 0 21) (H.1 0 22) most) l = -1 then (if (bkB (H.1 2) (H.1 0 21) (H.1 0 22) most) l = true then (l : Int) else -1) else lea (bkB (H.1 2) (H.1 0 21) (H.1 0 22) most) l) = _; rw [if_pos (by omega), hok]; rfl) (List.Mem.tail _ (List.Mem.head _))), (List.forall_mem_cons.mpr ⟨(mem_ci (by omega) (List.Mem.head _)), (fun _ h => absurd h List.not_mem_nil)⟩)⟩)⟩)⟩)⟩) ?_
                exact ih37 ((l + 1)) H3 ok16 (by omega) (wfm3) (by omega)
              · skip
                have hok : (bkB (H.1 2) (H.1 0 21) (H.1 0 22) most) l = true := by rw [hbk, if_neg (by omega)]; exact decide_eq_true (by omega)
                refine z_iconst (pc := 123) dX11_back_123 ?_
                refine x_goto (pc := 124) (tgt := 128) dX11_back_124 (by decide) ?_
                refine x_istore (pc := 128) dX11_back_128 (Nat.le_of_ble_eq_true rfl) ?_
                show Ev _ _ _ _ _ [(7, .int (zN (1))), (5, .long (zL (((100 : Int) ^ (H.1 2 1).toNat)))), (0, .ref 0), (1, .int (zN (most))), (2, .int (zN ((H.1 2 35)))), (3, .int (zN ((lea (bkB (H.1 2) (H.1 0 21) (H.1 0 22) most) l)))), (4, .int (zN ((l : Int))))] _ _
                refine x_iload (pc := 130) dX11_back_130 (List.Mem.head _) ?_
                refine z_if_eq (pc := 132) (tgt := 140) dX11_back_132 (by decide) (by decide) (by decide) (fun h => absurd h (by decide)) (fun _ => ?_)
                refine x_iload (pc := 135) dX11_back_135 (List.Mem.tail _ (List.Mem.tail _ (List.Mem.tail _ (List.Mem.tail _ (List.Mem.tail _ (List.Mem.tail _ (List.Mem.head _))))))) ?_
                refine x_goto (pc := 137) (tgt := 141) dX11_back_137 (by decide) ?_
                refine x_istore_n (pc := 141) dX11_back_141 (Nat.le_of_ble_eq_true rfl) ?_
                show Ev _ _ _ _ _ [(3, .int (zN ((l : Int)))), (7, .int (zN (1))), (5, .long (zL (((100 : Int) ^ (H.1 2 1).toNat)))), (0, .ref 0), (1, .int (zN (most))), (2, .int (zN ((H.1 2 35)))), (4, .int (zN ((l : Int))))] _ _
                refine z_iinc (pc := 142) dX11_back_142 (List.Mem.tail _ (List.Mem.tail _ (List.Mem.tail _ (List.Mem.tail _ (List.Mem.tail _ (List.Mem.tail _ (List.Mem.head _))))))) (Nat.le_of_ble_eq_true rfl) ?_
                show Ev _ _ _ _ _ [(4, .int (zN ((l : Int) + 1))), (3, .int (zN ((l : Int)))), (7, .int (zN (1))), (5, .long (zL (((100 : Int) ^ (H.1 2 1).toNat)))), (0, .ref 0), (1, .int (zN (most))), (2, .int (zN ((H.1 2 35))))] _ _
                refine x_goto (pc := 145) (tgt := 37) dX11_back_145 (by decide) ?_
                refine x_weaken (L1 := [(0, .ref 0), (1, .int (zN (most))), (2, .int (zN ((H.1 2 35)))), (3, .int (zN ((lea (bkB (H.1 2) (H.1 0 21) (H.1 0 22) most) (l + 1))))), (4, .int (zN ((((l + 1) : Nat) : Int))))]) (List.forall_mem_cons.mpr ⟨(List.Mem.tail _ (List.Mem.tail _ (List.Mem.tail _ (List.Mem.tail _ (List.Mem.head _))))), (List.forall_mem_cons.mpr ⟨(List.Mem.tail _ (List.Mem.tail _ (List.Mem.tail _ (List.Mem.tail _ (List.Mem.tail _ (List.Mem.head _)))))), (List.forall_mem_cons.mpr ⟨(List.Mem.tail _ (List.Mem.tail _ (List.Mem.tail _ (List.Mem.tail _ (List.Mem.tail _ (List.Mem.tail _ (List.Mem.head _))))))), (List.forall_mem_cons.mpr ⟨(mem_ci (by show (if lea (bkB (H.1 2) (H.1 0 21) (H.1 0 22) most) l = -1 then (if (bkB (H.1 2) (H.1 0 21) (H.1 0 22) most) l = true then (l : Int) else -1) else lea (bkB (H.1 2) (H.1 0 21) (H.1 0 22) most) l) = _; rw [if_pos (by omega), hok]; rfl) (List.Mem.tail _ (List.Mem.head _))), (List.forall_mem_cons.mpr ⟨(mem_ci (by omega) (List.Mem.head _)), (fun _ h => absurd h List.not_mem_nil)⟩)⟩)⟩)⟩)⟩) ?_
                exact ih37 ((l + 1)) H3 ok16 (by omega) (wfm3) (by omega)
            · skip
              have m1k := nn2 (x := most) (y := (100 : Int) ^ (H.1 2 1).toNat) (A := 1000) (B := 1000) (by omega) (by omega) (by omega) (by omega)
              refine x_aload_n (pc := 77) dX11_back_77 (List.Mem.tail _ (List.Mem.head _)) ?_
              refine z_getR (pc := 78) (k := 27) (r := 11) dX11_back_78 lf_X11_54 sh_0 rfl rf_0_27 ?_
              refine z_iconst (pc := 81) dX11_back_81 ?_
              refine z_lald (pc := 82) (j := 1) (v := (TS (upA (H.1 2) 35 (l : Int)) (H.1 0 21) (H.1 0 22) (gK 1))) dX11_back_82 sh_11 rfl (Nat.le_of_ble_eq_true rfl) (by decide) (wsm.1 1 (by omega)) ?_
              refine z_ldc2_w (pc := 83) 1000 dX11_back_83 cl_X11_306 (by decide) ?_
              refine z_lmul (pc := 86) dX11_back_86 ?_
              refine x_iload_n (pc := 87) dX11_back_87 (List.Mem.tail _ (List.Mem.tail _ (List.Mem.head _))) ?_
              refine z_i2l (pc := 88) dX11_back_88 (by omega) (by omega) ?_
              refine x_lload (pc := 89) dX11_back_89 (List.Mem.head _) ?_
              refine z_lmul (pc := 91) dX11_back_91 ?_
              refine z_lcmp_gt (pc := 92) (tgt := 100) dX11_back_92 dX11_back_93 (by decide) (by omega) (by omega) (by omega) (by omega) (fun hb21 => ?_) (fun hb21 => ?_)
              · skip
                have hok : (bkB (H.1 2) (H.1 0 21) (H.1 0 22) most) l = false := by rw [hbk, if_pos (by omega)]; exact decide_eq_false (by omega)
                refine z_iconst (pc := 100) dX11_back_100 ?_
                refine x_goto (pc := 101) (tgt := 128) dX11_back_101 (by decide) ?_
                refine x_istore (pc := 128) dX11_back_128 (Nat.le_of_ble_eq_true rfl) ?_
                show Ev _ _ _ _ _ [(7, .int (zN (0))), (5, .long (zL (((100 : Int) ^ (H.1 2 1).toNat)))), (0, .ref 0), (1, .int (zN (most))), (2, .int (zN ((H.1 2 35)))), (3, .int (zN ((lea (bkB (H.1 2) (H.1 0 21) (H.1 0 22) most) l)))), (4, .int (zN ((l : Int))))] _ _
                refine x_iload (pc := 130) dX11_back_130 (List.Mem.head _) ?_
                refine z_if_eq (pc := 132) (tgt := 140) dX11_back_132 (by decide) (by decide) (by decide) (fun _ => ?_) (fun h => absurd h (by decide))
                refine z_iconst (pc := 140) dX11_back_140 ?_
                refine x_istore_n (pc := 141) dX11_back_141 (Nat.le_of_ble_eq_true rfl) ?_
                show Ev _ _ _ _ _ [(3, .int (zN ((-1)))), (7, .int (zN (0))), (5, .long (zL (((100 : Int) ^ (H.1 2 1).toNat)))), (0, .ref 0), (1, .int (zN (most))), (2, .int (zN ((H.1 2 35)))), (4, .int (zN ((l : Int))))] _ _
                refine z_iinc (pc := 142) dX11_back_142 (List.Mem.tail _ (List.Mem.tail _ (List.Mem.tail _ (List.Mem.tail _ (List.Mem.tail _ (List.Mem.tail _ (List.Mem.head _))))))) (Nat.le_of_ble_eq_true rfl) ?_
                show Ev _ _ _ _ _ [(4, .int (zN ((l : Int) + 1))), (3, .int (zN ((-1)))), (7, .int (zN (0))), (5, .long (zL (((100 : Int) ^ (H.1 2 1).toNat)))), (0, .ref 0), (1, .int (zN (most))), (2, .int (zN ((H.1 2 35))))] _ _
                refine x_goto (pc := 145) (tgt := 37) dX11_back_145 (by decide) ?_
                refine x_weaken (L1 := [(0, .ref 0), (1, .int (zN (most))), (2, .int (zN ((H.1 2 35)))), (3, .int (zN ((lea (bkB (H.1 2) (H.1 0 21) (H.1 0 22) most) (l + 1))))), (4, .int (zN ((((l + 1) : Nat) : Int))))]) (List.forall_mem_cons.mpr ⟨(List.Mem.tail _ (List.Mem.tail _ (List.Mem.tail _ (List.Mem.tail _ (List.Mem.head _))))), (List.forall_mem_cons.mpr ⟨(List.Mem.tail _ (List.Mem.tail _ (List.Mem.tail _ (List.Mem.tail _ (List.Mem.tail _ (List.Mem.head _)))))), (List.forall_mem_cons.mpr ⟨(List.Mem.tail _ (List.Mem.tail _ (List.Mem.tail _ (List.Mem.tail _ (List.Mem.tail _ (List.Mem.tail _ (List.Mem.head _))))))), (List.forall_mem_cons.mpr ⟨(mem_ci (by show (if lea (bkB (H.1 2) (H.1 0 21) (H.1 0 22) most) l = -1 then (if (bkB (H.1 2) (H.1 0 21) (H.1 0 22) most) l = true then (l : Int) else -1) else lea (bkB (H.1 2) (H.1 0 21) (H.1 0 22) most) l) = _; rw [if_pos (by omega), hok]; rfl) (List.Mem.tail _ (List.Mem.head _))), (List.forall_mem_cons.mpr ⟨(mem_ci (by omega) (List.Mem.head _)), (fun _ h => absurd h List.not_mem_nil)⟩)⟩)⟩)⟩)⟩) ?_
                exact ih37 ((l + 1)) H3 ok16 (by omega) (wfm3) (by omega)
              · skip
                have hok : (bkB (H.1 2) (H.1 0 21) (H.1 0 22) most) l = true := by rw [hbk, if_pos (by omega)]; exact decide_eq_true (by omega)
                refine z_iconst (pc := 96) dX11_back_96 ?_
                refine x_goto (pc := 97) (tgt := 128) dX11_back_97 (by decide) ?_
                refine x_istore (pc := 128) dX11_back_128 (Nat.le_of_ble_eq_true rfl) ?_
                show Ev _ _ _ _ _ [(7, .int (zN (1))), (5, .long (zL (((100 : Int) ^ (H.1 2 1).toNat)))), (0, .ref 0), (1, .int (zN (most))), (2, .int (zN ((H.1 2 35)))), (3, .int (zN ((lea (bkB (H.1 2) (H.1 0 21) (H.1 0 22) most) l)))), (4, .int (zN ((l : Int))))] _ _
                refine x_iload (pc := 130) dX11_back_130 (List.Mem.head _) ?_
                refine z_if_eq (pc := 132) (tgt := 140) dX11_back_132 (by decide) (by decide) (by decide) (fun h => absurd h (by decide)) (fun _ => ?_)
                refine x_iload (pc := 135) dX11_back_135 (List.Mem.tail _ (List.Mem.tail _ (List.Mem.tail _ (List.Mem.tail _ (List.Mem.tail _ (List.Mem.tail _ (List.Mem.head _))))))) ?_
                refine x_goto (pc := 137) (tgt := 141) dX11_back_137 (by decide) ?_
                refine x_istore_n (pc := 141) dX11_back_141 (Nat.le_of_ble_eq_true rfl) ?_
                show Ev _ _ _ _ _ [(3, .int (zN ((l : Int)))), (7, .int (zN (1))), (5, .long (zL (((100 : Int) ^ (H.1 2 1).toNat)))), (0, .ref 0), (1, .int (zN (most))), (2, .int (zN ((H.1 2 35)))), (4, .int (zN ((l : Int))))] _ _
                refine z_iinc (pc := 142) dX11_back_142 (List.Mem.tail _ (List.Mem.tail _ (List.Mem.tail _ (List.Mem.tail _ (List.Mem.tail _ (List.Mem.tail _ (List.Mem.head _))))))) (Nat.le_of_ble_eq_true rfl) ?_
                show Ev _ _ _ _ _ [(4, .int (zN ((l : Int) + 1))), (3, .int (zN ((l : Int)))), (7, .int (zN (1))), (5, .long (zL (((100 : Int) ^ (H.1 2 1).toNat)))), (0, .ref 0), (1, .int (zN (most))), (2, .int (zN ((H.1 2 35))))] _ _
                refine x_goto (pc := 145) (tgt := 37) dX11_back_145 (by decide) ?_
                refine x_weaken (L1 := [(0, .ref 0), (1, .int (zN (most))), (2, .int (zN ((H.1 2 35)))), (3, .int (zN ((lea (bkB (H.1 2) (H.1 0 21) (H.1 0 22) most) (l + 1))))), (4, .int (zN ((((l + 1) : Nat) : Int))))]) (List.forall_mem_cons.mpr ⟨(List.Mem.tail _ (List.Mem.tail _ (List.Mem.tail _ (List.Mem.tail _ (List.Mem.head _))))), (List.forall_mem_cons.mpr ⟨(List.Mem.tail _ (List.Mem.tail _ (List.Mem.tail _ (List.Mem.tail _ (List.Mem.tail _ (List.Mem.head _)))))), (List.forall_mem_cons.mpr ⟨(List.Mem.tail _ (List.Mem.tail _ (List.Mem.tail _ (List.Mem.tail _ (List.Mem.tail _ (List.Mem.tail _ (List.Mem.head _))))))), (List.forall_mem_cons.mpr ⟨(mem_ci (by show (if lea (bkB (H.1 2) (H.1 0 21) (H.1 0 22) most) l = -1 then (if (bkB (H.1 2) (H.1 0 21) (H.1 0 22) most) l = true then (l : Int) else -1) else lea (bkB (H.1 2) (H.1 0 21) (H.1 0 22) most) l) = _; rw [if_pos (by omega), hok]; rfl) (List.Mem.tail _ (List.Mem.head _))), (List.forall_mem_cons.mpr ⟨(mem_ci (by omega) (List.Mem.head _)), (fun _ h => absurd h List.not_mem_nil)⟩)⟩)⟩)⟩)⟩) ?_
                exact ih37 ((l + 1)) H3 ok16 (by omega) (wfm3) (by omega)
    refine x_weaken (L1 := [(0, .ref 0), (1, .int (zN (most))), (2, .int (zN ((H.1 2 35)))), (3, .int (zN ((lea (bkB (H.1 2) (H.1 0 21) (H.1 0 22) most) 0)))), (4, .int (zN (((0 : Nat) : Int))))]) (List.forall_mem_cons.mpr ⟨(List.Mem.tail _ (List.Mem.tail _ (List.Mem.tail _ (List.Mem.head _)))), (List.forall_mem_cons.mpr ⟨(List.Mem.tail _ (List.Mem.tail _ (List.Mem.tail _ (List.Mem.tail _ (List.Mem.head _))))), (List.forall_mem_cons.mpr ⟨(List.Mem.tail _ (List.Mem.tail _ (List.Mem.head _))), (List.forall_mem_cons.mpr ⟨(mem_ci (rfl) (List.Mem.tail _ (List.Mem.head _))), (List.forall_mem_cons.mpr ⟨(mem_ci (by omega) (List.Mem.head _)), (fun _ h => absurd h List.not_mem_nil)⟩)⟩)⟩)⟩)⟩) ?_
    exact lp37 (31 - 0 + 1) (0) H ok3 (by omega) (⟨fun _ _ _ _ => rfl, h42, fun _ _ _ => rfl⟩) (Nat.lt_succ_self _)
  · skip
    refine z_if_ne (pc := 14) (tgt := 24) dX11_back_14 (by decide) (by decide) (by decide) (fun h => absurd h (by decide)) (fun _ => ?_)
    refine x_aload_n (pc := 17) dX11_back_17 (List.Mem.head _) ?_
    refine z_bipush (pc := 18) dX11_back_18 bp_m3 ?_
    refine z_callVip (pc := 20) (i := mX11_no) (S := []) [.int (zN ((-3)))] dX11_back_20 ml_X11_89 ok_X11_no rfl sh_0 rfl (Or.inl rfl) (Nat.le_of_ble_eq_true rfl) (c_X11_no (d := d + 14) (code := ((-3))) (code1 := (by omega)) (code2 := (by omega)) (ok := ok3) (cn := (by first | assumption | omega))) (fun r25a r25b ok26 => ?_)
    show Ev _ _ _ _ _ _ _ (eh (wI H 1 ((refIx ((-3)))) (H.1 1 (refIx ((-3))) + 1)))
    refine z_ireturn (pc := 23) dX11_back_23 rfl (Or.inl rfl) ok26 (by omega) (by omega) ?_
    exact Or.inr ⟨by omega, rfl, rfl⟩
