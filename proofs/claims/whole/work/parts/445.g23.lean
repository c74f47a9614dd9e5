/-! GROUP G23: back, wise and the rest. -/
theorem lea_fix {h : Nat → Bool} {l n : Nat} (e : lea h l ≠ -1) (hn : l ≤ n) : lea h n = lea h l := by
  induction n with
  | zero => rw [show l = 0 by omega]
  | succ n ih =>
    by_cases q : l = n + 1
    · rw [q]
    · have i := ih (by omega)
      show (if lea h n = -1 then (if h n = true then (n : Int) else -1) else lea h n) = lea h l
      rw [i, if_neg e]
theorem wsF_bdn {V : Nat → Int} {B : Int} {m : Nat} (h : ∀ s, s < m → 0 ≤ V s ∧ V s ≤ B) (hB : 0 ≤ B) (n : Nat) (hn : n ≤ m) (hm : m ≤ 61) : 0 ≤ (wsF V n).1 ∧ (wsF V n).1 ≤ 60 ∧ -1 ≤ (wsF V n).2 ∧ (wsF V n).2 ≤ B := by
  induction n with
  | zero => exact ⟨Int.le_refl _, by show (0 : Int) ≤ 60; decide, Int.le_refl _, by show (-1 : Int) ≤ B; omega⟩
  | succ n ih =>
    have z := h n (by omega)
    have i := ih (by omega)
    show 0 ≤ (if (wsF V n).2 < V n then ((n : Int), V n) else wsF V n).1 ∧ (if (wsF V n).2 < V n then ((n : Int), V n) else wsF V n).1 ≤ 60 ∧ -1 ≤ (if (wsF V n).2 < V n then ((n : Int), V n) else wsF V n).2 ∧ (if (wsF V n).2 < V n then ((n : Int), V n) else wsF V n).2 ≤ B
    by_cases q : (wsF V n).2 < V n
    · rw [if_pos q]
      refine ⟨?_, ?_, ?_, z.2⟩
      · show 0 ≤ (n : Int); omega
      · show (n : Int) ≤ 60; omega
      · show -1 ≤ V n; omega
    · rw [if_neg q]
      exact i

theorem c_X11_back {d : Nat} {H : ZH} (ok : okZ H) {most : Int} (most1 : -2147483648 ≤ most) (most2 : most ≤ 2147483647) (cm : cntOK H 1) (th : H.1 0 0 = 0) (ws : WFS (H.1 2)) (wl : WFL (H.1 2)) (h42 : ∀ j, 42 ≤ j → H.1 6 j = 0) : EvC zX (d + 16) mX11_back [.ref 0, .int (zN (most))] (eh H) (zPi (fun (r : Int) (H1 : ZH) => ((0 ≤ most ∧ most ≤ 1000) ∧ r = lea (bkB (H.1 2) (H.1 0 21) (H.1 0 22) most) 31 ∧ WoF H H1) ∨ (¬ (0 ≤ most ∧ most ≤ 1000) ∧ r = -3 ∧ H1 = bumpM 1 H))) := by
  show _ ∧ Ev zX mX11_back (EvC zX (d + 15)) (zPi (fun (r : Int) (H1 : ZH) => ((0 ≤ most ∧ most ≤ 1000) ∧ r = lea (bkB (H.1 2) (H.1 0 21) (H.1 0 22) most) 31 ∧ WoF H H1) ∨ (¬ (0 ≤ most ∧ most ≤ 1000) ∧ r = -3 ∧ H1 = bumpM 1 H))) 0 [(0, .ref 0), (1, .int (zN (most)))] [] (eh H)
  refine ⟨Nat.le_of_ble_eq_true rfl, ?_⟩
  have wsx := ws
  obtain ⟨ws0, ws1, wsC, ws34, ws35, ws36, ws37, ws38, ws39⟩ := wsx
  have pb := p100_bd (n := (H.1 2 1).toNat) (by omega)
  refine x_aload_n (pc := 0) dX11_back_0 (List.Mem.head _) ?_
  refine z_iconst (pc := 1) dX11_back_1 ?_
  refine z_putI (pc := 2) (k := 0) dX11_back_2 lp_X11_1 sh_0 rfl ?_
  have ok1 := okI ok 0 0 (v := 0) (by decide) (by decide)
  rw [wI_same th]
  refine x_iload_n (pc := 5) dX11_back_5 (List.Mem.tail _ (List.Mem.head _)) ?_
  refine z_i2l (pc := 6) dX11_back_6 (by omega) (by omega) ?_
  refine z_lconst (pc := 7) 0 dX11_back_7 rfl ?_
  refine z_ldc2_w (pc := 8) 1000 dX11_back_8 cl_X11_306 (by decide) ?_
  refine z_callSbp (pc := 11) (i := mX11_within) (S := []) [.long (zL (most)), .long (zL (0)), .long (zL (1000))] dX11_back_11 ml_X11_152 ok_X11_within rfl (Or.inr rfl) (Nat.le_of_ble_eq_true rfl) (c_X11_within (d := d + 14) (v := most) (lo := 0) (hi := 1000) (v1 := (by omega)) (v2 := (by omega)) (lo1 := (by omega)) (lo2 := (by omega)) (hi1 := (by omega)) (hi2 := (by omega)) (ok := ok)) (fun hc4 ok3 => ?_) (fun hc4 ok3 => ?_)
  · skip
    refine z_if_ne (pc := 14) (tgt := 24) dX11_back_14 (by decide) (by decide) (by decide) (fun _ => ?_) (fun h => absurd h (by decide))
    refine x_aload_n (pc := 24) dX11_back_24 (List.Mem.head _) ?_
    refine z_getR (pc := 25) (k := 2) (r := 2) dX11_back_25 lf_X11_17 sh_0 rfl rf_0_2 ?_
    refine z_bipush (pc := 28) dX11_back_28 bp_35 ?_
    have rd6 := ok3.1 2 35
    refine z_iald (pc := 30) (j := 35) (v := H.1 2 35) dX11_back_30 sh_2 rfl (Nat.le_of_ble_eq_true rfl) (by decide) rfl ?_
    refine x_istore_n (pc := 31) dX11_back_31 (Nat.le_of_ble_eq_true rfl) ?_
    show Ev _ _ _ _ _ [(2, .int (zN ((H.1 2 35)))), (0, .ref 0), (1, .int (zN (most)))] _ _
    refine z_iconst (pc := 32) dX11_back_32 ?_
    refine x_istore_n (pc := 33) dX11_back_33 (Nat.le_of_ble_eq_true rfl) ?_
    show Ev _ _ _ _ _ [(3, .int (zN ((-1)))), (2, .int (zN ((H.1 2 35)))), (0, .ref 0), (1, .int (zN (most)))] _ _
    refine z_iconst (pc := 34) dX11_back_34 ?_
    refine x_istore (pc := 35) dX11_back_35 (Nat.le_of_ble_eq_true rfl) ?_
    show Ev _ _ _ _ _ [(4, .int (zN (0))), (3, .int (zN ((-1)))), (2, .int (zN ((H.1 2 35)))), (0, .ref 0), (1, .int (zN (most)))] _ _
    have lp37 : ∀ (nF : Nat) (l : Nat) (Hm : ZH), okZ Hm → (l ≤ 31) → ((∀ cc k, ¬ (cc = 2 ∧ k = 35) → ¬ (cc = 6 ∨ cc = 7 ∨ cc = 8 ∨ cc = 9 ∨ cc = 10 ∨ (cc = 0 ∧ (k = 26 ∨ k = 23))) → Hm.1 cc k = H.1 cc k) ∧ (∀ j, 42 ≤ j → Hm.1 6 j = 0) ∧ ∀ cc k, ¬ (cc = 11 ∨ cc = 12 ∨ cc = 13) → Hm.2 cc k = H.2 cc k) → 31 - l < nF → Ev zX mX11_back (EvC zX (d + 15)) (zPi (fun (r : Int) (H1 : ZH) => ((0 ≤ most ∧ most ≤ 1000) ∧ r = lea (bkB (H.1 2) (H.1 0 21) (H.1 0 22) most) 31 ∧ WoF H H1) ∨ (¬ (0 ≤ most ∧ most ≤ 1000) ∧ r = -3 ∧ H1 = bumpM 1 H))) 37 [(0, .ref 0), (1, .int (zN (most))), (2, .int (zN ((H.1 2 35)))), (3, .int (zN ((lea (bkB (H.1 2) (H.1 0 21) (H.1 0 22) most) l)))), (4, .int (zN ((l : Int))))] [] (eh Hm) := by
      intro nF
      induction nF with
      | zero => intro l Hm okl37 hl wfm hm; exact absurd hm (Nat.not_lt_zero _)
      | succ nF ih37 =>
        intro l Hm okl37 hl wfm hm
        have lb := lea_bd (bkB (H.1 2) (H.1 0 21) (H.1 0 22) most) l
        refine x_iload (pc := 37) dX11_back_37 (List.Mem.tail _ (List.Mem.tail _ (List.Mem.tail _ (List.Mem.tail _ (List.Mem.head _))))) ?_
        refine z_bipush (pc := 39) dX11_back_39 bp_30 ?_
        refine z_icmp_gt (pc := 41) (tgt := 148) dX11_back_41 (by decide) (by omega) (by omega) (by decide) (by decide) (fun hb7 => ?_) (fun hb7 => ?_)
        · skip
          refine x_aload_n (pc := 148) dX11_back_148 (List.Mem.head _) ?_
          refine z_getR (pc := 149) (k := 2) (r := 2) dX11_back_149 lf_X11_17 sh_0 rfl rf_0_2 ?_
          refine z_bipush (pc := 152) dX11_back_152 bp_35 ?_
          refine x_iload_n (pc := 154) dX11_back_154 (List.Mem.tail _ (List.Mem.tail _ (List.Mem.head _))) ?_
          refine z_iast (pc := 155) (j := 35) (v := (H.1 2 35)) dX11_back_155 sh_2 rfl (Nat.le_of_ble_eq_true rfl) (by decide) ?_
          have ok8 := okI okl37 2 35 (v := (H.1 2 35)) (by omega) (by omega)
          refine x_iload_n (pc := 156) dX11_back_156 (List.Mem.tail _ (List.Mem.tail _ (List.Mem.tail _ (List.Mem.head _)))) ?_
          refine z_ireturn (pc := 157) dX11_back_157 rfl (Or.inl rfl) ok8 (by omega) (by omega) ?_
          have wfe : WoF H (wI Hm 2 35 ((H.1 2 35))) := ⟨fun cc k h => by
              rw [wIg]
              by_cases q : cc = 2 ∧ k = 35
              · rw [if_pos q, q.1, q.2]
              · rw [if_neg q]; exact wfm.1 cc k q h
            , fun j hj => by rw [wI1c (by omega)]; exact wfm.2.1 j hj, wfm.2.2⟩
          first | exact Or.inl ⟨by omega, by rw [show 31 = l by omega], wfe⟩ | exact Or.inl ⟨by omega, (lea_fix (by omega) (by omega)).symm, wfe⟩
        · skip
          refine x_iload_n (pc := 44) dX11_back_44 (List.Mem.tail _ (List.Mem.tail _ (List.Mem.tail _ (List.Mem.head _)))) ?_
          refine z_iconst (pc := 45) dX11_back_45 ?_
          refine z_icmp_ne (pc := 46) (tgt := 148) dX11_back_46 (by decide) (by omega) (by omega) (by decide) (by decide) (fun hb9 => ?_) (fun hb9 => ?_)
          · skip
            refine x_aload_n (pc := 148) dX11_back_148 (List.Mem.head _) ?_
            refine z_getR (pc := 149) (k := 2) (r := 2) dX11_back_149 lf_X11_17 sh_0 rfl rf_0_2 ?_
            refine z_bipush (pc := 152) dX11_back_152 bp_35 ?_
            refine x_iload_n (pc := 154) dX11_back_154 (List.Mem.tail _ (List.Mem.tail _ (List.Mem.head _))) ?_
            refine z_iast (pc := 155) (j := 35) (v := (H.1 2 35)) dX11_back_155 sh_2 rfl (Nat.le_of_ble_eq_true rfl) (by decide) ?_
            have ok10 := okI okl37 2 35 (v := (H.1 2 35)) (by omega) (by omega)
            refine x_iload_n (pc := 156) dX11_back_156 (List.Mem.tail _ (List.Mem.tail _ (List.Mem.tail _ (List.Mem.head _)))) ?_
            refine z_ireturn (pc := 157) dX11_back_157 rfl (Or.inl rfl) ok10 (by omega) (by omega) ?_
            have wfe : WoF H (wI Hm 2 35 ((H.1 2 35))) := ⟨fun cc k h => by
                rw [wIg]
                by_cases q : cc = 2 ∧ k = 35
                · rw [if_pos q, q.1, q.2]
                · rw [if_neg q]; exact wfm.1 cc k q h
              , fun j hj => by rw [wI1c (by omega)]; exact wfm.2.1 j hj, wfm.2.2⟩
            first | exact Or.inl ⟨by omega, by rw [show 31 = l by omega], wfe⟩ | exact Or.inl ⟨by omega, (lea_fix (by omega) (by omega)).symm, wfe⟩
          · skip
            refine x_aload_n (pc := 49) dX11_back_49 (List.Mem.head _) ?_
            refine z_getR (pc := 50) (k := 2) (r := 2) dX11_back_50 lf_X11_17 sh_0 rfl rf_0_2 ?_
            refine z_bipush (pc := 53) dX11_back_53 bp_35 ?_
            refine x_iload (pc := 55) dX11_back_55 (List.Mem.tail _ (List.Mem.tail _ (List.Mem.tail _ (List.Mem.tail _ (List.Mem.head _))))) ?_
            refine z_iast (pc := 57) (j := 35) (v := (l : Int)) dX11_back_57 sh_2 rfl (Nat.le_of_ble_eq_true rfl) (by decide) ?_
            have ok11 := okI okl37 2 35 (v := (l : Int)) (by omega) (by omega)
            obtain ⟨Hx, hHx⟩ : ∃ Hx, Hx = (wI Hm 2 35 ((l : Int))) := ⟨_, rfl⟩
            rw [← hHx]
            have okHx : okZ Hx := by rw [hHx]; exact ok11
            have x2 : Hx.1 2 = upA (H.1 2) 35 (l : Int) := by
              rw [hHx]; funext j; rw [wIp]; unfold upA
              exact if q : j = 35 then (by rw [if_pos q, if_pos q]) else (by rw [if_neg q, if_neg q]; exact wfm.1 2 j (by omega) (by omega))
            have xo : ∀ cc j, ¬ (cc = 2 ∧ j = 35) → Hx.1 cc j = Hm.1 cc j := fun cc j h => by rw [hHx, wIg]; exact if_neg h
            have xJ : Hx.2 = Hm.2 := by rw [hHx]; rfl
            have wsx2 : WFS (upA (H.1 2) 35 (l : Int)) := WFS_up ws (by omega) ⟨by omega, by omega, by omega, by omega, by omega⟩
            have wlx2 : WFL (upA (H.1 2) 35 (l : Int)) := WFL_up wl (by omega)
            have e1x : (upA (H.1 2) 35 (l : Int)) 1 = H.1 2 1 := upA_ne (by omega)
            refine x_aload_n (pc := 58) dX11_back_58 (List.Mem.head _) ?_
            refine z_callVv (pc := 59) (i := mX11_worksOdds) (S := []) [] dX11_back_59 ml_X11_296 ok_X11_worksOdds rfl sh_0 rfl rfl (Nat.le_of_ble_eq_true rfl) (c_X11_worksOdds (d := d) (ok := okHx) (ws := (by rw [x2]; exact wsx2)) (wl := (by rw [x2]; exact wlx2)) (h42 := (fun j hj => by rw [xo 6 j (by omega)]; exact wfm.2.1 j hj))) ?_
            intro H3 ok13 hp14
            obtain ⟨wf3, wsm⟩ := hp14
            rw [x2, (xo 0 21 (by omega)).trans (wfm.1 0 21 (by omega) (by omega)), (xo 0 22 (by omega)).trans (wfm.1 0 22 (by omega) (by omega))] at wsm
            have e23 := (WoF_2 wf3).trans x2
            have wfm3 : (∀ cc k, ¬ (cc = 2 ∧ k = 35) → ¬ (cc = 6 ∨ cc = 7 ∨ cc = 8 ∨ cc = 9 ∨ cc = 10 ∨ (cc = 0 ∧ (k = 26 ∨ k = 23))) → H3.1 cc k = H.1 cc k) ∧ (∀ j, 42 ≤ j → H3.1 6 j = 0) ∧ ∀ cc k, ¬ (cc = 11 ∨ cc = 12 ∨ cc = 13) → H3.2 cc k = H.2 cc k := ⟨fun cc k h1 h2 => (wf3.1 cc k h2).trans ((xo cc k h1).trans (wfm.1 cc k h1 h2)), wf3.2.1, fun cc k h => (wf3.2.2 cc k h).trans ((congrFun (congrFun xJ cc) k).trans (wfm.2.2 cc k h))⟩
            have tb := TS_bd (wo := H.1 0 21) (wc := H.1 0 22) wsx2 (gK_ok (upA (H.1 2) 35 (l : Int)) 1)
            rw [e1x] at tb
            have hbk : (bkB (H.1 2) (H.1 0 21) (H.1 0 22) most) l = if ((100 : Int) ^ (H.1 2 1).toNat) < 1000 then decide ((TS (upA (H.1 2) 35 (l : Int)) (H.1 0 21) (H.1 0 22) (gK 1)) * 1000 ≤ most * ((100 : Int) ^ (H.1 2 1).toNat)) else decide ((TS (upA (H.1 2) 35 (l : Int)) (H.1 0 21) (H.1 0 22) (gK 1)) ≤ most * (((100 : Int) ^ (H.1 2 1).toNat) / 1000)) := rfl
            refine x_aload_n (pc := 62) dX11_back_62 (List.Mem.head _) ?_
            refine z_callVlp (pc := 63) (i := mX11_allParts) (S := []) [] dX11_back_63 ml_X11_292 ok_X11_allParts rfl sh_0 rfl rfl (Nat.le_of_ble_eq_true rfl) (c_X11_allParts (d := d + 14) (ok := ok13) (hn8 := (by rw [e23, e1x]; exact ws1))) (fun r15a r15b ok16 => ?_)
            rw [show (100 : Int) ^ (H3.1 2 1).toNat = (100 : Int) ^ (H.1 2 1).toNat by rw [e23, e1x]]
            refine x_lstore (pc := 66) dX11_back_66 (Nat.le_of_ble_eq_true rfl) ?_
            show Ev _ _ _ _ _ [(5, .long (zL (((100 : Int) ^ (H.1 2 1).toNat)))), (0, .ref 0), (1, .int (zN (most))), (2, .int (zN ((H.1 2 35)))), (3, .int (zN ((lea (bkB (H.1 2) (H.1 0 21) (H.1 0 22) most) l)))), (4, .int (zN ((l : Int))))] _ _
            refine x_lload (pc := 68) dX11_back_68 (List.Mem.head _) ?_
            refine z_ldc2_w (pc := 70) 1000 dX11_back_70 cl_X11_306 (by decide) ?_
            refine z_lcmp_ge (pc := 73) (tgt := 104) dX11_back_73 dX11_back_74 (by decide) (by omega) (by omega) (by decide) (by decide) (fun hb17 => ?_) (fun hb17 => ?_)
            · skip
              have m1k := nn2 (x := most) (y := (100 : Int) ^ (H.1 2 1).toNat / 1000) (A := 1000) (B := 10000000000000) (by omega) (by omega) (by omega) (by omega)
              refine x_aload_n (pc := 104) dX11_back_104 (List.Mem.tail _ (List.Mem.head _)) ?_
              refine z_getR (pc := 105) (k := 27) (r := 11) dX11_back_105 lf_X11_54 sh_0 rfl rf_0_27 ?_
              refine z_iconst (pc := 108) dX11_back_108 ?_
              refine z_lald (pc := 109) (j := 1) (v := (TS (upA (H.1 2) 35 (l : Int)) (H.1 0 21) (H.1 0 22) (gK 1))) dX11_back_109 sh_11 rfl (Nat.le_of_ble_eq_true rfl) (by decide) (wsm.1 1 (by omega)) ?_
              refine x_iload_n (pc := 110) dX11_back_110 (List.Mem.tail _ (List.Mem.tail _ (List.Mem.head _))) ?_
              refine z_i2l (pc := 111) dX11_back_111 (by omega) (by omega) ?_
              refine x_lload (pc := 112) dX11_back_112 (List.Mem.head _) ?_
              refine z_ldc2_w (pc := 114) 1000 dX11_back_114 cl_X11_306 (by decide) ?_
              refine z_ldivP (pc := 117) dX11_back_117 (by omega) (by omega) (by omega) (by omega) ?_
              refine z_lmul (pc := 118) dX11_back_118 ?_
              refine z_lcmp_gt (pc := 119) (tgt := 127) dX11_back_119 dX11_back_120 (by decide) (by omega) (by omega) (by omega) (by omega) (fun hb18 => ?_) (fun hb18 => ?_)
              · skip
                have hok : (bkB (H.1 2) (H.1 0 21) (H.1 0 22) most) l = false := by rw [hbk, if_neg (by omega)]; exact decide_eq_false (by omega)
                refine z_iconst (pc := 127) dX11_back_127 ?_
                refine x_istore (pc := 128) dX11_back_128 (Nat.le_of_ble_eq_true rfl) ?_
                show Ev _ _ _ _ _ [(7, .int (zN (0))), (5, .long (zL (((100 : Int) ^ (H.1 2 1).toNat)))), (0, .ref 0), (1, .int (zN (most))), (2, .int (zN ((H.1 2 35)))), (3, .int (zN ((lea (bkB (H.1 2) (H.1 0 21) (H.1 0 22) most) l)))), (4, .int (zN ((l : Int))))] _ _
                refine x_iload (pc := 130) dX11_back_130 (List.Mem.head _) ?_
                refine z_if_eq (pc := 132) (tgt := 140) dX11_back_132 (by decide) (by decide) (by decide) (fun _ => ?_) (fun h => absurd h (by decide))
                refine z_iconst (pc := 140) dX11_back_140 ?_
                refine x_istore_n (pc := 141) dX11_back_141 (Nat.le_of_ble_eq_true rfl) ?_
                show Ev _ _ _ _ _ [(3, .int (zN ((-1)))), (7, .int (zN (0))), (5, .long (zL (((100 : Int) ^ (H.1 2 1).toNat)))), (0, .ref 0), (1, .int (zN (most))), (2, .int (zN ((H.1 2 35)))), (4, .int (zN ((l : Int))))] _ _
                refine z_iinc (pc := 142) dX11_back_142 (List.Mem.tail _ (List.Mem.tail _ (List.Mem.tail _ (List.Mem.tail _ (List.Mem.tail _ (List.Mem.tail _ (List.Mem.head _))))))) (Nat.le_of_ble_eq_true rfl) ?_
                show Ev _ _ _ _ _ [(4, .int (zN ((l : Int) + 1))), (3, .int (zN ((-1)))), (7, .int (zN (0))), (5, .long (zL (((100 : Int) ^ (H.1 2 1).toNat)))), (0, .ref 0), (1, .int (zN (most))), (2, .int (zN ((H.1 2 35))))] _ _
                refine x_goto (pc := 145) (tgt := 37) dX11_back_145 (by decide) ?_
                refine x_weaken (L1 := [(0, .ref 0), (1, .int (zN (most))), (2, .int (zN ((H.1 2 35)))), (3, .int (zN ((lea (bkB (H.1 2) (H.1 0 21) (H.1 0 22) most) (l + 1))))), (4, .int (zN ((((l + 1) : Nat) : Int))))]) (List.forall_mem_cons.mpr ⟨(List.Mem.tail _ (List.Mem.tail _ (List.Mem.tail _ (List.Mem.tail _ (List.Mem.head _))))), (List.forall_mem_cons.mpr ⟨(List.Mem.tail _ (List.Mem.tail _ (List.Mem.tail _ (List.Mem.tail _ (List.Mem.tail _ (List.Mem.head _)))))), (List.forall_mem_cons.mpr ⟨(List.Mem.tail _ (List.Mem.tail _ (List.Mem.tail _ (List.Mem.tail _ (List.Mem.tail _ (List.Mem.tail _ (List.Mem.head _))))))), (List.forall_mem_cons.mpr ⟨(mem_ci (by show (if lea (bkB (H.1 2) (H.1 0 21) (H.1 0 22) most) l = -1 then (if (bkB (H.1 2) (H.1 0 21) (H.1 0 22) most) l = true then (l : Int) else -1) else lea (bkB (H.1 2) (H.1 0 21) (H.1 0 22) most) l) = _; rw [if_pos (by omega), hok]; rfl) (List.Mem.tail _ (List.Mem.head _))), (List.forall_mem_cons.mpr ⟨(mem_ci (by omega) (List.Mem.head _)), (fun _ h => absurd h List.not_mem_nil)⟩)⟩)⟩)⟩)⟩) ?_
                exact ih37 ((l + 1)) H3 ok16 (by omega) (wfm3) (by omega)
              · skip
                have hok : (bkB (H.1 2) (H.1 0 21) (H.1 0 22) most) l = true := by rw [hbk, if_neg (by omega)]; exact decide_eq_true (by omega)
                refine z_iconst (pc := 123) dX11_back_123 ?_
                refine x_goto (pc := 124) (tgt := 128) dX11_back_124 (by decide) ?_
                refine x_istore (pc := 128) dX11_back_128 (Nat.le_of_ble_eq_true rfl) ?_
                show Ev _ _ _ _ _ [(7, .int (zN (1))), (5, .long (zL (((100 : Int) ^ (H.1 2 1).toNat)))), (0, .ref 0), (1, .int (zN (most))), (2, .int (zN ((H.1 2 35)))), (3, .int (zN ((lea (bkB (H.1 2) (H.1 0 21) (H.1 0 22) most) l)))), (4, .int (zN ((l : Int))))] _ _
                refine x_iload (pc := 130) dX11_back_130 (List.Mem.head _) ?_
                refine z_if_eq (pc := 132) (tgt := 140) dX11_back_132 (by decide) (by decide) (by decide) (fun h => absurd h (by decide)) (fun _ => ?_)
                refine x_iload (pc := 135) dX11_back_135 (List.Mem.tail _ (List.Mem.tail _ (List.Mem.tail _ (List.Mem.tail _ (List.Mem.tail _ (List.Mem.tail _ (List.Mem.head _))))))) ?_
                refine x_goto (pc := 137) (tgt := 141) dX11_back_137 (by decide) ?_
                refine x_istore_n (pc := 141) dX11_back_141 (Nat.le_of_ble_eq_true rfl) ?_
                show Ev _ _ _ _ _ [(3, .int (zN ((l : Int)))), (7, .int (zN (1))), (5, .long (zL (((100 : Int) ^ (H.1 2 1).toNat)))), (0, .ref 0), (1, .int (zN (most))), (2, .int (zN ((H.1 2 35)))), (4, .int (zN ((l : Int))))] _ _
                refine z_iinc (pc := 142) dX11_back_142 (List.Mem.tail _ (List.Mem.tail _ (List.Mem.tail _ (List.Mem.tail _ (List.Mem.tail _ (List.Mem.tail _ (List.Mem.head _))))))) (Nat.le_of_ble_eq_true rfl) ?_
                show Ev _ _ _ _ _ [(4, .int (zN ((l : Int) + 1))), (3, .int (zN ((l : Int)))), (7, .int (zN (1))), (5, .long (zL (((100 : Int) ^ (H.1 2 1).toNat)))), (0, .ref 0), (1, .int (zN (most))), (2, .int (zN ((H.1 2 35))))] _ _
                refine x_goto (pc := 145) (tgt := 37) dX11_back_145 (by decide) ?_
                refine x_weaken (L1 := [(0, .ref 0), (1, .int (zN (most))), (2, .int (zN ((H.1 2 35)))), (3, .int (zN ((lea (bkB (H.1 2) (H.1 0 21) (H.1 0 22) most) (l + 1))))), (4, .int (zN ((((l + 1) : Nat) : Int))))]) (List.forall_mem_cons.mpr ⟨(List.Mem.tail _ (List.Mem.tail _ (List.Mem.tail _ (List.Mem.tail _ (List.Mem.head _))))), (List.forall_mem_cons.mpr ⟨(List.Mem.tail _ (List.Mem.tail _ (List.Mem.tail _ (List.Mem.tail _ (List.Mem.tail _ (List.Mem.head _)))))), (List.forall_mem_cons.mpr ⟨(List.Mem.tail _ (List.Mem.tail _ (List.Mem.tail _ (List.Mem.tail _ (List.Mem.tail _ (List.Mem.tail _ (List.Mem.head _))))))), (List.forall_mem_cons.mpr ⟨(mem_ci (by show (if lea (bkB (H.1 2) (H.1 0 21) (H.1 0 22) most) l = -1 then (if (bkB (H.1 2) (H.1 0 21) (H.1 0 22) most) l = true then (l : Int) else -1) else lea (bkB (H.1 2) (H.1 0 21) (H.1 0 22) most) l) = _; rw [if_pos (by omega), hok]; rfl) (List.Mem.tail _ (List.Mem.head _))), (List.forall_mem_cons.mpr ⟨(mem_ci (by omega) (List.Mem.head _)), (fun _ h => absurd h List.not_mem_nil)⟩)⟩)⟩)⟩)⟩) ?_
                exact ih37 ((l + 1)) H3 ok16 (by omega) (wfm3) (by omega)
            · skip
              have m1k := nn2 (x := most) (y := (100 : Int) ^ (H.1 2 1).toNat) (A := 1000) (B := 1000) (by omega) (by omega) (by omega) (by omega)
              refine x_aload_n (pc := 77) dX11_back_77 (List.Mem.tail _ (List.Mem.head _)) ?_
              refine z_getR (pc := 78) (k := 27) (r := 11) dX11_back_78 lf_X11_54 sh_0 rfl rf_0_27 ?_
              refine z_iconst (pc := 81) dX11_back_81 ?_
              refine z_lald (pc := 82) (j := 1) (v := (TS (upA (H.1 2) 35 (l : Int)) (H.1 0 21) (H.1 0 22) (gK 1))) dX11_back_82 sh_11 rfl (Nat.le_of_ble_eq_true rfl) (by decide) (wsm.1 1 (by omega)) ?_
              refine z_ldc2_w (pc := 83) 1000 dX11_back_83 cl_X11_306 (by decide) ?_
              refine z_lmul (pc := 86) dX11_back_86 ?_
              refine x_iload_n (pc := 87) dX11_back_87 (List.Mem.tail _ (List.Mem.tail _ (List.Mem.head _))) ?_
              refine z_i2l (pc := 88) dX11_back_88 (by omega) (by omega) ?_
              refine x_lload (pc := 89) dX11_back_89 (List.Mem.head _) ?_
              refine z_lmul (pc := 91) dX11_back_91 ?_
              refine z_lcmp_gt (pc := 92) (tgt := 100) dX11_back_92 dX11_back_93 (by decide) (by omega) (by omega) (by omega) (by omega) (fun hb21 => ?_) (fun hb21 => ?_)
              · skip
                have hok : (bkB (H.1 2) (H.1 0 21) (H.1 0 22) most) l = false := by rw [hbk, if_pos (by omega)]; exact decide_eq_false (by omega)
                refine z_iconst (pc := 100) dX11_back_100 ?_
                refine x_goto (pc := 101) (tgt := 128) dX11_back_101 (by decide) ?_
                refine x_istore (pc := 128) dX11_back_128 (Nat.le_of_ble_eq_true rfl) ?_
                show Ev _ _ _ _ _ [(7, .int (zN (0))), (5, .long (zL (((100 : Int) ^ (H.1 2 1).toNat)))), (0, .ref 0), (1, .int (zN (most))), (2, .int (zN ((H.1 2 35)))), (3, .int (zN ((lea (bkB (H.1 2) (H.1 0 21) (H.1 0 22) most) l)))), (4, .int (zN ((l : Int))))] _ _
                refine x_iload (pc := 130) dX11_back_130 (List.Mem.head _) ?_
                refine z_if_eq (pc := 132) (tgt := 140) dX11_back_132 (by decide) (by decide) (by decide) (fun _ => ?_) (fun h => absurd h (by decide))
                refine z_iconst (pc := 140) dX11_back_140 ?_
                refine x_istore_n (pc := 141) dX11_back_141 (Nat.le_of_ble_eq_true rfl) ?_
                show Ev _ _ _ _ _ [(3, .int (zN ((-1)))), (7, .int (zN (0))), (5, .long (zL (((100 : Int) ^ (H.1 2 1).toNat)))), (0, .ref 0), (1, .int (zN (most))), (2, .int (zN ((H.1 2 35)))), (4, .int (zN ((l : Int))))] _ _
                refine z_iinc (pc := 142) dX11_back_142 (List.Mem.tail _ (List.Mem.tail _ (List.Mem.tail _ (List.Mem.tail _ (List.Mem.tail _ (List.Mem.tail _ (List.Mem.head _))))))) (Nat.le_of_ble_eq_true rfl) ?_
                show Ev _ _ _ _ _ [(4, .int (zN ((l : Int) + 1))), (3, .int (zN ((-1)))), (7, .int (zN (0))), (5, .long (zL (((100 : Int) ^ (H.1 2 1).toNat)))), (0, .ref 0), (1, .int (zN (most))), (2, .int (zN ((H.1 2 35))))] _ _
                refine x_goto (pc := 145) (tgt := 37) dX11_back_145 (by decide) ?_
                refine x_weaken (L1 := [(0, .ref 0), (1, .int (zN (most))), (2, .int (zN ((H.1 2 35)))), (3, .int (zN ((lea (bkB (H.1 2) (H.1 0 21) (H.1 0 22) most) (l + 1))))), (4, .int (zN ((((l + 1) : Nat) : Int))))]) (List.forall_mem_cons.mpr ⟨(List.Mem.tail _ (List.Mem.tail _ (List.Mem.tail _ (List.Mem.tail _ (List.Mem.head _))))), (List.forall_mem_cons.mpr ⟨(List.Mem.tail _ (List.Mem.tail _ (List.Mem.tail _ (List.Mem.tail _ (List.Mem.tail _ (List.Mem.head _)))))), (List.forall_mem_cons.mpr ⟨(List.Mem.tail _ (List.Mem.tail _ (List.Mem.tail _ (List.Mem.tail _ (List.Mem.tail _ (List.Mem.tail _ (List.Mem.head _))))))), (List.forall_mem_cons.mpr ⟨(mem_ci (by show (if lea (bkB (H.1 2) (H.1 0 21) (H.1 0 22) most) l = -1 then (if (bkB (H.1 2) (H.1 0 21) (H.1 0 22) most) l = true then (l : Int) else -1) else lea (bkB (H.1 2) (H.1 0 21) (H.1 0 22) most) l) = _; rw [if_pos (by omega), hok]; rfl) (List.Mem.tail _ (List.Mem.head _))), (List.forall_mem_cons.mpr ⟨(mem_ci (by omega) (List.Mem.head _)), (fun _ h => absurd h List.not_mem_nil)⟩)⟩)⟩)⟩)⟩) ?_
                exact ih37 ((l + 1)) H3 ok16 (by omega) (wfm3) (by omega)
              · skip
                have hok : (bkB (H.1 2) (H.1 0 21) (H.1 0 22) most) l = true := by rw [hbk, if_pos (by omega)]; exact decide_eq_true (by omega)
                refine z_iconst (pc := 96) dX11_back_96 ?_
                refine x_goto (pc := 97) (tgt := 128) dX11_back_97 (by decide) ?_
                refine x_istore (pc := 128) dX11_back_128 (Nat.le_of_ble_eq_true rfl) ?_
                show Ev _ _ _ _ _ [(7, .int (zN (1))), (5, .long (zL (((100 : Int) ^ (H.1 2 1).toNat)))), (0, .ref 0), (1, .int (zN (most))), (2, .int (zN ((H.1 2 35)))), (3, .int (zN ((lea (bkB (H.1 2) (H.1 0 21) (H.1 0 22) most) l)))), (4, .int (zN ((l : Int))))] _ _
                refine x_iload (pc := 130) dX11_back_130 (List.Mem.head _) ?_
                refine z_if_eq (pc := 132) (tgt := 140) dX11_back_132 (by decide) (by decide) (by decide) (fun h => absurd h (by decide)) (fun _ => ?_)
                refine x_iload (pc := 135) dX11_back_135 (List.Mem.tail _ (List.Mem.tail _ (List.Mem.tail _ (List.Mem.tail _ (List.Mem.tail _ (List.Mem.tail _ (List.Mem.head _))))))) ?_
                refine x_goto (pc := 137) (tgt := 141) dX11_back_137 (by decide) ?_
                refine x_istore_n (pc := 141) dX11_back_141 (Nat.le_of_ble_eq_true rfl) ?_
                show Ev _ _ _ _ _ [(3, .int (zN ((l : Int)))), (7, .int (zN (1))), (5, .long (zL (((100 : Int) ^ (H.1 2 1).toNat)))), (0, .ref 0), (1, .int (zN (most))), (2, .int (zN ((H.1 2 35)))), (4, .int (zN ((l : Int))))] _ _
                refine z_iinc (pc := 142) dX11_back_142 (List.Mem.tail _ (List.Mem.tail _ (List.Mem.tail _ (List.Mem.tail _ (List.Mem.tail _ (List.Mem.tail _ (List.Mem.head _))))))) (Nat.le_of_ble_eq_true rfl) ?_
                show Ev _ _ _ _ _ [(4, .int (zN ((l : Int) + 1))), (3, .int (zN ((l : Int)))), (7, .int (zN (1))), (5, .long (zL (((100 : Int) ^ (H.1 2 1).toNat)))), (0, .ref 0), (1, .int (zN (most))), (2, .int (zN ((H.1 2 35))))] _ _
                refine x_goto (pc := 145) (tgt := 37) dX11_back_145 (by decide) ?_
                refine x_weaken (L1 := [(0, .ref 0), (1, .int (zN (most))), (2, .int (zN ((H.1 2 35)))), (3, .int (zN ((lea (bkB (H.1 2) (H.1 0 21) (H.1 0 22) most) (l + 1))))), (4, .int (zN ((((l + 1) : Nat) : Int))))]) (List.forall_mem_cons.mpr ⟨(List.Mem.tail _ (List.Mem.tail _ (List.Mem.tail _ (List.Mem.tail _ (List.Mem.head _))))), (List.forall_mem_cons.mpr ⟨(List.Mem.tail _ (List.Mem.tail _ (List.Mem.tail _ (List.Mem.tail _ (List.Mem.tail _ (List.Mem.head _)))))), (List.forall_mem_cons.mpr ⟨(List.Mem.tail _ (List.Mem.tail _ (List.Mem.tail _ (List.Mem.tail _ (List.Mem.tail _ (List.Mem.tail _ (List.Mem.head _))))))), (List.forall_mem_cons.mpr ⟨(mem_ci (by show (if lea (bkB (H.1 2) (H.1 0 21) (H.1 0 22) most) l = -1 then (if (bkB (H.1 2) (H.1 0 21) (H.1 0 22) most) l = true then (l : Int) else -1) else lea (bkB (H.1 2) (H.1 0 21) (H.1 0 22) most) l) = _; rw [if_pos (by omega), hok]; rfl) (List.Mem.tail _ (List.Mem.head _))), (List.forall_mem_cons.mpr ⟨(mem_ci (by omega) (List.Mem.head _)), (fun _ h => absurd h List.not_mem_nil)⟩)⟩)⟩)⟩)⟩) ?_
                exact ih37 ((l + 1)) H3 ok16 (by omega) (wfm3) (by omega)
    refine x_weaken (L1 := [(0, .ref 0), (1, .int (zN (most))), (2, .int (zN ((H.1 2 35)))), (3, .int (zN ((lea (bkB (H.1 2) (H.1 0 21) (H.1 0 22) most) 0)))), (4, .int (zN (((0 : Nat) : Int))))]) (List.forall_mem_cons.mpr ⟨(List.Mem.tail _ (List.Mem.tail _ (List.Mem.tail _ (List.Mem.head _)))), (List.forall_mem_cons.mpr ⟨(List.Mem.tail _ (List.Mem.tail _ (List.Mem.tail _ (List.Mem.tail _ (List.Mem.head _))))), (List.forall_mem_cons.mpr ⟨(List.Mem.tail _ (List.Mem.tail _ (List.Mem.head _))), (List.forall_mem_cons.mpr ⟨(mem_ci (rfl) (List.Mem.tail _ (List.Mem.head _))), (List.forall_mem_cons.mpr ⟨(mem_ci (by omega) (List.Mem.head _)), (fun _ h => absurd h List.not_mem_nil)⟩)⟩)⟩)⟩)⟩) ?_
    exact lp37 (31 - 0 + 1) (0) H ok3 (by omega) (⟨fun _ _ _ _ => rfl, h42, fun _ _ _ => rfl⟩) (Nat.lt_succ_self _)
  · skip
    refine z_if_ne (pc := 14) (tgt := 24) dX11_back_14 (by decide) (by decide) (by decide) (fun h => absurd h (by decide)) (fun _ => ?_)
    refine x_aload_n (pc := 17) dX11_back_17 (List.Mem.head _) ?_
    refine z_bipush (pc := 18) dX11_back_18 bp_m3 ?_
    refine z_callVip (pc := 20) (i := mX11_no) (S := []) [.int (zN ((-3)))] dX11_back_20 ml_X11_89 ok_X11_no rfl sh_0 rfl (Or.inl rfl) (Nat.le_of_ble_eq_true rfl) (c_X11_no (d := d + 14) (code := ((-3))) (code1 := (by omega)) (code2 := (by omega)) (ok := ok3) (cn := (by first | assumption | omega))) (fun r25a r25b ok26 => ?_)
    show Ev _ _ _ _ _ _ _ (eh (wI H 1 ((refIx ((-3)))) (H.1 1 (refIx ((-3))) + 1)))
    refine z_ireturn (pc := 23) dX11_back_23 rfl (Or.inl rfl) ok26 (by omega) (by omega) ?_
    exact Or.inr ⟨by omega, rfl, rfl⟩

theorem c_X11_wise_0 {d : Nat} {H : ZH} (ok : okZ H)  (cm : cntOK H 1) (th : H.1 0 0 = 0) (ws : WFS (H.1 2)) (wl : WFL (H.1 2)) (h42 : ∀ j, 42 ≤ j → H.1 6 j = 0) : EvC zX (d + 16) mX11_wise [.ref 0, .int (zN (0))] (eh H) (zPi (fun (r : Int) (H1 : ZH) => r = (wsF (fun x0 => TS (upA (H.1 2) 37 ((x0 : Nat) : Int)) (H.1 0 21) (H.1 0 22) (gK 0)) 61).1 ∧ WoF H H1)) := by
  show _ ∧ Ev zX mX11_wise (EvC zX (d + 15)) (zPi (fun (r : Int) (H1 : ZH) => r = (wsF (fun x0 => TS (upA (H.1 2) 37 ((x0 : Nat) : Int)) (H.1 0 21) (H.1 0 22) (gK 0)) 61).1 ∧ WoF H H1)) 0 [(0, .ref 0), (1, .int (zN (0)))] [] (eh H)
  refine ⟨Nat.le_of_ble_eq_true rfl, ?_⟩
  have wsx := ws
  obtain ⟨ws0, ws1, wsC, ws34, ws35, ws36, ws37, ws38, ws39⟩ := wsx
  have pb := p100_bd (n := (H.1 2 1).toNat) (by omega)
  have vb : ∀ v : Nat, v < 61 → 0 ≤ (fun x0 => TS (upA (H.1 2) 37 ((x0 : Nat) : Int)) (H.1 0 21) (H.1 0 22) (gK 0)) v ∧ (fun x0 => TS (upA (H.1 2) 37 ((x0 : Nat) : Int)) (H.1 0 21) (H.1 0 22) (gK 0)) v ≤ 162 * 100 ^ (H.1 2 1).toNat := fun v hv => by
    have tb := TS_bd (wo := H.1 0 21) (wc := H.1 0 22) (WFS_up (i := 37) (v := ((v : Nat) : Int)) ws (by omega) ⟨by omega, by omega, by omega, by omega, by omega⟩) (gK_ok (upA (H.1 2) 37 ((v : Nat) : Int)) 0)
    rw [show (upA (H.1 2) 37 ((v : Nat) : Int)) 1 = H.1 2 1 from upA_ne (by omega)] at tb
    exact tb
  refine x_aload_n (pc := 0) dX11_wise_0 (List.Mem.head _) ?_
  refine z_iconst (pc := 1) dX11_wise_1 ?_
  refine z_putI (pc := 2) (k := 0) dX11_wise_2 lp_X11_1 sh_0 rfl ?_
  have ok1 := okI ok 0 0 (v := 0) (by decide) (by decide)
  rw [wI_same th]
  refine x_iload_n (pc := 5) dX11_wise_5 (List.Mem.tail _ (List.Mem.head _)) ?_
  refine z_i2l (pc := 6) dX11_wise_6 (by decide) (by decide) ?_
  refine z_lconst (pc := 7) 0 dX11_wise_7 rfl ?_
  refine z_lconst (pc := 8) 1 dX11_wise_8 rfl ?_
  refine z_callSbp (pc := 9) (i := mX11_within) (S := []) [.long (zL (0)), .long (zL (0)), .long (zL (1))] dX11_wise_9 ml_X11_152 ok_X11_within rfl (Or.inr rfl) (Nat.le_of_ble_eq_true rfl) (c_X11_within (d := d + 14) (v := 0) (lo := 0) (hi := 1) (v1 := (by omega)) (v2 := (by omega)) (lo1 := (by omega)) (lo2 := (by omega)) (hi1 := (by omega)) (hi2 := (by omega)) (ok := ok)) (fun hc4 ok3 => ?_) (fun hc4 ok3 => ?_)
  · skip
    refine z_if_ne (pc := 12) (tgt := 22) dX11_wise_12 (by decide) (by decide) (by decide) (fun _ => ?_) (fun h => absurd h (by decide))
    refine x_iload_n (pc := 22) dX11_wise_22 (List.Mem.tail _ (List.Mem.head _)) ?_
    refine z_if_ne (pc := 23) (tgt := 31) dX11_wise_23 (by decide) (by decide) (by decide) (fun h => absurd h (by decide)) (fun _ => ?_)
    refine z_bipush (pc := 26) dX11_wise_26 bp_37 ?_
    refine x_goto (pc := 28) (tgt := 33) dX11_wise_28 (by decide) ?_
    refine x_istore_n (pc := 33) dX11_wise_33 (Nat.le_of_ble_eq_true rfl) ?_
    show Ev _ _ _ _ _ [(2, .int (zN (37))), (0, .ref 0), (1, .int (zN (0)))] _ _
    refine x_aload_n (pc := 34) dX11_wise_34 (List.Mem.tail _ (List.Mem.head _)) ?_
    refine z_getR (pc := 35) (k := 2) (r := 2) dX11_wise_35 lf_X11_17 sh_0 rfl rf_0_2 ?_
    refine x_iload_n (pc := 38) dX11_wise_38 (List.Mem.head _) ?_
    have rd7 := ok3.1 2 37
    refine z_iald (pc := 39) (j := 37) (v := H.1 2 37) dX11_wise_39 sh_2 rfl (Nat.le_of_ble_eq_true rfl) (by decide) rfl ?_
    refine x_istore_n (pc := 40) dX11_wise_40 (Nat.le_of_ble_eq_true rfl) ?_
    show Ev _ _ _ _ _ [(3, .int (zN ((H.1 2 37)))), (2, .int (zN (37))), (0, .ref 0), (1, .int (zN (0)))] _ _
    refine z_iconst (pc := 41) dX11_wise_41 ?_
    refine x_istore (pc := 42) dX11_wise_42 (Nat.le_of_ble_eq_true rfl) ?_
    show Ev _ _ _ _ _ [(4, .int (zN (0))), (3, .int (zN ((H.1 2 37)))), (2, .int (zN (37))), (0, .ref 0), (1, .int (zN (0)))] _ _
    refine z_ldc2_w (pc := 44) (-1) dX11_wise_44 cl_X11_308 (by decide) ?_
    refine x_lstore (pc := 47) dX11_wise_47 (Nat.le_of_ble_eq_true rfl) ?_
    show Ev _ _ _ _ _ [(5, .long (zL ((-1)))), (4, .int (zN (0))), (3, .int (zN ((H.1 2 37)))), (2, .int (zN (37))), (0, .ref 0), (1, .int (zN (0)))] _ _
    refine z_iconst (pc := 49) dX11_wise_49 ?_
    refine x_istore (pc := 50) dX11_wise_50 (Nat.le_of_ble_eq_true rfl) ?_
    show Ev _ _ _ _ _ [(7, .int (zN (0))), (5, .long (zL ((-1)))), (4, .int (zN (0))), (3, .int (zN ((H.1 2 37)))), (2, .int (zN (37))), (0, .ref 0), (1, .int (zN (0)))] _ _
    have lp52 : ∀ (nF : Nat) (v : Nat) (Hm : ZH), okZ Hm → (v ≤ 61) → ((∀ cc k, ¬ (cc = 2 ∧ k = 37) → ¬ (cc = 6 ∨ cc = 7 ∨ cc = 8 ∨ cc = 9 ∨ cc = 10 ∨ (cc = 0 ∧ (k = 26 ∨ k = 23))) → Hm.1 cc k = H.1 cc k) ∧ (∀ j, 42 ≤ j → Hm.1 6 j = 0) ∧ ∀ cc k, ¬ (cc = 11 ∨ cc = 12 ∨ cc = 13) → Hm.2 cc k = H.2 cc k) → 61 - v < nF → Ev zX mX11_wise (EvC zX (d + 15)) (zPi (fun (r : Int) (H1 : ZH) => r = (wsF (fun x0 => TS (upA (H.1 2) 37 ((x0 : Nat) : Int)) (H.1 0 21) (H.1 0 22) (gK 0)) 61).1 ∧ WoF H H1)) 52 [(0, .ref 0), (1, .int (zN (0))), (2, .int (zN (37))), (3, .int (zN ((H.1 2 37)))), (4, .int (zN ((wsF (fun x0 => TS (upA (H.1 2) 37 ((x0 : Nat) : Int)) (H.1 0 21) (H.1 0 22) (gK 0)) v).1))), (5, .long (zL ((wsF (fun x0 => TS (upA (H.1 2) 37 ((x0 : Nat) : Int)) (H.1 0 21) (H.1 0 22) (gK 0)) v).2))), (7, .int (zN ((v : Int))))] [] (eh Hm) := by
      intro nF
      induction nF with
      | zero => intro v Hm okl52 hv wfm hm; exact absurd hm (Nat.not_lt_zero _)
      | succ nF ih52 =>
        intro v Hm okl52 hv wfm hm
        have bb := wsF_bdn vb (by omega) v hv (by omega)
        refine x_iload (pc := 52) dX11_wise_52 (List.Mem.tail _ (List.Mem.tail _ (List.Mem.tail _ (List.Mem.tail _ (List.Mem.tail _ (List.Mem.tail _ (List.Mem.head _))))))) ?_
        refine x_iload_n (pc := 54) dX11_wise_54 (List.Mem.tail _ (List.Mem.head _)) ?_
        refine z_if_ne (pc := 55) (tgt := 63) dX11_wise_55 (by decide) (by decide) (by decide) (fun h => absurd h (by decide)) (fun _ => ?_)
        refine z_bipush (pc := 58) dX11_wise_58 bp_60 ?_
        refine x_goto (pc := 60) (tgt := 65) dX11_wise_60 (by decide) ?_
        refine z_icmp_gt (pc := 65) (tgt := 113) dX11_wise_65 (by decide) (by omega) (by omega) (by decide) (by decide) (fun hb9 => ?_) (fun hb9 => ?_)
        · skip
          refine x_aload_n (pc := 113) dX11_wise_113 (List.Mem.head _) ?_
          refine z_getR (pc := 114) (k := 2) (r := 2) dX11_wise_114 lf_X11_17 sh_0 rfl rf_0_2 ?_
          refine x_iload_n (pc := 117) dX11_wise_117 (List.Mem.tail _ (List.Mem.tail _ (List.Mem.head _))) ?_
          refine x_iload_n (pc := 118) dX11_wise_118 (List.Mem.tail _ (List.Mem.tail _ (List.Mem.tail _ (List.Mem.head _)))) ?_
          refine z_iast (pc := 119) (j := 37) (v := (H.1 2 37)) dX11_wise_119 sh_2 rfl (Nat.le_of_ble_eq_true rfl) (by decide) ?_
          have ok10 := okI okl52 2 37 (v := (H.1 2 37)) (by omega) (by omega)
          refine x_iload (pc := 120) dX11_wise_120 (List.Mem.tail _ (List.Mem.tail _ (List.Mem.tail _ (List.Mem.tail _ (List.Mem.head _))))) ?_
          refine z_ireturn (pc := 122) dX11_wise_122 rfl (Or.inl rfl) ok10 (by omega) (by omega) ?_
          have wfe : WoF H (wI Hm 2 37 ((H.1 2 37))) := ⟨fun cc k h => by
              rw [wIg]
              by_cases q : cc = 2 ∧ k = 37
              · rw [if_pos q, q.1, q.2]
              · rw [if_neg q]; exact wfm.1 cc k q h
            , fun j hj => by rw [wI1c (by omega)]; exact wfm.2.1 j hj, wfm.2.2⟩
          exact ⟨by rw [show 61 = v by omega], wfe⟩
        · skip
          refine x_aload_n (pc := 68) dX11_wise_68 (List.Mem.head _) ?_
          refine z_getR (pc := 69) (k := 2) (r := 2) dX11_wise_69 lf_X11_17 sh_0 rfl rf_0_2 ?_
          refine x_iload_n (pc := 72) dX11_wise_72 (List.Mem.tail _ (List.Mem.tail _ (List.Mem.head _))) ?_
          refine x_iload (pc := 73) dX11_wise_73 (List.Mem.tail _ (List.Mem.tail _ (List.Mem.tail _ (List.Mem.tail _ (List.Mem.tail _ (List.Mem.tail _ (List.Mem.head _))))))) ?_
          refine z_iast (pc := 75) (j := 37) (v := (v : Int)) dX11_wise_75 sh_2 rfl (Nat.le_of_ble_eq_true rfl) (by decide) ?_
          have ok11 := okI okl52 2 37 (v := (v : Int)) (by omega) (by omega)
          obtain ⟨Hx, hHx⟩ : ∃ Hx, Hx = (wI Hm 2 37 ((v : Int))) := ⟨_, rfl⟩
          rw [← hHx]
          have okHx : okZ Hx := by rw [hHx]; exact ok11
          have x2 : Hx.1 2 = upA (H.1 2) 37 ((v : Nat) : Int) := by
            rw [hHx]; funext j; rw [wIp]; unfold upA
            exact if q : j = 37 then (by rw [if_pos q, if_pos q]) else (by rw [if_neg q, if_neg q]; exact wfm.1 2 j (by omega) (by omega))
          have xo : ∀ cc j, ¬ (cc = 2 ∧ j = 37) → Hx.1 cc j = Hm.1 cc j := fun cc j h => by rw [hHx, wIg]; exact if_neg h
          have xJ : Hx.2 = Hm.2 := by rw [hHx]; rfl
          have wsx2 : WFS (upA (H.1 2) 37 ((v : Nat) : Int)) := WFS_up ws (by omega) ⟨by omega, by omega, by omega, by omega, by omega⟩
          have wlx2 : WFL (upA (H.1 2) 37 ((v : Nat) : Int)) := WFL_up wl (by omega)
          have e1x : (upA (H.1 2) 37 ((v : Nat) : Int)) 1 = H.1 2 1 := upA_ne (by omega)
          refine x_aload_n (pc := 76) dX11_wise_76 (List.Mem.head _) ?_
          refine z_callVv (pc := 77) (i := mX11_worksOdds) (S := []) [] dX11_wise_77 ml_X11_296 ok_X11_worksOdds rfl sh_0 rfl rfl (Nat.le_of_ble_eq_true rfl) (c_X11_worksOdds (d := d) (ok := okHx) (ws := (by rw [x2]; exact wsx2)) (wl := (by rw [x2]; exact wlx2)) (h42 := (fun j hj => by rw [xo 6 j (by omega)]; exact wfm.2.1 j hj))) ?_
          intro H3 ok13 hp14
          obtain ⟨wf3, wsm⟩ := hp14
          rw [x2, (xo 0 21 (by omega)).trans (wfm.1 0 21 (by omega) (by omega)), (xo 0 22 (by omega)).trans (wfm.1 0 22 (by omega) (by omega))] at wsm
          have e23 := (WoF_2 wf3).trans x2
          have wfm3 : (∀ cc k, ¬ (cc = 2 ∧ k = 37) → ¬ (cc = 6 ∨ cc = 7 ∨ cc = 8 ∨ cc = 9 ∨ cc = 10 ∨ (cc = 0 ∧ (k = 26 ∨ k = 23))) → H3.1 cc k = H.1 cc k) ∧ (∀ j, 42 ≤ j → H3.1 6 j = 0) ∧ ∀ cc k, ¬ (cc = 11 ∨ cc = 12 ∨ cc = 13) → H3.2 cc k = H.2 cc k := ⟨fun cc k h1 h2 => (wf3.1 cc k h2).trans ((xo cc k h1).trans (wfm.1 cc k h1 h2)), wf3.2.1, fun cc k h => (wf3.2.2 cc k h).trans ((congrFun (congrFun xJ cc) k).trans (wfm.2.2 cc k h))⟩
          have vbn := vb v (by omega)
          have vbn2 : 0 ≤ (TS (upA (H.1 2) 37 ((v : Nat) : Int)) (H.1 0 21) (H.1 0 22) (gK 0)) ∧ (TS (upA (H.1 2) 37 ((v : Nat) : Int)) (H.1 0 21) (H.1 0 22) (gK 0)) ≤ 162 * 100 ^ (H.1 2 1).toNat := vbn
          refine x_aload_n (pc := 80) dX11_wise_80 (List.Mem.head _) ?_
          refine z_getR (pc := 81) (k := 27) (r := 11) dX11_wise_81 lf_X11_54 sh_0 rfl rf_0_27 ?_
          refine z_iconst (pc := 84) dX11_wise_84 ?_
          refine z_lald (pc := 85) (j := 0) (v := (TS (upA (H.1 2) 37 ((v : Nat) : Int)) (H.1 0 21) (H.1 0 22) (gK 0))) dX11_wise_85 sh_11 rfl (Nat.le_of_ble_eq_true rfl) (by decide) (wsm.1 0 (by omega)) ?_
          refine x_lload (pc := 86) dX11_wise_86 (List.Mem.tail _ (List.Mem.tail _ (List.Mem.tail _ (List.Mem.tail _ (List.Mem.tail _ (List.Mem.head _)))))) ?_
          refine z_lcmp_gt (pc := 88) (tgt := 95) dX11_wise_88 dX11_wise_89 (by decide) (by omega) (by omega) (by omega) (by omega) (fun hb15 => ?_) (fun hb15 => ?_)
          · skip
            refine x_aload_n (pc := 95) dX11_wise_95 (List.Mem.head _) ?_
            refine z_getR (pc := 96) (k := 27) (r := 11) dX11_wise_96 lf_X11_54 sh_0 rfl rf_0_27 ?_
            refine z_iconst (pc := 99) dX11_wise_99 ?_
            refine z_lald (pc := 100) (j := 0) (v := (TS (upA (H.1 2) 37 ((v : Nat) : Int)) (H.1 0 21) (H.1 0 22) (gK 0))) dX11_wise_100 sh_11 rfl (Nat.le_of_ble_eq_true rfl) (by decide) (wsm.1 0 (by omega)) ?_
            refine x_lstore (pc := 101) dX11_wise_101 (Nat.le_of_ble_eq_true rfl) ?_
            show Ev _ _ _ _ _ [(5, .long (zL (((TS (upA (H.1 2) 37 ((v : Nat) : Int)) (H.1 0 21) (H.1 0 22) (gK 0)))))), (0, .ref 0), (1, .int (zN (0))), (2, .int (zN (37))), (3, .int (zN ((H.1 2 37)))), (4, .int (zN ((wsF (fun x0 => TS (upA (H.1 2) 37 ((x0 : Nat) : Int)) (H.1 0 21) (H.1 0 22) (gK 0)) v).1))), (7, .int (zN ((v : Int))))] _ _
            refine x_iload (pc := 103) dX11_wise_103 (List.Mem.tail _ (List.Mem.tail _ (List.Mem.tail _ (List.Mem.tail _ (List.Mem.tail _ (List.Mem.tail _ (List.Mem.head _))))))) ?_
            refine x_istore (pc := 105) dX11_wise_105 (Nat.le_of_ble_eq_true rfl) ?_
            show Ev _ _ _ _ _ [(4, .int (zN ((v : Int)))), (5, .long (zL (((TS (upA (H.1 2) 37 ((v : Nat) : Int)) (H.1 0 21) (H.1 0 22) (gK 0)))))), (0, .ref 0), (1, .int (zN (0))), (2, .int (zN (37))), (3, .int (zN ((H.1 2 37)))), (7, .int (zN ((v : Int))))] _ _
            refine z_iinc (pc := 107) dX11_wise_107 (List.Mem.tail _ (List.Mem.tail _ (List.Mem.tail _ (List.Mem.tail _ (List.Mem.tail _ (List.Mem.tail _ (List.Mem.head _))))))) (Nat.le_of_ble_eq_true rfl) ?_
            show Ev _ _ _ _ _ [(7, .int (zN ((v : Int) + 1))), (4, .int (zN ((v : Int)))), (5, .long (zL (((TS (upA (H.1 2) 37 ((v : Nat) : Int)) (H.1 0 21) (H.1 0 22) (gK 0)))))), (0, .ref 0), (1, .int (zN (0))), (2, .int (zN (37))), (3, .int (zN ((H.1 2 37))))] _ _
            refine x_goto (pc := 110) (tgt := 52) dX11_wise_110 (by decide) ?_
            refine x_weaken (L1 := [(0, .ref 0), (1, .int (zN (0))), (2, .int (zN (37))), (3, .int (zN ((H.1 2 37)))), (4, .int (zN ((wsF (fun x0 => TS (upA (H.1 2) 37 ((x0 : Nat) : Int)) (H.1 0 21) (H.1 0 22) (gK 0)) (v + 1)).1))), (5, .long (zL ((wsF (fun x0 => TS (upA (H.1 2) 37 ((x0 : Nat) : Int)) (H.1 0 21) (H.1 0 22) (gK 0)) (v + 1)).2))), (7, .int (zN ((((v + 1) : Nat) : Int))))]) (List.forall_mem_cons.mpr ⟨(List.Mem.tail _ (List.Mem.tail _ (List.Mem.tail _ (List.Mem.head _)))), (List.forall_mem_cons.mpr ⟨(List.Mem.tail _ (List.Mem.tail _ (List.Mem.tail _ (List.Mem.tail _ (List.Mem.head _))))), (List.forall_mem_cons.mpr ⟨(List.Mem.tail _ (List.Mem.tail _ (List.Mem.tail _ (List.Mem.tail _ (List.Mem.tail _ (List.Mem.head _)))))), (List.forall_mem_cons.mpr ⟨(List.Mem.tail _ (List.Mem.tail _ (List.Mem.tail _ (List.Mem.tail _ (List.Mem.tail _ (List.Mem.tail _ (List.Mem.head _))))))), (List.forall_mem_cons.mpr ⟨(mem_ci (by show (if (wsF (fun x0 => TS (upA (H.1 2) 37 ((x0 : Nat) : Int)) (H.1 0 21) (H.1 0 22) (gK 0)) v).2 < (fun x0 => TS (upA (H.1 2) 37 ((x0 : Nat) : Int)) (H.1 0 21) (H.1 0 22) (gK 0)) v then ((v : Int), (fun x0 => TS (upA (H.1 2) 37 ((x0 : Nat) : Int)) (H.1 0 21) (H.1 0 22) (gK 0)) v) else (wsF (fun x0 => TS (upA (H.1 2) 37 ((x0 : Nat) : Int)) (H.1 0 21) (H.1 0 22) (gK 0)) v)).1 = _; first | (rw [if_pos (show (wsF (fun x0 => TS (upA (H.1 2) 37 ((x0 : Nat) : Int)) (H.1 0 21) (H.1 0 22) (gK 0)) v).2 < (TS (upA (H.1 2) 37 ((v : Nat) : Int)) (H.1 0 21) (H.1 0 22) (gK 0)) by omega)]; done) | (rw [if_neg (show ¬ (wsF (fun x0 => TS (upA (H.1 2) 37 ((x0 : Nat) : Int)) (H.1 0 21) (H.1 0 22) (gK 0)) v).2 < (TS (upA (H.1 2) 37 ((v : Nat) : Int)) (H.1 0 21) (H.1 0 22) (gK 0)) by omega)]; done)) (List.Mem.tail _ (List.Mem.head _))), (List.forall_mem_cons.mpr ⟨(mem_cl (by show (if (wsF (fun x0 => TS (upA (H.1 2) 37 ((x0 : Nat) : Int)) (H.1 0 21) (H.1 0 22) (gK 0)) v).2 < (fun x0 => TS (upA (H.1 2) 37 ((x0 : Nat) : Int)) (H.1 0 21) (H.1 0 22) (gK 0)) v then ((v : Int), (fun x0 => TS (upA (H.1 2) 37 ((x0 : Nat) : Int)) (H.1 0 21) (H.1 0 22) (gK 0)) v) else (wsF (fun x0 => TS (upA (H.1 2) 37 ((x0 : Nat) : Int)) (H.1 0 21) (H.1 0 22) (gK 0)) v)).2 = _; first | (rw [if_pos (show (wsF (fun x0 => TS (upA (H.1 2) 37 ((x0 : Nat) : Int)) (H.1 0 21) (H.1 0 22) (gK 0)) v).2 < (TS (upA (H.1 2) 37 ((v : Nat) : Int)) (H.1 0 21) (H.1 0 22) (gK 0)) by omega)]; done) | (rw [if_neg (show ¬ (wsF (fun x0 => TS (upA (H.1 2) 37 ((x0 : Nat) : Int)) (H.1 0 21) (H.1 0 22) (gK 0)) v).2 < (TS (upA (H.1 2) 37 ((v : Nat) : Int)) (H.1 0 21) (H.1 0 22) (gK 0)) by omega)]; done)) (List.Mem.tail _ (List.Mem.tail _ (List.Mem.head _)))), (List.forall_mem_cons.mpr ⟨(mem_ci (by omega) (List.Mem.head _)), (fun _ h => absurd h List.not_mem_nil)⟩)⟩)⟩)⟩)⟩)⟩)⟩) ?_
            exact ih52 ((v + 1)) H3 ok13 (by omega) (wfm3) (by omega)
          · skip
            refine x_goto (pc := 92) (tgt := 107) dX11_wise_92 (by decide) ?_
            refine z_iinc (pc := 107) dX11_wise_107 (List.Mem.tail _ (List.Mem.tail _ (List.Mem.tail _ (List.Mem.tail _ (List.Mem.tail _ (List.Mem.tail _ (List.Mem.head _))))))) (Nat.le_of_ble_eq_true rfl) ?_
            show Ev _ _ _ _ _ [(7, .int (zN ((v : Int) + 1))), (0, .ref 0), (1, .int (zN (0))), (2, .int (zN (37))), (3, .int (zN ((H.1 2 37)))), (4, .int (zN ((wsF (fun x0 => TS (upA (H.1 2) 37 ((x0 : Nat) : Int)) (H.1 0 21) (H.1 0 22) (gK 0)) v).1))), (5, .long (zL ((wsF (fun x0 => TS (upA (H.1 2) 37 ((x0 : Nat) : Int)) (H.1 0 21) (H.1 0 22) (gK 0)) v).2)))] _ _
            refine x_goto (pc := 110) (tgt := 52) dX11_wise_110 (by decide) ?_
            refine x_weaken (L1 := [(0, .ref 0), (1, .int (zN (0))), (2, .int (zN (37))), (3, .int (zN ((H.1 2 37)))), (4, .int (zN ((wsF (fun x0 => TS (upA (H.1 2) 37 ((x0 : Nat) : Int)) (H.1 0 21) (H.1 0 22) (gK 0)) (v + 1)).1))), (5, .long (zL ((wsF (fun x0 => TS (upA (H.1 2) 37 ((x0 : Nat) : Int)) (H.1 0 21) (H.1 0 22) (gK 0)) (v + 1)).2))), (7, .int (zN ((((v + 1) : Nat) : Int))))]) (List.forall_mem_cons.mpr ⟨(List.Mem.tail _ (List.Mem.head _)), (List.forall_mem_cons.mpr ⟨(List.Mem.tail _ (List.Mem.tail _ (List.Mem.head _))), (List.forall_mem_cons.mpr ⟨(List.Mem.tail _ (List.Mem.tail _ (List.Mem.tail _ (List.Mem.head _)))), (List.forall_mem_cons.mpr ⟨(List.Mem.tail _ (List.Mem.tail _ (List.Mem.tail _ (List.Mem.tail _ (List.Mem.head _))))), (List.forall_mem_cons.mpr ⟨(mem_ci (by show (if (wsF (fun x0 => TS (upA (H.1 2) 37 ((x0 : Nat) : Int)) (H.1 0 21) (H.1 0 22) (gK 0)) v).2 < (fun x0 => TS (upA (H.1 2) 37 ((x0 : Nat) : Int)) (H.1 0 21) (H.1 0 22) (gK 0)) v then ((v : Int), (fun x0 => TS (upA (H.1 2) 37 ((x0 : Nat) : Int)) (H.1 0 21) (H.1 0 22) (gK 0)) v) else (wsF (fun x0 => TS (upA (H.1 2) 37 ((x0 : Nat) : Int)) (H.1 0 21) (H.1 0 22) (gK 0)) v)).1 = _; first | (rw [if_pos (show (wsF (fun x0 => TS (upA (H.1 2) 37 ((x0 : Nat) : Int)) (H.1 0 21) (H.1 0 22) (gK 0)) v).2 < (TS (upA (H.1 2) 37 ((v : Nat) : Int)) (H.1 0 21) (H.1 0 22) (gK 0)) by omega)]; done) | (rw [if_neg (show ¬ (wsF (fun x0 => TS (upA (H.1 2) 37 ((x0 : Nat) : Int)) (H.1 0 21) (H.1 0 22) (gK 0)) v).2 < (TS (upA (H.1 2) 37 ((v : Nat) : Int)) (H.1 0 21) (H.1 0 22) (gK 0)) by omega)]; done)) (List.Mem.tail _ (List.Mem.tail _ (List.Mem.tail _ (List.Mem.tail _ (List.Mem.tail _ (List.Mem.head _))))))), (List.forall_mem_cons.mpr ⟨(mem_cl (by show (if (wsF (fun x0 => TS (upA (H.1 2) 37 ((x0 : Nat) : Int)) (H.1 0 21) (H.1 0 22) (gK 0)) v).2 < (fun x0 => TS (upA (H.1 2) 37 ((x0 : Nat) : Int)) (H.1 0 21) (H.1 0 22) (gK 0)) v then ((v : Int), (fun x0 => TS (upA (H.1 2) 37 ((x0 : Nat) : Int)) (H.1 0 21) (H.1 0 22) (gK 0)) v) else (wsF (fun x0 => TS (upA (H.1 2) 37 ((x0 : Nat) : Int)) (H.1 0 21) (H.1 0 22) (gK 0)) v)).2 = _; first | (rw [if_pos (show (wsF (fun x0 => TS (upA (H.1 2) 37 ((x0 : Nat) : Int)) (H.1 0 21) (H.1 0 22) (gK 0)) v).2 < (TS (upA (H.1 2) 37 ((v : Nat) : Int)) (H.1 0 21) (H.1 0 22) (gK 0)) by omega)]; done) | (rw [if_neg (show ¬ (wsF (fun x0 => TS (upA (H.1 2) 37 ((x0 : Nat) : Int)) (H.1 0 21) (H.1 0 22) (gK 0)) v).2 < (TS (upA (H.1 2) 37 ((v : Nat) : Int)) (H.1 0 21) (H.1 0 22) (gK 0)) by omega)]; done)) (List.Mem.tail _ (List.Mem.tail _ (List.Mem.tail _ (List.Mem.tail _ (List.Mem.tail _ (List.Mem.tail _ (List.Mem.head _)))))))), (List.forall_mem_cons.mpr ⟨(mem_ci (by omega) (List.Mem.head _)), (fun _ h => absurd h List.not_mem_nil)⟩)⟩)⟩)⟩)⟩)⟩)⟩) ?_
            exact ih52 ((v + 1)) H3 ok13 (by omega) (wfm3) (by omega)
    refine x_weaken (L1 := [(0, .ref 0), (1, .int (zN (0))), (2, .int (zN (37))), (3, .int (zN ((H.1 2 37)))), (4, .int (zN ((wsF (fun x0 => TS (upA (H.1 2) 37 ((x0 : Nat) : Int)) (H.1 0 21) (H.1 0 22) (gK 0)) 0).1))), (5, .long (zL ((wsF (fun x0 => TS (upA (H.1 2) 37 ((x0 : Nat) : Int)) (H.1 0 21) (H.1 0 22) (gK 0)) 0).2))), (7, .int (zN (((0 : Nat) : Int))))]) (List.forall_mem_cons.mpr ⟨(List.Mem.tail _ (List.Mem.tail _ (List.Mem.tail _ (List.Mem.tail _ (List.Mem.tail _ (List.Mem.head _)))))), (List.forall_mem_cons.mpr ⟨(List.Mem.tail _ (List.Mem.tail _ (List.Mem.tail _ (List.Mem.tail _ (List.Mem.tail _ (List.Mem.tail _ (List.Mem.head _))))))), (List.forall_mem_cons.mpr ⟨(List.Mem.tail _ (List.Mem.tail _ (List.Mem.tail _ (List.Mem.tail _ (List.Mem.head _))))), (List.forall_mem_cons.mpr ⟨(List.Mem.tail _ (List.Mem.tail _ (List.Mem.tail _ (List.Mem.head _)))), (List.forall_mem_cons.mpr ⟨(mem_ci (rfl) (List.Mem.tail _ (List.Mem.tail _ (List.Mem.head _)))), (List.forall_mem_cons.mpr ⟨(mem_cl (rfl) (List.Mem.tail _ (List.Mem.head _))), (List.forall_mem_cons.mpr ⟨(mem_ci (by omega) (List.Mem.head _)), (fun _ h => absurd h List.not_mem_nil)⟩)⟩)⟩)⟩)⟩)⟩)⟩) ?_
    exact lp52 (61 - 0 + 1) (0) H ok3 (by omega) (⟨fun _ _ _ _ => rfl, h42, fun _ _ _ => rfl⟩) (Nat.lt_succ_self _)
  · skip
    exact absurd (by decide) hc4

theorem c_X11_wise_1 {d : Nat} {H : ZH} (ok : okZ H)  (cm : cntOK H 1) (th : H.1 0 0 = 0) (ws : WFS (H.1 2)) (wl : WFL (H.1 2)) (h42 : ∀ j, 42 ≤ j → H.1 6 j = 0) : EvC zX (d + 16) mX11_wise [.ref 0, .int (zN (1))] (eh H) (zPi (fun (r : Int) (H1 : ZH) => r = (wsF (fun x0 => TS (upA (H.1 2) 36 ((x0 : Nat) : Int)) (H.1 0 21) (H.1 0 22) (gK 0)) 21).1 ∧ WoF H H1)) := by
  show _ ∧ Ev zX mX11_wise (EvC zX (d + 15)) (zPi (fun (r : Int) (H1 : ZH) => r = (wsF (fun x0 => TS (upA (H.1 2) 36 ((x0 : Nat) : Int)) (H.1 0 21) (H.1 0 22) (gK 0)) 21).1 ∧ WoF H H1)) 0 [(0, .ref 0), (1, .int (zN (1)))] [] (eh H)
  refine ⟨Nat.le_of_ble_eq_true rfl, ?_⟩
  have wsx := ws
  obtain ⟨ws0, ws1, wsC, ws34, ws35, ws36, ws37, ws38, ws39⟩ := wsx
  have pb := p100_bd (n := (H.1 2 1).toNat) (by omega)
  have vb : ∀ v : Nat, v < 21 → 0 ≤ (fun x0 => TS (upA (H.1 2) 36 ((x0 : Nat) : Int)) (H.1 0 21) (H.1 0 22) (gK 0)) v ∧ (fun x0 => TS (upA (H.1 2) 36 ((x0 : Nat) : Int)) (H.1 0 21) (H.1 0 22) (gK 0)) v ≤ 162 * 100 ^ (H.1 2 1).toNat := fun v hv => by
    have tb := TS_bd (wo := H.1 0 21) (wc := H.1 0 22) (WFS_up (i := 36) (v := ((v : Nat) : Int)) ws (by omega) ⟨by omega, by omega, by omega, by omega, by omega⟩) (gK_ok (upA (H.1 2) 36 ((v : Nat) : Int)) 0)
    rw [show (upA (H.1 2) 36 ((v : Nat) : Int)) 1 = H.1 2 1 from upA_ne (by omega)] at tb
    exact tb
  refine x_aload_n (pc := 0) dX11_wise_0 (List.Mem.head _) ?_
  refine z_iconst (pc := 1) dX11_wise_1 ?_
  refine z_putI (pc := 2) (k := 0) dX11_wise_2 lp_X11_1 sh_0 rfl ?_
  have ok1 := okI ok 0 0 (v := 0) (by decide) (by decide)
  rw [wI_same th]
  refine x_iload_n (pc := 5) dX11_wise_5 (List.Mem.tail _ (List.Mem.head _)) ?_
  refine z_i2l (pc := 6) dX11_wise_6 (by decide) (by decide) ?_
  refine z_lconst (pc := 7) 0 dX11_wise_7 rfl ?_
  refine z_lconst (pc := 8) 1 dX11_wise_8 rfl ?_
  refine z_callSbp (pc := 9) (i := mX11_within) (S := []) [.long (zL (1)), .long (zL (0)), .long (zL (1))] dX11_wise_9 ml_X11_152 ok_X11_within rfl (Or.inr rfl) (Nat.le_of_ble_eq_true rfl) (c_X11_within (d := d + 14) (v := 1) (lo := 0) (hi := 1) (v1 := (by omega)) (v2 := (by omega)) (lo1 := (by omega)) (lo2 := (by omega)) (hi1 := (by omega)) (hi2 := (by omega)) (ok := ok)) (fun hc4 ok3 => ?_) (fun hc4 ok3 => ?_)
  · skip
    refine z_if_ne (pc := 12) (tgt := 22) dX11_wise_12 (by decide) (by decide) (by decide) (fun _ => ?_) (fun h => absurd h (by decide))
    refine x_iload_n (pc := 22) dX11_wise_22 (List.Mem.tail _ (List.Mem.head _)) ?_
    refine z_if_ne (pc := 23) (tgt := 31) dX11_wise_23 (by decide) (by decide) (by decide) (fun _ => ?_) (fun h => absurd h (by decide))
    refine z_bipush (pc := 31) dX11_wise_31 bp_36 ?_
    refine x_istore_n (pc := 33) dX11_wise_33 (Nat.le_of_ble_eq_true rfl) ?_
    show Ev _ _ _ _ _ [(2, .int (zN (36))), (0, .ref 0), (1, .int (zN (1)))] _ _
    refine x_aload_n (pc := 34) dX11_wise_34 (List.Mem.tail _ (List.Mem.head _)) ?_
    refine z_getR (pc := 35) (k := 2) (r := 2) dX11_wise_35 lf_X11_17 sh_0 rfl rf_0_2 ?_
    refine x_iload_n (pc := 38) dX11_wise_38 (List.Mem.head _) ?_
    have rd7 := ok3.1 2 36
    refine z_iald (pc := 39) (j := 36) (v := H.1 2 36) dX11_wise_39 sh_2 rfl (Nat.le_of_ble_eq_true rfl) (by decide) rfl ?_
    refine x_istore_n (pc := 40) dX11_wise_40 (Nat.le_of_ble_eq_true rfl) ?_
    show Ev _ _ _ _ _ [(3, .int (zN ((H.1 2 36)))), (2, .int (zN (36))), (0, .ref 0), (1, .int (zN (1)))] _ _
    refine z_iconst (pc := 41) dX11_wise_41 ?_
    refine x_istore (pc := 42) dX11_wise_42 (Nat.le_of_ble_eq_true rfl) ?_
    show Ev _ _ _ _ _ [(4, .int (zN (0))), (3, .int (zN ((H.1 2 36)))), (2, .int (zN (36))), (0, .ref 0), (1, .int (zN (1)))] _ _
    refine z_ldc2_w (pc := 44) (-1) dX11_wise_44 cl_X11_308 (by decide) ?_
    refine x_lstore (pc := 47) dX11_wise_47 (Nat.le_of_ble_eq_true rfl) ?_
    show Ev _ _ _ _ _ [(5, .long (zL ((-1)))), (4, .int (zN (0))), (3, .int (zN ((H.1 2 36)))), (2, .int (zN (36))), (0, .ref 0), (1, .int (zN (1)))] _ _
    refine z_iconst (pc := 49) dX11_wise_49 ?_
    refine x_istore (pc := 50) dX11_wise_50 (Nat.le_of_ble_eq_true rfl) ?_
    show Ev _ _ _ _ _ [(7, .int (zN (0))), (5, .long (zL ((-1)))), (4, .int (zN (0))), (3, .int (zN ((H.1 2 36)))), (2, .int (zN (36))), (0, .ref 0), (1, .int (zN (1)))] _ _
    have lp52 : ∀ (nF : Nat) (v : Nat) (Hm : ZH), okZ Hm → (v ≤ 21) → ((∀ cc k, ¬ (cc = 2 ∧ k = 36) → ¬ (cc = 6 ∨ cc = 7 ∨ cc = 8 ∨ cc = 9 ∨ cc = 10 ∨ (cc = 0 ∧ (k = 26 ∨ k = 23))) → Hm.1 cc k = H.1 cc k) ∧ (∀ j, 42 ≤ j → Hm.1 6 j = 0) ∧ ∀ cc k, ¬ (cc = 11 ∨ cc = 12 ∨ cc = 13) → Hm.2 cc k = H.2 cc k) → 21 - v < nF → Ev zX mX11_wise (EvC zX (d + 15)) (zPi (fun (r : Int) (H1 : ZH) => r = (wsF (fun x0 => TS (upA (H.1 2) 36 ((x0 : Nat) : Int)) (H.1 0 21) (H.1 0 22) (gK 0)) 21).1 ∧ WoF H H1)) 52 [(0, .ref 0), (1, .int (zN (1))), (2, .int (zN (36))), (3, .int (zN ((H.1 2 36)))), (4, .int (zN ((wsF (fun x0 => TS (upA (H.1 2) 36 ((x0 : Nat) : Int)) (H.1 0 21) (H.1 0 22) (gK 0)) v).1))), (5, .long (zL ((wsF (fun x0 => TS (upA (H.1 2) 36 ((x0 : Nat) : Int)) (H.1 0 21) (H.1 0 22) (gK 0)) v).2))), (7, .int (zN ((v : Int))))] [] (eh Hm) := by
      intro nF
      induction nF with
      | zero => intro v Hm okl52 hv wfm hm; exact absurd hm (Nat.not_lt_zero _)
      | succ nF ih52 =>
        intro v Hm okl52 hv wfm hm
        have bb := wsF_bdn vb (by omega) v hv (by omega)
        refine x_iload (pc := 52) dX11_wise_52 (List.Mem.tail _ (List.Mem.tail _ (List.Mem.tail _ (List.Mem.tail _ (List.Mem.tail _ (List.Mem.tail _ (List.Mem.head _))))))) ?_
        refine x_iload_n (pc := 54) dX11_wise_54 (List.Mem.tail _ (List.Mem.head _)) ?_
        refine z_if_ne (pc := 55) (tgt := 63) dX11_wise_55 (by decide) (by decide) (by decide) (fun _ => ?_) (fun h => absurd h (by decide))
        refine z_bipush (pc := 63) dX11_wise_63 bp_20 ?_
        refine z_icmp_gt (pc := 65) (tgt := 113) dX11_wise_65 (by decide) (by omega) (by omega) (by decide) (by decide) (fun hb9 => ?_) (fun hb9 => ?_)
        · skip
          refine x_aload_n (pc := 113) dX11_wise_113 (List.Mem.head _) ?_
          refine z_getR (pc := 114) (k := 2) (r := 2) dX11_wise_114 lf_X11_17 sh_0 rfl rf_0_2 ?_
          refine x_iload_n (pc := 117) dX11_wise_117 (List.Mem.tail _ (List.Mem.tail _ (List.Mem.head _))) ?_
          refine x_iload_n (pc := 118) dX11_wise_118 (List.Mem.tail _ (List.Mem.tail _ (List.Mem.tail _ (List.Mem.head _)))) ?_
          refine z_iast (pc := 119) (j := 36) (v := (H.1 2 36)) dX11_wise_119 sh_2 rfl (Nat.le_of_ble_eq_true rfl) (by decide) ?_
          have ok10 := okI okl52 2 36 (v := (H.1 2 36)) (by omega) (by omega)
          refine x_iload (pc := 120) dX11_wise_120 (List.Mem.tail _ (List.Mem.tail _ (List.Mem.tail _ (List.Mem.tail _ (List.Mem.head _))))) ?_
          refine z_ireturn (pc := 122) dX11_wise_122 rfl (Or.inl rfl) ok10 (by omega) (by omega) ?_
          have wfe : WoF H (wI Hm 2 36 ((H.1 2 36))) := ⟨fun cc k h => by
              rw [wIg]
              by_cases q : cc = 2 ∧ k = 36
              · rw [if_pos q, q.1, q.2]
              · rw [if_neg q]; exact wfm.1 cc k q h
            , fun j hj => by rw [wI1c (by omega)]; exact wfm.2.1 j hj, wfm.2.2⟩
          exact ⟨by rw [show 21 = v by omega], wfe⟩
        · skip
          refine x_aload_n (pc := 68) dX11_wise_68 (List.Mem.head _) ?_
          refine z_getR (pc := 69) (k := 2) (r := 2) dX11_wise_69 lf_X11_17 sh_0 rfl rf_0_2 ?_
          refine x_iload_n (pc := 72) dX11_wise_72 (List.Mem.tail _ (List.Mem.tail _ (List.Mem.head _))) ?_
          refine x_iload (pc := 73) dX11_wise_73 (List.Mem.tail _ (List.Mem.tail _ (List.Mem.tail _ (List.Mem.tail _ (List.Mem.tail _ (List.Mem.tail _ (List.Mem.head _))))))) ?_
          refine z_iast (pc := 75) (j := 36) (v := (v : Int)) dX11_wise_75 sh_2 rfl (Nat.le_of_ble_eq_true rfl) (by decide) ?_
          have ok11 := okI okl52 2 36 (v := (v : Int)) (by omega) (by omega)
          obtain ⟨Hx, hHx⟩ : ∃ Hx, Hx = (wI Hm 2 36 ((v : Int))) := ⟨_, rfl⟩
          rw [← hHx]
          have okHx : okZ Hx := by rw [hHx]; exact ok11
          have x2 : Hx.1 2 = upA (H.1 2) 36 ((v : Nat) : Int) := by
            rw [hHx]; funext j; rw [wIp]; unfold upA
            exact if q : j = 36 then (by rw [if_pos q, if_pos q]) else (by rw [if_neg q, if_neg q]; exact wfm.1 2 j (by omega) (by omega))
          have xo : ∀ cc j, ¬ (cc = 2 ∧ j = 36) → Hx.1 cc j = Hm.1 cc j := fun cc j h => by rw [hHx, wIg]; exact if_neg h
          have xJ : Hx.2 = Hm.2 := by rw [hHx]; rfl
          have wsx2 : WFS (upA (H.1 2) 36 ((v : Nat) : Int)) := WFS_up ws (by omega) ⟨by omega, by omega, by omega, by omega, by omega⟩
          have wlx2 : WFL (upA (H.1 2) 36 ((v : Nat) : Int)) := WFL_up wl (by omega)
          have e1x : (upA (H.1 2) 36 ((v : Nat) : Int)) 1 = H.1 2 1 := upA_ne (by omega)
          refine x_aload_n (pc := 76) dX11_wise_76 (List.Mem.head _) ?_
          refine z_callVv (pc := 77) (i := mX11_worksOdds) (S := []) [] dX11_wise_77 ml_X11_296 ok_X11_worksOdds rfl sh_0 rfl rfl (Nat.le_of_ble_eq_true rfl) (c_X11_worksOdds (d := d) (ok := okHx) (ws := (by rw [x2]; exact wsx2)) (wl := (by rw [x2]; exact wlx2)) (h42 := (fun j hj => by rw [xo 6 j (by omega)]; exact wfm.2.1 j hj))) ?_
          intro H3 ok13 hp14
          obtain ⟨wf3, wsm⟩ := hp14
          rw [x2, (xo 0 21 (by omega)).trans (wfm.1 0 21 (by omega) (by omega)), (xo 0 22 (by omega)).trans (wfm.1 0 22 (by omega) (by omega))] at wsm
          have e23 := (WoF_2 wf3).trans x2
          have wfm3 : (∀ cc k, ¬ (cc = 2 ∧ k = 36) → ¬ (cc = 6 ∨ cc = 7 ∨ cc = 8 ∨ cc = 9 ∨ cc = 10 ∨ (cc = 0 ∧ (k = 26 ∨ k = 23))) → H3.1 cc k = H.1 cc k) ∧ (∀ j, 42 ≤ j → H3.1 6 j = 0) ∧ ∀ cc k, ¬ (cc = 11 ∨ cc = 12 ∨ cc = 13) → H3.2 cc k = H.2 cc k := ⟨fun cc k h1 h2 => (wf3.1 cc k h2).trans ((xo cc k h1).trans (wfm.1 cc k h1 h2)), wf3.2.1, fun cc k h => (wf3.2.2 cc k h).trans ((congrFun (congrFun xJ cc) k).trans (wfm.2.2 cc k h))⟩
          have vbn := vb v (by omega)
          have vbn2 : 0 ≤ (TS (upA (H.1 2) 36 ((v : Nat) : Int)) (H.1 0 21) (H.1 0 22) (gK 0)) ∧ (TS (upA (H.1 2) 36 ((v : Nat) : Int)) (H.1 0 21) (H.1 0 22) (gK 0)) ≤ 162 * 100 ^ (H.1 2 1).toNat := vbn
          refine x_aload_n (pc := 80) dX11_wise_80 (List.Mem.head _) ?_
          refine z_getR (pc := 81) (k := 27) (r := 11) dX11_wise_81 lf_X11_54 sh_0 rfl rf_0_27 ?_
          refine z_iconst (pc := 84) dX11_wise_84 ?_
          refine z_lald (pc := 85) (j := 0) (v := (TS (upA (H.1 2) 36 ((v : Nat) : Int)) (H.1 0 21) (H.1 0 22) (gK 0))) dX11_wise_85 sh_11 rfl (Nat.le_of_ble_eq_true rfl) (by decide) (wsm.1 0 (by omega)) ?_
          refine x_lload (pc := 86) dX11_wise_86 (List.Mem.tail _ (List.Mem.tail _ (List.Mem.tail _ (List.Mem.tail _ (List.Mem.tail _ (List.Mem.head _)))))) ?_
          refine z_lcmp_gt (pc := 88) (tgt := 95) dX11_wise_88 dX11_wise_89 (by decide) (by omega) (by omega) (by omega) (by omega) (fun hb15 => ?_) (fun hb15 => ?_)
          · skip
            refine x_aload_n (pc := 95) dX11_wise_95 (List.Mem.head _) ?_
            refine z_getR (pc := 96) (k := 27) (r := 11) dX11_wise_96 lf_X11_54 sh_0 rfl rf_0_27 ?_
            refine z_iconst (pc := 99) dX11_wise_99 ?_
            refine z_lald (pc := 100) (j := 0) (v := (TS (upA (H.1 2) 36 ((v : Nat) : Int)) (H.1 0 21) (H.1 0 22) (gK 0))) dX11_wise_100 sh_11 rfl (Nat.le_of_ble_eq_true rfl) (by decide) (wsm.1 0 (by omega)) ?_
            refine x_lstore (pc := 101) dX11_wise_101 (Nat.le_of_ble_eq_true rfl) ?_
            show Ev _ _ _ _ _ [(5, .long (zL (((TS (upA (H.1 2) 36 ((v : Nat) : Int)) (H.1 0 21) (H.1 0 22) (gK 0)))))), (0, .ref 0), (1, .int (zN (1))), (2, .int (zN (36))), (3, .int (zN ((H.1 2 36)))), (4, .int (zN ((wsF (fun x0 => TS (upA (H.1 2) 36 ((x0 : Nat) : Int)) (H.1 0 21) (H.1 0 22) (gK 0)) v).1))), (7, .int (zN ((v : Int))))] _ _
            refine x_iload (pc := 103) dX11_wise_103 (List.Mem.tail _ (List.Mem.tail _ (List.Mem.tail _ (List.Mem.tail _ (List.Mem.tail _ (List.Mem.tail _ (List.Mem.head _))))))) ?_
            refine x_istore (pc := 105) dX11_wise_105 (Nat.le_of_ble_eq_true rfl) ?_
            show Ev _ _ _ _ _ [(4, .int (zN ((v : Int)))), (5, .long (zL (((TS (upA (H.1 2) 36 ((v : Nat) : Int)) (H.1 0 21) (H.1 0 22) (gK 0)))))), (0, .ref 0), (1, .int (zN (1))), (2, .int (zN (36))), (3, .int (zN ((H.1 2 36)))), (7, .int (zN ((v : Int))))] _ _
            refine z_iinc (pc := 107) dX11_wise_107 (List.Mem.tail _ (List.Mem.tail _ (List.Mem.tail _ (List.Mem.tail _ (List.Mem.tail _ (List.Mem.tail _ (List.Mem.head _))))))) (Nat.le_of_ble_eq_true rfl) ?_
            show Ev _ _ _ _ _ [(7, .int (zN ((v : Int) + 1))), (4, .int (zN ((v : Int)))), (5, .long (zL (((TS (upA (H.1 2) 36 ((v : Nat) : Int)) (H.1 0 21) (H.1 0 22) (gK 0)))))), (0, .ref 0), (1, .int (zN (1))), (2, .int (zN (36))), (3, .int (zN ((H.1 2 36))))] _ _
            refine x_goto (pc := 110) (tgt := 52) dX11_wise_110 (by decide) ?_
            refine x_weaken (L1 := [(0, .ref 0), (1, .int (zN (1))), (2, .int (zN (36))), (3, .int (zN ((H.1 2 36)))), (4, .int (zN ((wsF (fun x0 => TS (upA (H.1 2) 36 ((x0 : Nat) : Int)) (H.1 0 21) (H.1 0 22) (gK 0)) (v + 1)).1))), (5, .long (zL ((wsF (fun x0 => TS (upA (H.1 2) 36 ((x0 : Nat) : Int)) (H.1 0 21) (H.1 0 22) (gK 0)) (v + 1)).2))), (7, .int (zN ((((v + 1) : Nat) : Int))))]) (List.forall_mem_cons.mpr ⟨(List.Mem.tail _ (List.Mem.tail _ (List.Mem.tail _ (List.Mem.head _)))), (List.forall_mem_cons.mpr ⟨(List.Mem.tail _ (List.Mem.tail _ (List.Mem.tail _ (List.Mem.tail _ (List.Mem.head _))))), (List.forall_mem_cons.mpr ⟨(List.Mem.tail _ (List.Mem.tail _ (List.Mem.tail _ (List.Mem.tail _ (List.Mem.tail _ (List.Mem.head _)))))), (List.forall_mem_cons.mpr ⟨(List.Mem.tail _ (List.Mem.tail _ (List.Mem.tail _ (List.Mem.tail _ (List.Mem.tail _ (List.Mem.tail _ (List.Mem.head _))))))), (List.forall_mem_cons.mpr ⟨(mem_ci (by show (if (wsF (fun x0 => TS (upA (H.1 2) 36 ((x0 : Nat) : Int)) (H.1 0 21) (H.1 0 22) (gK 0)) v).2 < (fun x0 => TS (upA (H.1 2) 36 ((x0 : Nat) : Int)) (H.1 0 21) (H.1 0 22) (gK 0)) v then ((v : Int), (fun x0 => TS (upA (H.1 2) 36 ((x0 : Nat) : Int)) (H.1 0 21) (H.1 0 22) (gK 0)) v) else (wsF (fun x0 => TS (upA (H.1 2) 36 ((x0 : Nat) : Int)) (H.1 0 21) (H.1 0 22) (gK 0)) v)).1 = _; first | (rw [if_pos (show (wsF (fun x0 => TS (upA (H.1 2) 36 ((x0 : Nat) : Int)) (H.1 0 21) (H.1 0 22) (gK 0)) v).2 < (TS (upA (H.1 2) 36 ((v : Nat) : Int)) (H.1 0 21) (H.1 0 22) (gK 0)) by omega)]; done) | (rw [if_neg (show ¬ (wsF (fun x0 => TS (upA (H.1 2) 36 ((x0 : Nat) : Int)) (H.1 0 21) (H.1 0 22) (gK 0)) v).2 < (TS (upA (H.1 2) 36 ((v : Nat) : Int)) (H.1 0 21) (H.1 0 22) (gK 0)) by omega)]; done)) (List.Mem.tail _ (List.Mem.head _))), (List.forall_mem_cons.mpr ⟨(mem_cl (by show (if (wsF (fun x0 => TS (upA (H.1 2) 36 ((x0 : Nat) : Int)) (H.1 0 21) (H.1 0 22) (gK 0)) v).2 < (fun x0 => TS (upA (H.1 2) 36 ((x0 : Nat) : Int)) (H.1 0 21) (H.1 0 22) (gK 0)) v then ((v : Int), (fun x0 => TS (upA (H.1 2) 36 ((x0 : Nat) : Int)) (H.1 0 21) (H.1 0 22) (gK 0)) v) else (wsF (fun x0 => TS (upA (H.1 2) 36 ((x0 : Nat) : Int)) (H.1 0 21) (H.1 0 22) (gK 0)) v)).2 = _; first | (rw [if_pos (show (wsF (fun x0 => TS (upA (H.1 2) 36 ((x0 : Nat) : Int)) (H.1 0 21) (H.1 0 22) (gK 0)) v).2 < (TS (upA (H.1 2) 36 ((v : Nat) : Int)) (H.1 0 21) (H.1 0 22) (gK 0)) by omega)]; done) | (rw [if_neg (show ¬ (wsF (fun x0 => TS (upA (H.1 2) 36 ((x0 : Nat) : Int)) (H.1 0 21) (H.1 0 22) (gK 0)) v).2 < (TS (upA (H.1 2) 36 ((v : Nat) : Int)) (H.1 0 21) (H.1 0 22) (gK 0)) by omega)]; done)) (List.Mem.tail _ (List.Mem.tail _ (List.Mem.head _)))), (List.forall_mem_cons.mpr ⟨(mem_ci (by omega) (List.Mem.head _)), (fun _ h => absurd h List.not_mem_nil)⟩)⟩)⟩)⟩)⟩)⟩)⟩) ?_
            exact ih52 ((v + 1)) H3 ok13 (by omega) (wfm3) (by omega)
          · skip
            refine x_goto (pc := 92) (tgt := 107) dX11_wise_92 (by decide) ?_
            refine z_iinc (pc := 107) dX11_wise_107 (List.Mem.tail _ (List.Mem.tail _ (List.Mem.tail _ (List.Mem.tail _ (List.Mem.tail _ (List.Mem.tail _ (List.Mem.head _))))))) (Nat.le_of_ble_eq_true rfl) ?_
            show Ev _ _ _ _ _ [(7, .int (zN ((v : Int) + 1))), (0, .ref 0), (1, .int (zN (1))), (2, .int (zN (36))), (3, .int (zN ((H.1 2 36)))), (4, .int (zN ((wsF (fun x0 => TS (upA (H.1 2) 36 ((x0 : Nat) : Int)) (H.1 0 21) (H.1 0 22) (gK 0)) v).1))), (5, .long (zL ((wsF (fun x0 => TS (upA (H.1 2) 36 ((x0 : Nat) : Int)) (H.1 0 21) (H.1 0 22) (gK 0)) v).2)))] _ _
            refine x_goto (pc := 110) (tgt := 52) dX11_wise_110 (by decide) ?_
            refine x_weaken (L1 := [(0, .ref 0), (1, .int (zN (1))), (2, .int (zN (36))), (3, .int (zN ((H.1 2 36)))), (4, .int (zN ((wsF (fun x0 => TS (upA (H.1 2) 36 ((x0 : Nat) : Int)) (H.1 0 21) (H.1 0 22) (gK 0)) (v + 1)).1))), (5, .long (zL ((wsF (fun x0 => TS (upA (H.1 2) 36 ((x0 : Nat) : Int)) (H.1 0 21) (H.1 0 22) (gK 0)) (v + 1)).2))), (7, .int (zN ((((v + 1) : Nat) : Int))))]) (List.forall_mem_cons.mpr ⟨(List.Mem.tail _ (List.Mem.head _)), (List.forall_mem_cons.mpr ⟨(List.Mem.tail _ (List.Mem.tail _ (List.Mem.head _))), (List.forall_mem_cons.mpr ⟨(List.Mem.tail _ (List.Mem.tail _ (List.Mem.tail _ (List.Mem.head _)))), (List.forall_mem_cons.mpr ⟨(List.Mem.tail _ (List.Mem.tail _ (List.Mem.tail _ (List.Mem.tail _ (List.Mem.head _))))), (List.forall_mem_cons.mpr ⟨(mem_ci (by show (if (wsF (fun x0 => TS (upA (H.1 2) 36 ((x0 : Nat) : Int)) (H.1 0 21) (H.1 0 22) (gK 0)) v).2 < (fun x0 => TS (upA (H.1 2) 36 ((x0 : Nat) : Int)) (H.1 0 21) (H.1 0 22) (gK 0)) v then ((v : Int), (fun x0 => TS (upA (H.1 2) 36 ((x0 : Nat) : Int)) (H.1 0 21) (H.1 0 22) (gK 0)) v) else (wsF (fun x0 => TS (upA (H.1 2) 36 ((x0 : Nat) : Int)) (H.1 0 21) (H.1 0 22) (gK 0)) v)).1 = _; first | (rw [if_pos (show (wsF (fun x0 => TS (upA (H.1 2) 36 ((x0 : Nat) : Int)) (H.1 0 21) (H.1 0 22) (gK 0)) v).2 < (TS (upA (H.1 2) 36 ((v : Nat) : Int)) (H.1 0 21) (H.1 0 22) (gK 0)) by omega)]; done) | (rw [if_neg (show ¬ (wsF (fun x0 => TS (upA (H.1 2) 36 ((x0 : Nat) : Int)) (H.1 0 21) (H.1 0 22) (gK 0)) v).2 < (TS (upA (H.1 2) 36 ((v : Nat) : Int)) (H.1 0 21) (H.1 0 22) (gK 0)) by omega)]; done)) (List.Mem.tail _ (List.Mem.tail _ (List.Mem.tail _ (List.Mem.tail _ (List.Mem.tail _ (List.Mem.head _))))))), (List.forall_mem_cons.mpr ⟨(mem_cl (by show (if (wsF (fun x0 => TS (upA (H.1 2) 36 ((x0 : Nat) : Int)) (H.1 0 21) (H.1 0 22) (gK 0)) v).2 < (fun x0 => TS (upA (H.1 2) 36 ((x0 : Nat) : Int)) (H.1 0 21) (H.1 0 22) (gK 0)) v then ((v : Int), (fun x0 => TS (upA (H.1 2) 36 ((x0 : Nat) : Int)) (H.1 0 21) (H.1 0 22) (gK 0)) v) else (wsF (fun x0 => TS (upA (H.1 2) 36 ((x0 : Nat) : Int)) (H.1 0 21) (H.1 0 22) (gK 0)) v)).2 = _; first | (rw [if_pos (show (wsF (fun x0 => TS (upA (H.1 2) 36 ((x0 : Nat) : Int)) (H.1 0 21) (H.1 0 22) (gK 0)) v).2 < (TS (upA (H.1 2) 36 ((v : Nat) : Int)) (H.1 0 21) (H.1 0 22) (gK 0)) by omega)]; done) | (rw [if_neg (show ¬ (wsF (fun x0 => TS (upA (H.1 2) 36 ((x0 : Nat) : Int)) (H.1 0 21) (H.1 0 22) (gK 0)) v).2 < (TS (upA (H.1 2) 36 ((v : Nat) : Int)) (H.1 0 21) (H.1 0 22) (gK 0)) by omega)]; done)) (List.Mem.tail _ (List.Mem.tail _ (List.Mem.tail _ (List.Mem.tail _ (List.Mem.tail _ (List.Mem.tail _ (List.Mem.head _)))))))), (List.forall_mem_cons.mpr ⟨(mem_ci (by omega) (List.Mem.head _)), (fun _ h => absurd h List.not_mem_nil)⟩)⟩)⟩)⟩)⟩)⟩)⟩) ?_
            exact ih52 ((v + 1)) H3 ok13 (by omega) (wfm3) (by omega)
    refine x_weaken (L1 := [(0, .ref 0), (1, .int (zN (1))), (2, .int (zN (36))), (3, .int (zN ((H.1 2 36)))), (4, .int (zN ((wsF (fun x0 => TS (upA (H.1 2) 36 ((x0 : Nat) : Int)) (H.1 0 21) (H.1 0 22) (gK 0)) 0).1))), (5, .long (zL ((wsF (fun x0 => TS (upA (H.1 2) 36 ((x0 : Nat) : Int)) (H.1 0 21) (H.1 0 22) (gK 0)) 0).2))), (7, .int (zN (((0 : Nat) : Int))))]) (List.forall_mem_cons.mpr ⟨(List.Mem.tail _ (List.Mem.tail _ (List.Mem.tail _ (List.Mem.tail _ (List.Mem.tail _ (List.Mem.head _)))))), (List.forall_mem_cons.mpr ⟨(List.Mem.tail _ (List.Mem.tail _ (List.Mem.tail _ (List.Mem.tail _ (List.Mem.tail _ (List.Mem.tail _ (List.Mem.head _))))))), (List.forall_mem_cons.mpr ⟨(List.Mem.tail _ (List.Mem.tail _ (List.Mem.tail _ (List.Mem.tail _ (List.Mem.head _))))), (List.forall_mem_cons.mpr ⟨(List.Mem.tail _ (List.Mem.tail _ (List.Mem.tail _ (List.Mem.head _)))), (List.forall_mem_cons.mpr ⟨(mem_ci (rfl) (List.Mem.tail _ (List.Mem.tail _ (List.Mem.head _)))), (List.forall_mem_cons.mpr ⟨(mem_cl (rfl) (List.Mem.tail _ (List.Mem.head _))), (List.forall_mem_cons.mpr ⟨(mem_ci (by omega) (List.Mem.head _)), (fun _ h => absurd h List.not_mem_nil)⟩)⟩)⟩)⟩)⟩)⟩)⟩) ?_
    exact lp52 (21 - 0 + 1) (0) H ok3 (by omega) (⟨fun _ _ _ _ => rfl, h42, fun _ _ _ => rfl⟩) (Nat.lt_succ_self _)
  · skip
    exact absurd (by decide) hc4

theorem c_X11_wise_x {d : Nat} {H : ZH} (ok : okZ H) {what : Int} (hne : ¬ (0 ≤ what ∧ what ≤ 1)) (what1 : -2147483648 ≤ what) (what2 : what ≤ 2147483647) (cm : cntOK H 1) (th : H.1 0 0 = 0) : EvC zX (d + 16) mX11_wise [.ref 0, .int (zN (what))] (eh H) (zPi (fun (r : Int) (H1 : ZH) => r = -2 ∧ H1 = bumpM 0 H)) := by
  show _ ∧ Ev zX mX11_wise (EvC zX (d + 15)) (zPi (fun (r : Int) (H1 : ZH) => r = -2 ∧ H1 = bumpM 0 H)) 0 [(0, .ref 0), (1, .int (zN (what)))] [] (eh H)
  refine ⟨Nat.le_of_ble_eq_true rfl, ?_⟩
  refine x_aload_n (pc := 0) dX11_wise_0 (List.Mem.head _) ?_
  refine z_iconst (pc := 1) dX11_wise_1 ?_
  refine z_putI (pc := 2) (k := 0) dX11_wise_2 lp_X11_1 sh_0 rfl ?_
  have ok1 := okI ok 0 0 (v := 0) (by decide) (by decide)
  rw [wI_same th]
  refine x_iload_n (pc := 5) dX11_wise_5 (List.Mem.tail _ (List.Mem.head _)) ?_
  refine z_i2l (pc := 6) dX11_wise_6 (by omega) (by omega) ?_
  refine z_lconst (pc := 7) 0 dX11_wise_7 rfl ?_
  refine z_lconst (pc := 8) 1 dX11_wise_8 rfl ?_
  refine z_callSbp (pc := 9) (i := mX11_within) (S := []) [.long (zL (what)), .long (zL (0)), .long (zL (1))] dX11_wise_9 ml_X11_152 ok_X11_within rfl (Or.inr rfl) (Nat.le_of_ble_eq_true rfl) (c_X11_within (d := d + 14) (v := what) (lo := 0) (hi := 1) (v1 := (by omega)) (v2 := (by omega)) (lo1 := (by omega)) (lo2 := (by omega)) (hi1 := (by omega)) (hi2 := (by omega)) (ok := ok)) (fun hc4 ok3 => ?_) (fun hc4 ok3 => ?_)
  · skip
    exact absurd hc4 hne
  · skip
    refine z_if_ne (pc := 12) (tgt := 22) dX11_wise_12 (by decide) (by decide) (by decide) (fun h => absurd h (by decide)) (fun _ => ?_)
    refine x_aload_n (pc := 15) dX11_wise_15 (List.Mem.head _) ?_
    refine z_bipush (pc := 16) dX11_wise_16 bp_m2 ?_
    refine z_callVip (pc := 18) (i := mX11_no) (S := []) [.int (zN ((-2)))] dX11_wise_18 ml_X11_89 ok_X11_no rfl sh_0 rfl (Or.inl rfl) (Nat.le_of_ble_eq_true rfl) (c_X11_no (d := d + 14) (code := ((-2))) (code1 := (by omega)) (code2 := (by omega)) (ok := ok3) (cn := (by first | assumption | omega))) (fun r6a r6b ok7 => ?_)
    show Ev _ _ _ _ _ _ _ (eh (wI H 1 ((refIx ((-2)))) (H.1 1 (refIx ((-2))) + 1)))
    refine z_ireturn (pc := 21) dX11_wise_21 rfl (Or.inl rfl) ok7 (by omega) (by omega) ?_
    exact ⟨rfl, rfl⟩

theorem c_X11_blame {d : Nat} {H : ZH} (ok : okZ H) {c what : Int} (c1 : -2147483648 ≤ c) (c2 : c ≤ 2147483647) (what1 : -2147483648 ≤ what) (what2 : what ≤ 2147483647) (cm : cntOK H 1) (th : H.1 0 0 = 0) (ws : WFS (H.1 2)) (wl : WFL (H.1 2)) (h42 : ∀ j, 42 ≤ j → H.1 6 j = 0) : EvC zX (d + 16) mX11_blame [.ref 0, .int (zN (c)), .int (zN (what))] (eh H) (zPl (fun (r : Int) (H1 : ZH) => (((0 ≤ c ∧ c ≤ H.1 2 1 - 1) ∧ (0 ≤ what ∧ what ≤ 1)) ∧ r = (if what = 0 then (TS (H.1 2) (H.1 0 21) (H.1 0 22) (gB c.toNat)) else (TS (H.1 2) (H.1 0 21) (H.1 0 22) (gS c.toNat))) ∧ WoF H H1) ∨ (¬ ((0 ≤ c ∧ c ≤ H.1 2 1 - 1) ∧ (0 ≤ what ∧ what ≤ 1)) ∧ r = -2 ∧ H1 = bumpM 0 H))) := by
  show _ ∧ Ev zX mX11_blame (EvC zX (d + 15)) (zPl (fun (r : Int) (H1 : ZH) => (((0 ≤ c ∧ c ≤ H.1 2 1 - 1) ∧ (0 ≤ what ∧ what ≤ 1)) ∧ r = (if what = 0 then (TS (H.1 2) (H.1 0 21) (H.1 0 22) (gB c.toNat)) else (TS (H.1 2) (H.1 0 21) (H.1 0 22) (gS c.toNat))) ∧ WoF H H1) ∨ (¬ ((0 ≤ c ∧ c ≤ H.1 2 1 - 1) ∧ (0 ≤ what ∧ what ≤ 1)) ∧ r = -2 ∧ H1 = bumpM 0 H))) 0 [(0, .ref 0), (1, .int (zN (c))), (2, .int (zN (what)))] [] (eh H)
  refine ⟨Nat.le_of_ble_eq_true rfl, ?_⟩
  have wsx := ws
  obtain ⟨ws0, ws1, wsC, ws34, ws35, ws36, ws37, ws38, ws39⟩ := wsx
  have pb := p100_bd (n := (H.1 2 1).toNat) (by omega)
  refine x_aload_n (pc := 0) dX11_blame_0 (List.Mem.head _) ?_
  refine z_iconst (pc := 1) dX11_blame_1 ?_
  refine z_putI (pc := 2) (k := 0) dX11_blame_2 lp_X11_1 sh_0 rfl ?_
  have ok1 := okI ok 0 0 (v := 0) (by decide) (by decide)
  rw [wI_same th]
  refine x_aload_n (pc := 5) dX11_blame_5 (List.Mem.head _) ?_
  refine x_iload_n (pc := 6) dX11_blame_6 (List.Mem.tail _ (List.Mem.head _)) ?_
  refine z_callVbp (pc := 7) (i := mX11_isCar) (S := []) [.int (zN (c))] dX11_blame_7 ml_X11_210 ok_X11_isCar rfl sh_0 rfl (Or.inr rfl) (Nat.le_of_ble_eq_true rfl) (c_X11_isCar (d := d + 13) (a := c) (a1 := (by omega)) (a2 := (by omega)) (ok := ok) (ws := (by first | assumption | omega))) (fun hc4 ok3 => ?_) (fun hc4 ok3 => ?_)
  · skip
    refine z_if_eq (pc := 10) (tgt := 23) dX11_blame_10 (by decide) (by decide) (by decide) (fun h => absurd h (by decide)) (fun _ => ?_)
    refine x_iload_n (pc := 13) dX11_blame_13 (List.Mem.tail _ (List.Mem.tail _ (List.Mem.head _))) ?_
    refine z_i2l (pc := 14) dX11_blame_14 (by omega) (by omega) ?_
    refine z_lconst (pc := 15) 0 dX11_blame_15 rfl ?_
    refine z_lconst (pc := 16) 1 dX11_blame_16 rfl ?_
    refine z_callSbp (pc := 17) (i := mX11_within) (S := []) [.long (zL (what)), .long (zL (0)), .long (zL (1))] dX11_blame_17 ml_X11_152 ok_X11_within rfl (Or.inr rfl) (Nat.le_of_ble_eq_true rfl) (c_X11_within (d := d + 14) (v := what) (lo := 0) (hi := 1) (v1 := (by omega)) (v2 := (by omega)) (lo1 := (by omega)) (lo2 := (by omega)) (hi1 := (by omega)) (hi2 := (by omega)) (ok := ok3)) (fun hc8 ok7 => ?_) (fun hc8 ok7 => ?_)
    · skip
      refine z_if_ne (pc := 20) (tgt := 31) dX11_blame_20 (by decide) (by decide) (by decide) (fun _ => ?_) (fun h => absurd h (by decide))
      refine x_aload_n (pc := 31) dX11_blame_31 (List.Mem.head _) ?_
      refine z_callVv (pc := 32) (i := mX11_worksOdds) (S := []) [] dX11_blame_32 ml_X11_296 ok_X11_worksOdds rfl sh_0 rfl rfl (Nat.le_of_ble_eq_true rfl) (c_X11_worksOdds (d := d) (ok := ok7) (ws := ws) (wl := wl) (h42 := h42)) ?_
      intro Hm ok11 hp12
      obtain ⟨wf, wsm⟩ := hp12
      have e2 := WoF_2 wf
      have tb := TS_bd (wo := H.1 0 21) (wc := H.1 0 22) ws (gB_ok (H.1 2) c.toNat)
      have tb2 := TS_bd (wo := H.1 0 21) (wc := H.1 0 22) ws (gS_ok (H.1 2) c.toNat)
      refine x_iload_n (pc := 35) dX11_blame_35 (List.Mem.tail _ (List.Mem.tail _ (List.Mem.head _))) ?_
      refine z_if_ne (pc := 36) (tgt := 48) dX11_blame_36 (by decide) (by omega) (by omega) (fun hb13 => ?_) (fun hb13 => ?_)
      · skip
        refine x_aload_n (pc := 48) dX11_blame_48 (List.Mem.head _) ?_
        refine z_getR (pc := 49) (k := 29) (r := 13) dX11_blame_49 lf_X11_61 sh_0 rfl rf_0_29 ?_
        refine x_iload_n (pc := 52) dX11_blame_52 (List.Mem.tail _ (List.Mem.head _)) ?_
        refine z_lald (pc := 53) (j := c.toNat) (v := (TS (H.1 2) (H.1 0 21) (H.1 0 22) (gS c.toNat))) dX11_blame_53 sh_13 (by omega) (by omega) (by decide) (wsm.2.2 c.toNat (by omega)) ?_
        refine z_lreturn (pc := 54) dX11_blame_54 rfl ok11 (by omega) (by omega) ?_
        first | (rw [if_pos (show what = 0 by omega)]; exact Or.inl ⟨by omega, rfl, wf⟩) | (rw [if_neg (show ¬ what = 0 by omega)]; exact Or.inl ⟨by omega, rfl, wf⟩)
      · skip
        refine x_aload_n (pc := 39) dX11_blame_39 (List.Mem.head _) ?_
        refine z_getR (pc := 40) (k := 28) (r := 12) dX11_blame_40 lf_X11_58 sh_0 rfl rf_0_28 ?_
        refine x_iload_n (pc := 43) dX11_blame_43 (List.Mem.tail _ (List.Mem.head _)) ?_
        refine z_lald (pc := 44) (j := c.toNat) (v := (TS (H.1 2) (H.1 0 21) (H.1 0 22) (gB c.toNat))) dX11_blame_44 sh_12 (by omega) (by omega) (by decide) (wsm.2.1 c.toNat (by omega)) ?_
        refine x_goto (pc := 45) (tgt := 54) dX11_blame_45 (by decide) ?_
        refine z_lreturn (pc := 54) dX11_blame_54 rfl ok11 (by omega) (by omega) ?_
        first | (rw [if_pos (show what = 0 by omega)]; exact Or.inl ⟨by omega, rfl, wf⟩) | (rw [if_neg (show ¬ what = 0 by omega)]; exact Or.inl ⟨by omega, rfl, wf⟩)
    · skip
      refine z_if_ne (pc := 20) (tgt := 31) dX11_blame_20 (by decide) (by decide) (by decide) (fun h => absurd h (by decide)) (fun _ => ?_)
      refine x_aload_n (pc := 23) dX11_blame_23 (List.Mem.head _) ?_
      refine z_bipush (pc := 24) dX11_blame_24 bp_m2 ?_
      refine z_callVip (pc := 26) (i := mX11_no) (S := []) [.int (zN ((-2)))] dX11_blame_26 ml_X11_89 ok_X11_no rfl sh_0 rfl (Or.inl rfl) (Nat.le_of_ble_eq_true rfl) (c_X11_no (d := d + 14) (code := ((-2))) (code1 := (by omega)) (code2 := (by omega)) (ok := ok7) (cn := (by first | assumption | omega))) (fun r15a r15b ok16 => ?_)
      show Ev _ _ _ _ _ _ _ (eh (wI H 1 ((refIx ((-2)))) (H.1 1 (refIx ((-2))) + 1)))
      refine z_i2l (pc := 29) dX11_blame_29 (by omega) (by omega) ?_
      refine z_lreturn (pc := 30) dX11_blame_30 rfl ok16 (by omega) (by omega) ?_
      exact Or.inr ⟨by omega, rfl, rfl⟩
  · skip
    refine z_if_eq (pc := 10) (tgt := 23) dX11_blame_10 (by decide) (by decide) (by decide) (fun _ => ?_) (fun h => absurd h (by decide))
    refine x_aload_n (pc := 23) dX11_blame_23 (List.Mem.head _) ?_
    refine z_bipush (pc := 24) dX11_blame_24 bp_m2 ?_
    refine z_callVip (pc := 26) (i := mX11_no) (S := []) [.int (zN ((-2)))] dX11_blame_26 ml_X11_89 ok_X11_no rfl sh_0 rfl (Or.inl rfl) (Nat.le_of_ble_eq_true rfl) (c_X11_no (d := d + 14) (code := ((-2))) (code1 := (by omega)) (code2 := (by omega)) (ok := ok3) (cn := (by first | assumption | omega))) (fun r18a r18b ok19 => ?_)
    show Ev _ _ _ _ _ _ _ (eh (wI H 1 ((refIx ((-2)))) (H.1 1 (refIx ((-2))) + 1)))
    refine z_i2l (pc := 29) dX11_blame_29 (by omega) (by omega) ?_
    refine z_lreturn (pc := 30) dX11_blame_30 rfl ok19 (by omega) (by omega) ?_
    exact Or.inr ⟨by omega, rfl, rfl⟩

theorem c_X11_mean {d : Nat} {H : ZH} (ok : okZ H) {what : Int} (what1 : -2147483648 ≤ what) (what2 : what ≤ 2147483647) (cm : cntOK H 1) (th : H.1 0 0 = 0) (ws : WFS (H.1 2)) (wl : WFL (H.1 2)) (h42 : ∀ j, 42 ≤ j → H.1 6 j = 0) : EvC zX (d + 16) mX11_mean [.ref 0, .int (zN (what))] (eh H) (zPl (fun (r : Int) (H1 : ZH) => ((0 ≤ what ∧ what ≤ 1) ∧ r = ((if what = 0 then (TS (H.1 2) (H.1 0 21) (H.1 0 22) (gK 3)) else ((100 : Int) ^ (H.1 2 1).toNat)) / ((Int.gcd (TS (H.1 2) (H.1 0 21) (H.1 0 22) (gK 3)) ((100 : Int) ^ (H.1 2 1).toNat) : Nat) : Int)) ∧ WoF H H1) ∨ (¬ (0 ≤ what ∧ what ≤ 1) ∧ r = -2 ∧ H1 = bumpM 0 H))) := by
  show _ ∧ Ev zX mX11_mean (EvC zX (d + 15)) (zPl (fun (r : Int) (H1 : ZH) => ((0 ≤ what ∧ what ≤ 1) ∧ r = ((if what = 0 then (TS (H.1 2) (H.1 0 21) (H.1 0 22) (gK 3)) else ((100 : Int) ^ (H.1 2 1).toNat)) / ((Int.gcd (TS (H.1 2) (H.1 0 21) (H.1 0 22) (gK 3)) ((100 : Int) ^ (H.1 2 1).toNat) : Nat) : Int)) ∧ WoF H H1) ∨ (¬ (0 ≤ what ∧ what ≤ 1) ∧ r = -2 ∧ H1 = bumpM 0 H))) 0 [(0, .ref 0), (1, .int (zN (what)))] [] (eh H)
  refine ⟨Nat.le_of_ble_eq_true rfl, ?_⟩
  have wsx := ws
  obtain ⟨ws0, ws1, wsC, ws34, ws35, ws36, ws37, ws38, ws39⟩ := wsx
  have pb := p100_bd (n := (H.1 2 1).toNat) (by omega)
  refine x_aload_n (pc := 0) dX11_mean_0 (List.Mem.head _) ?_
  refine z_iconst (pc := 1) dX11_mean_1 ?_
  refine z_putI (pc := 2) (k := 0) dX11_mean_2 lp_X11_1 sh_0 rfl ?_
  have ok1 := okI ok 0 0 (v := 0) (by decide) (by decide)
  rw [wI_same th]
  refine x_iload_n (pc := 5) dX11_mean_5 (List.Mem.tail _ (List.Mem.head _)) ?_
  refine z_i2l (pc := 6) dX11_mean_6 (by omega) (by omega) ?_
  refine z_lconst (pc := 7) 0 dX11_mean_7 rfl ?_
  refine z_lconst (pc := 8) 1 dX11_mean_8 rfl ?_
  refine z_callSbp (pc := 9) (i := mX11_within) (S := []) [.long (zL (what)), .long (zL (0)), .long (zL (1))] dX11_mean_9 ml_X11_152 ok_X11_within rfl (Or.inr rfl) (Nat.le_of_ble_eq_true rfl) (c_X11_within (d := d + 14) (v := what) (lo := 0) (hi := 1) (v1 := (by omega)) (v2 := (by omega)) (lo1 := (by omega)) (lo2 := (by omega)) (hi1 := (by omega)) (hi2 := (by omega)) (ok := ok)) (fun hc4 ok3 => ?_) (fun hc4 ok3 => ?_)
  · skip
    refine z_if_ne (pc := 12) (tgt := 23) dX11_mean_12 (by decide) (by decide) (by decide) (fun _ => ?_) (fun h => absurd h (by decide))
    refine x_aload_n (pc := 23) dX11_mean_23 (List.Mem.head _) ?_
    refine z_callVv (pc := 24) (i := mX11_worksOdds) (S := []) [] dX11_mean_24 ml_X11_296 ok_X11_worksOdds rfl sh_0 rfl rfl (Nat.le_of_ble_eq_true rfl) (c_X11_worksOdds (d := d) (ok := ok3) (ws := ws) (wl := wl) (h42 := h42)) ?_
    intro Hm ok7 hp8
    obtain ⟨wf, wsm⟩ := hp8
    have e2 := WoF_2 wf
    have tb := TS_bd (wo := H.1 0 21) (wc := H.1 0 22) ws (gK_ok (H.1 2) 3)
    have gp : 0 < ((Int.gcd (TS (H.1 2) (H.1 0 21) (H.1 0 22) (gK 3)) ((100 : Int) ^ (H.1 2 1).toNat) : Nat) : Int) := by exact_mod_cast Int.gcd_pos_of_ne_zero_right _ (show (100 : Int) ^ (H.1 2 1).toNat ≠ 0 by omega)
    have gl : ((Int.gcd (TS (H.1 2) (H.1 0 21) (H.1 0 22) (gK 3)) ((100 : Int) ^ (H.1 2 1).toNat) : Nat) : Int) ≤ ((100 : Int) ^ (H.1 2 1).toNat) := Int.le_of_dvd (by omega) (Int.gcd_dvd_right ..)
    refine x_aload_n (pc := 27) dX11_mean_27 (List.Mem.head _) ?_
    refine z_getR (pc := 28) (k := 27) (r := 11) dX11_mean_28 lf_X11_54 sh_0 rfl rf_0_27 ?_
    refine z_iconst (pc := 31) dX11_mean_31 ?_
    refine z_lald (pc := 32) (j := 3) (v := (TS (H.1 2) (H.1 0 21) (H.1 0 22) (gK 3))) dX11_mean_32 sh_11 rfl (Nat.le_of_ble_eq_true rfl) (by decide) (wsm.1 3 (by omega)) ?_
    refine x_aload_n (pc := 33) dX11_mean_33 (List.Mem.head _) ?_
    refine z_callVlp (pc := 34) (i := mX11_allParts) (S := [.long (zL (((TS (H.1 2) (H.1 0 21) (H.1 0 22) (gK 3)))))]) [] dX11_mean_34 ml_X11_292 ok_X11_allParts rfl sh_0 rfl rfl (Nat.le_of_ble_eq_true rfl) (c_X11_allParts (d := d + 14) (ok := ok7) (hn8 := (show 0 ≤ Hm.1 2 1 ∧ Hm.1 2 1 ≤ 8 by rw [e2]; exact ws1))) (fun r9a r9b ok10 => ?_)
    rw [show (100 : Int) ^ (Hm.1 2 1).toNat = (100 : Int) ^ (H.1 2 1).toNat by rw [e2]]
    refine z_callSlp (pc := 37) (i := mX11_common) (S := []) [.long (zL (((TS (H.1 2) (H.1 0 21) (H.1 0 22) (gK 3))))), .long (zL (((100 : Int) ^ (H.1 2 1).toNat)))] dX11_mean_37 ml_X11_310 ok_X11_common rfl rfl (Nat.le_of_ble_eq_true rfl) (c_X11_common (d := d + 14) (a := (((TS (H.1 2) (H.1 0 21) (H.1 0 22) (gK 3))))) (b := (((100 : Int) ^ (H.1 2 1).toNat))) (a1 := (by omega)) (a2 := (by omega)) (b1 := (by omega)) (b2 := (by omega)) (ok := ok10)) (fun r11a r11b ok12 => ?_)
    refine x_lstore_n (pc := 40) dX11_mean_40 (Nat.le_of_ble_eq_true rfl) ?_
    show Ev _ _ _ _ _ [(2, .long (zL ((((Int.gcd (((TS (H.1 2) (H.1 0 21) (H.1 0 22) (gK 3)))) (((100 : Int) ^ (H.1 2 1).toNat)) : Nat) : Int))))), (0, .ref 0), (1, .int (zN (what)))] _ _
    refine x_iload_n (pc := 41) dX11_mean_41 (List.Mem.tail _ (List.Mem.tail _ (List.Mem.head _))) ?_
    refine z_if_ne (pc := 42) (tgt := 54) dX11_mean_42 (by decide) (by omega) (by omega) (fun hb13 => ?_) (fun hb13 => ?_)
    · skip
      refine x_aload_n (pc := 54) dX11_mean_54 (List.Mem.tail _ (List.Mem.head _)) ?_
      refine z_callVlp (pc := 55) (i := mX11_allParts) (S := []) [] dX11_mean_55 ml_X11_292 ok_X11_allParts rfl sh_0 rfl rfl (Nat.le_of_ble_eq_true rfl) (c_X11_allParts (d := d + 14) (ok := ok12) (hn8 := (show 0 ≤ Hm.1 2 1 ∧ Hm.1 2 1 ≤ 8 by rw [e2]; exact ws1))) (fun r14a r14b ok15 => ?_)
      rw [show (100 : Int) ^ (Hm.1 2 1).toNat = (100 : Int) ^ (H.1 2 1).toNat by rw [e2]]
      have dq1 : 0 ≤ (TS (H.1 2) (H.1 0 21) (H.1 0 22) (gK 3)) / ((Int.gcd (TS (H.1 2) (H.1 0 21) (H.1 0 22) (gK 3)) ((100 : Int) ^ (H.1 2 1).toNat) : Nat) : Int) ∧ (TS (H.1 2) (H.1 0 21) (H.1 0 22) (gK 3)) / ((Int.gcd (TS (H.1 2) (H.1 0 21) (H.1 0 22) (gK 3)) ((100 : Int) ^ (H.1 2 1).toNat) : Nat) : Int) ≤ (TS (H.1 2) (H.1 0 21) (H.1 0 22) (gK 3)) := ⟨Int.ediv_nonneg (by omega) (by omega), Int.ediv_le_self _ (by omega)⟩
      have dq2 : 0 ≤ ((100 : Int) ^ (H.1 2 1).toNat) / ((Int.gcd (TS (H.1 2) (H.1 0 21) (H.1 0 22) (gK 3)) ((100 : Int) ^ (H.1 2 1).toNat) : Nat) : Int) ∧ ((100 : Int) ^ (H.1 2 1).toNat) / ((Int.gcd (TS (H.1 2) (H.1 0 21) (H.1 0 22) (gK 3)) ((100 : Int) ^ (H.1 2 1).toNat) : Nat) : Int) ≤ ((100 : Int) ^ (H.1 2 1).toNat) := ⟨Int.ediv_nonneg (by omega) (by omega), Int.ediv_le_self _ (by omega)⟩
      refine x_lload_n (pc := 58) dX11_mean_58 (List.Mem.head _) ?_
      refine z_ldivP (pc := 59) dX11_mean_59 (by omega) (by omega) (by omega) (by omega) ?_
      refine z_lreturn (pc := 60) dX11_mean_60 rfl ok15 (by omega) (by omega) ?_
      first | (rw [if_pos (show what = 0 by omega)]; exact Or.inl ⟨by omega, rfl, wf⟩) | (rw [if_neg (show ¬ what = 0 by omega)]; exact Or.inl ⟨by omega, rfl, wf⟩)
    · skip
      refine x_aload_n (pc := 45) dX11_mean_45 (List.Mem.tail _ (List.Mem.head _)) ?_
      refine z_getR (pc := 46) (k := 27) (r := 11) dX11_mean_46 lf_X11_54 sh_0 rfl rf_0_27 ?_
      refine z_iconst (pc := 49) dX11_mean_49 ?_
      refine z_lald (pc := 50) (j := 3) (v := (TS (H.1 2) (H.1 0 21) (H.1 0 22) (gK 3))) dX11_mean_50 sh_11 rfl (Nat.le_of_ble_eq_true rfl) (by decide) (wsm.1 3 (by omega)) ?_
      refine x_goto (pc := 51) (tgt := 58) dX11_mean_51 (by decide) ?_
      have dq1 : 0 ≤ (TS (H.1 2) (H.1 0 21) (H.1 0 22) (gK 3)) / ((Int.gcd (TS (H.1 2) (H.1 0 21) (H.1 0 22) (gK 3)) ((100 : Int) ^ (H.1 2 1).toNat) : Nat) : Int) ∧ (TS (H.1 2) (H.1 0 21) (H.1 0 22) (gK 3)) / ((Int.gcd (TS (H.1 2) (H.1 0 21) (H.1 0 22) (gK 3)) ((100 : Int) ^ (H.1 2 1).toNat) : Nat) : Int) ≤ (TS (H.1 2) (H.1 0 21) (H.1 0 22) (gK 3)) := ⟨Int.ediv_nonneg (by omega) (by omega), Int.ediv_le_self _ (by omega)⟩
      have dq2 : 0 ≤ ((100 : Int) ^ (H.1 2 1).toNat) / ((Int.gcd (TS (H.1 2) (H.1 0 21) (H.1 0 22) (gK 3)) ((100 : Int) ^ (H.1 2 1).toNat) : Nat) : Int) ∧ ((100 : Int) ^ (H.1 2 1).toNat) / ((Int.gcd (TS (H.1 2) (H.1 0 21) (H.1 0 22) (gK 3)) ((100 : Int) ^ (H.1 2 1).toNat) : Nat) : Int) ≤ ((100 : Int) ^ (H.1 2 1).toNat) := ⟨Int.ediv_nonneg (by omega) (by omega), Int.ediv_le_self _ (by omega)⟩
      refine x_lload_n (pc := 58) dX11_mean_58 (List.Mem.head _) ?_
      refine z_ldivP (pc := 59) dX11_mean_59 (by omega) (by omega) (by omega) (by omega) ?_
      refine z_lreturn (pc := 60) dX11_mean_60 rfl ok12 (by omega) (by omega) ?_
      first | (rw [if_pos (show what = 0 by omega)]; exact Or.inl ⟨by omega, rfl, wf⟩) | (rw [if_neg (show ¬ what = 0 by omega)]; exact Or.inl ⟨by omega, rfl, wf⟩)
  · skip
    refine z_if_ne (pc := 12) (tgt := 23) dX11_mean_12 (by decide) (by decide) (by decide) (fun h => absurd h (by decide)) (fun _ => ?_)
    refine x_aload_n (pc := 15) dX11_mean_15 (List.Mem.head _) ?_
    refine z_bipush (pc := 16) dX11_mean_16 bp_m2 ?_
    refine z_callVip (pc := 18) (i := mX11_no) (S := []) [.int (zN ((-2)))] dX11_mean_18 ml_X11_89 ok_X11_no rfl sh_0 rfl (Or.inl rfl) (Nat.le_of_ble_eq_true rfl) (c_X11_no (d := d + 14) (code := ((-2))) (code1 := (by omega)) (code2 := (by omega)) (ok := ok3) (cn := (by first | assumption | omega))) (fun r17a r17b ok18 => ?_)
    show Ev _ _ _ _ _ _ _ (eh (wI H 1 ((refIx ((-2)))) (H.1 1 (refIx ((-2))) + 1)))
    refine z_i2l (pc := 21) dX11_mean_21 (by omega) (by omega) ?_
    refine z_lreturn (pc := 22) dX11_mean_22 rfl ok18 (by omega) (by omega) ?_
    exact Or.inr ⟨by omega, rfl, rfl⟩

theorem c_X11_repeals {d : Nat} {H : ZH} (ok : okZ H) {k : Int} (k1 : -2147483648 ≤ k) (k2 : k ≤ 2147483647) (cm : cntOK H 1) (th : H.1 0 0 = 0) (ws : WFS (H.1 2)) (wl : WFL (H.1 2)) (h42 : ∀ j, 42 ≤ j → H.1 6 j = 0) (h21 : H.1 0 21 = -1) : EvC zX (d + 17) mX11_repeals [.ref 0, .int (zN (k))] (eh H) (zPl (fun (r : Int) (H1 : ZH) => ((0 ≤ k ∧ k ≤ H.1 2 40 - 1) ∧ r = ((TS (H.1 2) k (H.1 0 22) (gK 0)) - TS (H.1 2) (-1) (H.1 0 22) (gK 0)) ∧ WoF H H1) ∨ (¬ (0 ≤ k ∧ k ≤ H.1 2 40 - 1) ∧ r = -2 ∧ H1 = bumpM 0 H))) := by
  show _ ∧ Ev zX mX11_repeals (EvC zX (d + 16)) (zPl (fun (r : Int) (H1 : ZH) => ((0 ≤ k ∧ k ≤ H.1 2 40 - 1) ∧ r = ((TS (H.1 2) k (H.1 0 22) (gK 0)) - TS (H.1 2) (-1) (H.1 0 22) (gK 0)) ∧ WoF H H1) ∨ (¬ (0 ≤ k ∧ k ≤ H.1 2 40 - 1) ∧ r = -2 ∧ H1 = bumpM 0 H))) 0 [(0, .ref 0), (1, .int (zN (k)))] [] (eh H)
  refine ⟨Nat.le_of_ble_eq_true rfl, ?_⟩
  have wsx := ws
  obtain ⟨ws0, ws1, wsC, ws34, ws35, ws36, ws37, ws38, ws39⟩ := wsx
  have pb := p100_bd (n := (H.1 2 1).toNat) (by omega)
  have wl40 := wl.1
  refine x_aload_n (pc := 0) dX11_repeals_0 (List.Mem.head _) ?_
  refine z_iconst (pc := 1) dX11_repeals_1 ?_
  refine z_putI (pc := 2) (k := 0) dX11_repeals_2 lp_X11_1 sh_0 rfl ?_
  have ok1 := okI ok 0 0 (v := 0) (by decide) (by decide)
  rw [wI_same th]
  refine x_iload_n (pc := 5) dX11_repeals_5 (List.Mem.tail _ (List.Mem.head _)) ?_
  refine z_i2l (pc := 6) dX11_repeals_6 (by omega) (by omega) ?_
  refine z_lconst (pc := 7) 0 dX11_repeals_7 rfl ?_
  refine x_aload_n (pc := 8) dX11_repeals_8 (List.Mem.head _) ?_
  refine z_getR (pc := 9) (k := 2) (r := 2) dX11_repeals_9 lf_X11_17 sh_0 rfl rf_0_2 ?_
  refine z_bipush (pc := 12) dX11_repeals_12 bp_40 ?_
  have rd2 := ok.1 2 40
  refine z_iald (pc := 14) (j := 40) (v := H.1 2 40) dX11_repeals_14 sh_2 rfl (Nat.le_of_ble_eq_true rfl) (by decide) rfl ?_
  refine z_iconst (pc := 15) dX11_repeals_15 ?_
  refine z_isub (pc := 16) dX11_repeals_16 ?_
  refine z_i2l (pc := 17) dX11_repeals_17 (by omega) (by omega) ?_
  refine z_callSbp (pc := 18) (i := mX11_within) (S := []) [.long (zL (k)), .long (zL (0)), .long (zL (((H.1 2 40) - 1)))] dX11_repeals_18 ml_X11_152 ok_X11_within rfl (Or.inr rfl) (Nat.le_of_ble_eq_true rfl) (c_X11_within (d := d + 15) (v := k) (lo := 0) (hi := (((H.1 2 40) - 1))) (v1 := (by omega)) (v2 := (by omega)) (lo1 := (by omega)) (lo2 := (by omega)) (hi1 := (by omega)) (hi2 := (by omega)) (ok := ok)) (fun hc5 ok4 => ?_) (fun hc5 ok4 => ?_)
  · skip
    refine z_if_ne (pc := 21) (tgt := 32) dX11_repeals_21 (by decide) (by decide) (by decide) (fun _ => ?_) (fun h => absurd h (by decide))
    refine x_aload_n (pc := 32) dX11_repeals_32 (List.Mem.head _) ?_
    refine x_iload_n (pc := 33) dX11_repeals_33 (List.Mem.tail _ (List.Mem.head _)) ?_
    refine z_putI (pc := 34) (k := 21) dX11_repeals_34 lp_X11_42 sh_0 rfl ?_
    have ok7 := okI ok4 0 21 (v := k) (by omega) (by omega)
    refine x_aload_n (pc := 37) dX11_repeals_37 (List.Mem.head _) ?_
    refine z_iconst (pc := 38) dX11_repeals_38 ?_
    refine z_callVl (pc := 39) (i := mX11_overIf) (S := []) [.int (zN (0))] dX11_repeals_39 ml_X11_299 ok_X11_overIf rfl sh_0 rfl rfl (Nat.le_of_ble_eq_true rfl) (c_X11_overIf (d := d) (t := 0) (ht := (by omega)) (ok := ok7) (ws := (show WFS (H.1 2) from ws)) (wl := (show WFL (H.1 2) from wl)) (h42 := (show ∀ j, 42 ≤ j → H.1 6 j = 0 from h42))) ?_
    intro r8 Hm r8a r8b ok9 hp10
    obtain ⟨er0, wf⟩ := hp10
    have er : r8 = TS (tr2 (H.1 2) 0) k (H.1 0 22) (gK 0) := er0
    rw [tr2_0 ws34.1] at er
    have e2 : Hm.1 2 = H.1 2 := (WoF_2 wf).trans (show (wI H 0 21 k).1 2 = H.1 2 from wIf (by omega))
    have tb := TS_bd (wo := k) (wc := H.1 0 22) ws (gK_ok (H.1 2) 0)
    rw [← er] at tb
    have e22 : Hm.1 0 22 = H.1 0 22 := wf.1 0 22 (by omega)
    refine x_lstore_n (pc := 42) dX11_repeals_42 (Nat.le_of_ble_eq_true rfl) ?_
    show Ev _ _ _ _ _ [(2, .long (zL (r8))), (0, .ref 0), (1, .int (zN (k)))] _ _
    refine x_aload_n (pc := 43) dX11_repeals_43 (List.Mem.tail _ (List.Mem.head _)) ?_
    refine z_iconst (pc := 44) dX11_repeals_44 ?_
    refine z_putI (pc := 45) (k := 21) dX11_repeals_45 lp_X11_42 sh_0 rfl ?_
    have ok11 := okI ok9 0 21 (v := (-1)) (by decide) (by decide)
    refine x_lload_n (pc := 48) dX11_repeals_48 (List.Mem.head _) ?_
    refine x_aload_n (pc := 49) dX11_repeals_49 (List.Mem.tail _ (List.Mem.head _)) ?_
    refine z_iconst (pc := 50) dX11_repeals_50 ?_
    refine z_callVl (pc := 51) (i := mX11_overIf) (S := [.long (zL (r8))]) [.int (zN (0))] dX11_repeals_51 ml_X11_299 ok_X11_overIf rfl sh_0 rfl rfl (Nat.le_of_ble_eq_true rfl) (c_X11_overIf (d := d) (t := 0) (ht := (by omega)) (ok := ok11) (ws := (show WFS (Hm.1 2) by rw [e2]; exact ws)) (wl := (show WFL (Hm.1 2) by rw [e2]; exact wl)) (h42 := (fun j hj => (wI1c (by omega)).trans (wf.2.1 j hj)))) ?_
    intro r12 H3 r12a r12b ok13 hp14
    obtain ⟨er20, wf2⟩ := hp14
    have er2 : r12 = TS (tr2 (Hm.1 2) 0) (-1) (Hm.1 0 22) (gK 0) := er20
    rw [e2, e22, tr2_0 ws34.1] at er2
    have tb2 := TS_bd (wo := -1) (wc := H.1 0 22) ws (gK_ok (H.1 2) 0)
    rw [← er2] at tb2
    have wf3 : WoF H H3 := ⟨fun cc j h => by
        rw [wf2.1 cc j h, wIg]
        by_cases q : cc = 0 ∧ j = 21
        · rw [if_pos q, q.1, q.2, h21]
        · rw [if_neg q, wf.1 cc j h, wIg, if_neg q]
      , wf2.2.1, fun cc j h => (wf2.2.2 cc j h).trans (wf.2.2 cc j h)⟩
    refine z_lsub (pc := 54) dX11_repeals_54 ?_
    refine z_lreturn (pc := 55) dX11_repeals_55 rfl ok13 (by omega) (by omega) ?_
    exact Or.inl ⟨by omega, by rw [er, er2], wf3⟩
  · skip
    refine z_if_ne (pc := 21) (tgt := 32) dX11_repeals_21 (by decide) (by decide) (by decide) (fun h => absurd h (by decide)) (fun _ => ?_)
    refine x_aload_n (pc := 24) dX11_repeals_24 (List.Mem.head _) ?_
    refine z_bipush (pc := 25) dX11_repeals_25 bp_m2 ?_
    refine z_callVip (pc := 27) (i := mX11_no) (S := []) [.int (zN ((-2)))] dX11_repeals_27 ml_X11_89 ok_X11_no rfl sh_0 rfl (Or.inl rfl) (Nat.le_of_ble_eq_true rfl) (c_X11_no (d := d + 15) (code := ((-2))) (code1 := (by omega)) (code2 := (by omega)) (ok := ok4) (cn := (by first | assumption | omega))) (fun r16a r16b ok17 => ?_)
    show Ev _ _ _ _ _ _ _ (eh (wI H 1 ((refIx ((-2)))) (H.1 1 (refIx ((-2))) + 1)))
    refine z_i2l (pc := 30) dX11_repeals_30 (by omega) (by omega) ?_
    refine z_lreturn (pc := 31) dX11_repeals_31 rfl ok17 (by omega) (by omega) ?_
    exact Or.inr ⟨by omega, rfl, rfl⟩

theorem c_X11_absent {d : Nat} {H : ZH} (ok : okZ H) {c : Int} (c1 : -2147483648 ≤ c) (c2 : c ≤ 2147483647) (cm : cntOK H 1) (th : H.1 0 0 = 0) (ws : WFS (H.1 2)) (wl : WFL (H.1 2)) (h42 : ∀ j, 42 ≤ j → H.1 6 j = 0) (h22 : H.1 0 22 = -1) : EvC zX (d + 16) mX11_absent [.ref 0, .int (zN (c))] (eh H) (zPl (fun (r : Int) (H1 : ZH) => ((0 ≤ c ∧ c ≤ H.1 2 1 - 1) ∧ r = (TS (H.1 2) (H.1 0 21) c (gK 1) - TS (H.1 2) (H.1 0 21) (-1) (gK 1)) ∧ WoF H H1) ∨ (¬ (0 ≤ c ∧ c ≤ H.1 2 1 - 1) ∧ r = -2 ∧ H1 = bumpM 0 H))) := by
  show _ ∧ Ev zX mX11_absent (EvC zX (d + 15)) (zPl (fun (r : Int) (H1 : ZH) => ((0 ≤ c ∧ c ≤ H.1 2 1 - 1) ∧ r = (TS (H.1 2) (H.1 0 21) c (gK 1) - TS (H.1 2) (H.1 0 21) (-1) (gK 1)) ∧ WoF H H1) ∨ (¬ (0 ≤ c ∧ c ≤ H.1 2 1 - 1) ∧ r = -2 ∧ H1 = bumpM 0 H))) 0 [(0, .ref 0), (1, .int (zN (c)))] [] (eh H)
  refine ⟨Nat.le_of_ble_eq_true rfl, ?_⟩
  have wsx := ws
  obtain ⟨ws0, ws1, wsC, ws34, ws35, ws36, ws37, ws38, ws39⟩ := wsx
  have pb := p100_bd (n := (H.1 2 1).toNat) (by omega)
  refine x_aload_n (pc := 0) dX11_absent_0 (List.Mem.head _) ?_
  refine z_iconst (pc := 1) dX11_absent_1 ?_
  refine z_putI (pc := 2) (k := 0) dX11_absent_2 lp_X11_1 sh_0 rfl ?_
  have ok1 := okI ok 0 0 (v := 0) (by decide) (by decide)
  rw [wI_same th]
  refine x_aload_n (pc := 5) dX11_absent_5 (List.Mem.head _) ?_
  refine x_iload_n (pc := 6) dX11_absent_6 (List.Mem.tail _ (List.Mem.head _)) ?_
  refine z_callVbp (pc := 7) (i := mX11_isCar) (S := []) [.int (zN (c))] dX11_absent_7 ml_X11_210 ok_X11_isCar rfl sh_0 rfl (Or.inr rfl) (Nat.le_of_ble_eq_true rfl) (c_X11_isCar (d := d + 13) (a := c) (a1 := (by omega)) (a2 := (by omega)) (ok := ok) (ws := (by first | assumption | omega))) (fun hc4 ok3 => ?_) (fun hc4 ok3 => ?_)
  · skip
    refine z_if_ne (pc := 10) (tgt := 21) dX11_absent_10 (by decide) (by decide) (by decide) (fun _ => ?_) (fun h => absurd h (by decide))
    refine x_aload_n (pc := 21) dX11_absent_21 (List.Mem.head _) ?_
    refine x_iload_n (pc := 22) dX11_absent_22 (List.Mem.tail _ (List.Mem.head _)) ?_
    refine z_putI (pc := 23) (k := 22) dX11_absent_23 lp_X11_45 sh_0 rfl ?_
    have ok6 := okI ok3 0 22 (v := c) (by omega) (by omega)
    refine x_aload_n (pc := 26) dX11_absent_26 (List.Mem.head _) ?_
    refine z_callVv (pc := 27) (i := mX11_worksOdds) (S := []) [] dX11_absent_27 ml_X11_296 ok_X11_worksOdds rfl sh_0 rfl rfl (Nat.le_of_ble_eq_true rfl) (c_X11_worksOdds (d := d) (ok := ok6) (ws := (show WFS (H.1 2) from ws)) (wl := (show WFL (H.1 2) from wl)) (h42 := (show ∀ j, 42 ≤ j → H.1 6 j = 0 from h42))) ?_
    intro Hm ok8 hp9
    obtain ⟨wf, wsm0⟩ := hp9
    have wsm : WoS Hm (H.1 2) (H.1 0 21) c := wsm0
    have e2 : Hm.1 2 = H.1 2 := (WoF_2 wf).trans (show (wI H 0 22 c).1 2 = H.1 2 from wIf (by omega))
    have tb := TS_bd (wo := H.1 0 21) (wc := c) ws (gK_ok (H.1 2) 1)
    have e21 : Hm.1 0 21 = H.1 0 21 := wf.1 0 21 (by omega)
    refine x_aload_n (pc := 30) dX11_absent_30 (List.Mem.head _) ?_
    refine z_getR (pc := 31) (k := 27) (r := 11) dX11_absent_31 lf_X11_54 sh_0 rfl rf_0_27 ?_
    refine z_iconst (pc := 34) dX11_absent_34 ?_
    refine z_lald (pc := 35) (j := 1) (v := (TS (H.1 2) (H.1 0 21) c (gK 1))) dX11_absent_35 sh_11 rfl (Nat.le_of_ble_eq_true rfl) (by decide) (wsm.1 1 (by omega)) ?_
    refine x_lstore_n (pc := 36) dX11_absent_36 (Nat.le_of_ble_eq_true rfl) ?_
    show Ev _ _ _ _ _ [(2, .long (zL (((TS (H.1 2) (H.1 0 21) c (gK 1)))))), (0, .ref 0), (1, .int (zN (c)))] _ _
    refine x_aload_n (pc := 37) dX11_absent_37 (List.Mem.tail _ (List.Mem.head _)) ?_
    refine z_iconst (pc := 38) dX11_absent_38 ?_
    refine z_putI (pc := 39) (k := 22) dX11_absent_39 lp_X11_45 sh_0 rfl ?_
    have ok10 := okI ok8 0 22 (v := (-1)) (by decide) (by decide)
    refine x_aload_n (pc := 42) dX11_absent_42 (List.Mem.tail _ (List.Mem.head _)) ?_
    refine z_callVv (pc := 43) (i := mX11_worksOdds) (S := []) [] dX11_absent_43 ml_X11_296 ok_X11_worksOdds rfl sh_0 rfl rfl (Nat.le_of_ble_eq_true rfl) (c_X11_worksOdds (d := d) (ok := ok10) (ws := (show WFS (Hm.1 2) by rw [e2]; exact ws)) (wl := (show WFL (Hm.1 2) by rw [e2]; exact wl)) (h42 := (fun j hj => (wI1c (by omega)).trans (wf.2.1 j hj)))) ?_
    intro H3 ok12 hp13
    obtain ⟨wf2, wsm20⟩ := hp13
    have wsm2 : WoS H3 (Hm.1 2) (Hm.1 0 21) (-1) := wsm20
    rw [e2, e21] at wsm2
    have tb2 := TS_bd (wo := H.1 0 21) (wc := -1) ws (gK_ok (H.1 2) 1)
    have wf3 : WoF H H3 := ⟨fun cc j h => by
        rw [wf2.1 cc j h, wIg]
        by_cases q : cc = 0 ∧ j = 22
        · rw [if_pos q, q.1, q.2, h22]
        · rw [if_neg q, wf.1 cc j h, wIg, if_neg q]
      , wf2.2.1, fun cc j h => (wf2.2.2 cc j h).trans (wf.2.2 cc j h)⟩
    refine x_lload_n (pc := 46) dX11_absent_46 (List.Mem.head _) ?_
    refine x_aload_n (pc := 47) dX11_absent_47 (List.Mem.tail _ (List.Mem.head _)) ?_
    refine z_getR (pc := 48) (k := 27) (r := 11) dX11_absent_48 lf_X11_54 sh_0 rfl rf_0_27 ?_
    refine z_iconst (pc := 51) dX11_absent_51 ?_
    refine z_lald (pc := 52) (j := 1) (v := (TS (H.1 2) (H.1 0 21) (-1) (gK 1))) dX11_absent_52 sh_11 rfl (Nat.le_of_ble_eq_true rfl) (by decide) (wsm2.1 1 (by omega)) ?_
    refine z_lsub (pc := 53) dX11_absent_53 ?_
    refine z_lreturn (pc := 54) dX11_absent_54 rfl ok12 (by omega) (by omega) ?_
    exact Or.inl ⟨by omega, rfl, wf3⟩
  · skip
    refine z_if_ne (pc := 10) (tgt := 21) dX11_absent_10 (by decide) (by decide) (by decide) (fun h => absurd h (by decide)) (fun _ => ?_)
    refine x_aload_n (pc := 13) dX11_absent_13 (List.Mem.head _) ?_
    refine z_bipush (pc := 14) dX11_absent_14 bp_m2 ?_
    refine z_callVip (pc := 16) (i := mX11_no) (S := []) [.int (zN ((-2)))] dX11_absent_16 ml_X11_89 ok_X11_no rfl sh_0 rfl (Or.inl rfl) (Nat.le_of_ble_eq_true rfl) (c_X11_no (d := d + 14) (code := ((-2))) (code1 := (by omega)) (code2 := (by omega)) (ok := ok3) (cn := (by first | assumption | omega))) (fun r15a r15b ok16 => ?_)
    show Ev _ _ _ _ _ _ _ (eh (wI H 1 ((refIx ((-2)))) (H.1 1 (refIx ((-2))) + 1)))
    refine z_i2l (pc := 19) dX11_absent_19 (by omega) (by omega) ?_
    refine z_lreturn (pc := 20) dX11_absent_20 rfl ok16 (by omega) (by omega) ?_
    exact Or.inr ⟨by omega, rfl, rfl⟩
