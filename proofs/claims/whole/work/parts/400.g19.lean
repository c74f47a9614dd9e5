/-! GROUP G19: one tick of the class; its drawn runs. -/
theorem RepRd_cg {H : ZH} {q N N1 : Nat → Int} (h8 : q 1 ≤ 8) (h : RepRd H q N) (e : ∀ j, j < 40 → N1 j = N j) : RepRd H q N1 := by
  obtain ⟨hC, a0, a1, a2, a3, a4, a5, a6, a7⟩ := h
  refine ⟨fun c hc => ?_, by rw [e 32 (by omega)]; exact a0, by rw [e 33 (by omega)]; exact a1, by rw [e 34 (by omega)]; exact a2, by rw [e 35 (by omega)]; exact a3, by rw [e 36 (by omega)]; exact a4, by rw [e 37 (by omega)]; exact a5, by rw [e 38 (by omega)]; exact a6, by rw [e 39 (by omega)]; exact a7⟩
  rw [e c (by omega), e (8 + c) (by omega), e (16 + c) (by omega), e (24 + c) (by omega)]
  exact hC c hc
theorem drw1_no {A N : Nat → Int} {wo : Int} {k : Nat} (e : N 41 = (k : Int)) (h : ask A N k = false) {j : Nat} (hj : j ≠ 41) : drw1 A wo N j = N j := by
  unfold drw1
  rw [if_neg hj, ← drd_n e h]
def dvF (A N : Nat → Int) (wo : Int) (c : Nat) : Int := if shr A N wo c = 0 then 1 else if shr A N wo c = 100 then 2 else if lcg (N 40) % 4294967296 / 65536 % 100 < shr A N wo c then 2 else 1
def xvF (A N : Nat → Int) (wo : Int) (c : Nat) : Int := if 0 < shr A N wo c ∧ shr A N wo c < 100 then lcg (N 40) else N 40
theorem drw1_ask {A N : Nat → Int} {wo : Int} {k : Nat} (wl : WFL A) (e : N 41 = (k : Int)) (hk : k < 8) (h : ask A N k = true) : drw1 A wo N (16 + k) = dvF A N wo k ∧ drw1 A wo N 40 = xvF A N wo k := by
  have b := shr_bd (N := N) (wo := wo) (c := k) wl
  unfold drw1 drd dvF xvF
  rw [e, Int.toNat_natCast, if_pos h, if_pos h, if_neg (show ¬ 16 + k = 41 by omega), if_neg (show ¬ 40 = 41 by omega)]
  rw [if_pos (show 16 + k = 16 + k from rfl), if_pos (show 16 + k = 16 + k from rfl), if_pos (show 16 + k = 16 + k from rfl), if_neg (show ¬ 40 = 16 + k by omega), if_neg (show ¬ 40 = 16 + k by omega), if_neg (show ¬ 40 = 16 + k by omega), if_pos (show 40 = 40 from rfl)]
  refine ⟨rfl, ?_⟩
  (repeat' split) <;> first | rfl | omega
/-- while its cars decide -/
def DkF (H Hm : ZH) : Prop := ∀ cc, cc ≠ 107 → cc ≠ 111 → cc ≠ 112 → Hm.1 cc = H.1 cc
theorem dk_step {H : ZH} {q M : Nat → Int} {wo X : Int} {k : Nat} (ws1 : 0 ≤ q 1 ∧ q 1 ≤ 8) (wl : WFL q) (e : M 41 = (k : Int)) (hk : (k : Int) < q 1) (h : ask q M k = true) (rd : RepRd H q M) : RepRd (wI (wI H 111 1 X) 107 k (dvF q M wo k)) q (drw1 q wo M) := by
  obtain ⟨z1, z2⟩ := drw1_ask (wo := wo) wl e (by omega) h
  have a : ∀ j, j ≠ 16 + k → j ≠ 40 → j ≠ 41 → drw1 q wo M j = M j := fun j h1 h2 h3 => drw1_at e h1 h2 h3
  obtain ⟨hC, a0, a1, a2, a3, a4, a5, a6, a7⟩ := rd
  refine ⟨fun c hc => ?_, ?_, ?_, ?_, ?_, ?_, ?_, ?_, ?_⟩
  · obtain ⟨c1, c2, c3, c4⟩ := hC c hc
    refine ⟨by rw [wI1c (by omega), wI1c (by omega), a c (by omega) (by omega) (by omega)]; exact c1, by rw [wI1c (by omega), wI1c (by omega), a (8 + c) (by omega) (by omega) (by omega)]; exact c2, ?_, by rw [wI1c (by omega), wI1c (by omega), a (24 + c) (by omega) (by omega) (by omega)]; exact c4⟩
    rw [wIp]
    by_cases y : c = k
    · subst y
      rw [if_pos rfl, z1]
    · rw [if_neg y, wI1c (by omega), a (16 + c) (by omega) (by omega) (by omega)]
      exact c3
  · rw [wI1c (by omega), wI1c (by omega), a 32 (by omega) (by omega) (by omega)]; exact a0
  · rw [wI1c (by omega), wI1c (by omega), a 33 (by omega) (by omega) (by omega)]; exact a1
  · rw [wI1c (by omega), wI1c (by omega), a 34 (by omega) (by omega) (by omega)]; exact a2
  · rw [wI1c (by omega), wI1c (by omega), a 35 (by omega) (by omega) (by omega)]; exact a3
  · rw [wI1c (by omega), wI1c (by omega), a 36 (by omega) (by omega) (by omega)]; exact a4
  · rw [wI1c (by omega), wI1c (by omega), a 37 (by omega) (by omega) (by omega)]; exact a5
  · rw [wI1c (by omega), wI1c (by omega), a 38 (by omega) (by omega) (by omega)]; exact a6
  · rw [wI1c (by omega), wI1c (by omega), a 39 (by omega) (by omega) (by omega)]; exact a7
theorem rd_tk1 {Hm Hj : ZH} {q M : Nat → Int} (h : RepRd Hm q M) (f4 : Fr4 Hm Hj) (fj : FldR Hj (tk1 q M)) (h8 : q 1 ≤ 8) : RepRd Hj q (tk1 q M) := by
  refine ⟨fun c hc => ?_, fj⟩
  rw [tk1_at (by omega), tk1_at (by omega), tk1_at (by omega), tk1_at (by omega), f4.1 105 (by omega), f4.1 106 (by omega), f4.1 107 (by omega), f4.1 108 (by omega)]
  exact h.1 c hc
theorem fld_mv {Hj H4 : ZH} {q M : Nat → Int} (fj : FldR Hj M) (mv : MvP Hj H4 q M) : FldR H4 M := by
  obtain ⟨a0, a1, a2, a3, a4, a5, a6, a7⟩ := fj
  have e := fun k (h : k ≠ 18) => mv.2.1 k h
  exact ⟨by rw [e 10 (by omega)]; exact a0, by rw [e 11 (by omega)]; exact a1, by rw [e 12 (by omega)]; exact a2, by rw [e 13 (by omega)]; exact a3, by rw [e 14 (by omega)]; exact a4, by rw [e 15 (by omega)]; exact a5, by rw [e 16 (by omega)]; exact a6, by rw [e 17 (by omega)]; exact a7⟩
/-- what a tick's second half makes of the class's road -/
def TkE (H H1 : ZH) (q N : Nat → Int) : Prop := RepRd H1 q N ∧ Perm8 (H1.1 109) (q 1).toNat ∧ (∀ cc, cc ≠ 104 → cc ≠ 105 → cc ≠ 106 → cc ≠ 108 → cc ≠ 109 → cc ≠ 110 → H1.1 cc = H.1 cc) ∧ (∀ k, k < 10 → H1.1 104 k = H.1 104 k) ∧ H1.2 = H.2
theorem tk_end {Hm Hj H4 H5 H6 : ZH} {q M : Nat → Int} (ws1 : 0 ≤ q 1 ∧ q 1 ≤ 8) (rdm : RepRd Hm q M) (f4 : Fr4 Hm Hj) (mv : MvP Hj H4 q (tk1 q M)) (f5 : Fr4 H4 H5) (f6 : Fr4 H5 H6) (fd : FldR H6 (tickF q M)) : TkE Hm H6 q (tickF q M) := by
  refine ⟨⟨fun c hc => ?_, fd⟩, ?_, fun cc h1 h2 h3 h4 h5 h6 => ?_, fun k hk => ?_, ?_⟩
  · obtain ⟨t1, t2, t3, t4⟩ := tickF_c (D := M) ws1.2 hc ws1.1
    obtain ⟨m1, m2, m3⟩ := mv.2.2.2.2.1 c hc
    rw [t1, t2, t3, t4, f6.1 105 (by omega), f6.1 106 (by omega), f6.1 107 (by omega), f6.1 108 (by omega), f5.1 105 (by omega), f5.1 106 (by omega), f5.1 107 (by omega), f5.1 108 (by omega), mv.1 107 (by omega) (by omega) (by omega) (by omega) (by omega) (by omega), f4.1 107 (by omega)]
    exact ⟨m1, m2, (rdm.1 c hc).2.2.1, m3⟩
  · rw [f6.1 109 (by omega), f5.1 109 (by omega)]; exact mv.2.2.2.1
  · rw [f6.1 cc h1, f5.1 cc h1, mv.1 cc h1 h2 h3 h4 h5 h6, f4.1 cc h1]
  · rw [f6.2.1 k hk, f5.2.1 k hk, mv.2.1 k (by omega), f4.2.1 k hk]
  · rw [f6.2.2, f5.2.2, mv.2.2.1, f4.2.2]

theorem c_X4_tick_d {d : Nat} {H : ZH} (ok : okZ H) {s : Nat} {q N : Nat → Int} (hs : isSc s) (hsc : H.1 104 1 = (s : Int)) (ws : WFS q) (rs : RepSc H s q) (wn : WFN q N) (rd : RepRd H q N) (rl : RepLw H q) (wl : WFL q) (wx : WFX q N) (he : N 37 = 0) (pm : Perm8 (H.1 109) (q 1).toNat) (e41 : N 41 = 0) (hdr : H.1 111 0 = 1) (hx : H.1 111 1 = N 40) : EvC zX (d + 5) mX4_tick [.ref 104] (eh H) (zPv (fun (H1 : ZH) => FrK H H1 ∧ RepRd H1 q (tickF q (drws q (H.1 104 3) (q 1).toNat N)) ∧ (∀ k, k < 10 → H1.1 104 k = H.1 104 k) ∧ Perm8 (H1.1 109) (q 1).toNat ∧ (∀ k, k ≠ 1 → H1.1 111 k = H.1 111 k) ∧ H1.1 112 = H.1 112 ∧ H1.2 = H.2 ∧ H1.1 111 1 = tickF q (drws q (H.1 104 3) (q 1).toNat N) 40)) := by
  show _ ∧ Ev zX mX4_tick (EvC zX (d + 4)) (zPv (fun (H1 : ZH) => FrK H H1 ∧ RepRd H1 q (tickF q (drws q (H.1 104 3) (q 1).toNat N)) ∧ (∀ k, k < 10 → H1.1 104 k = H.1 104 k) ∧ Perm8 (H1.1 109) (q 1).toNat ∧ (∀ k, k ≠ 1 → H1.1 111 k = H.1 111 k) ∧ H1.1 112 = H.1 112 ∧ H1.2 = H.2 ∧ H1.1 111 1 = tickF q (drws q (H.1 104 3) (q 1).toNat N) 40)) 0 [(0, .ref 104)] [] (eh H)
  refine ⟨Nat.le_of_ble_eq_true rfl, ?_⟩
  have hsr := isSc_r hs
  have wsx := ws
  obtain ⟨ws0, ws1, wsC, ws34, ws35, ws36, ws37, ws38, ws39⟩ := wsx
  have rsx := rs
  obtain ⟨rs0, rs1, rsC, rs34, rs35, rs36, rs37, rs38, rs39⟩ := rsx
  have wnx := wn
  obtain ⟨wnC, wn32, wn33, wn34, wn35, wn36, wn37, wn38, wn39⟩ := wnx
  have rdx := rd
  obtain ⟨rdC, rd10, rd11, rd12, rd13, rd14, rd15, rd16, rd17⟩ := rdx
  refine z_iconst (pc := 0) dX4_tick_0 ?_
  refine x_istore_n (pc := 1) dX4_tick_1 (Nat.le_of_ble_eq_true rfl) ?_
  show Ev _ _ _ _ _ [(1, .int (zN (0))), (0, .ref 104)] _ _
  have lp2 : ∀ (nF : Nat) (k : Nat) (M : Nat → Int) (Hm : ZH), okZ Hm → ((k : Int) ≤ q 1) → (M = drws q (H.1 104 3) k N) → (DkF H Hm) → (RepRd Hm q M) → ((∀ j, j ≠ 1 → Hm.1 111 j = H.1 111 j) ∧ Hm.1 112 = H.1 112 ∧ Hm.2 = H.2 ∧ Hm.1 111 1 = M 40) → (q 1).toNat - k < nF → Ev zX mX4_tick (EvC zX (d + 4)) (zPv (fun (H1 : ZH) => FrK H H1 ∧ RepRd H1 q (tickF q (drws q (H.1 104 3) (q 1).toNat N)) ∧ (∀ k, k < 10 → H1.1 104 k = H.1 104 k) ∧ Perm8 (H1.1 109) (q 1).toNat ∧ (∀ k, k ≠ 1 → H1.1 111 k = H.1 111 k) ∧ H1.1 112 = H.1 112 ∧ H1.2 = H.2 ∧ H1.1 111 1 = tickF q (drws q (H.1 104 3) (q 1).toNat N) 40)) 2 [(0, .ref 104), (1, .int (zN ((k : Int))))] [] (eh Hm) := by
    intro nF
    induction nF with
    | zero => intro k M Hm okl2 hk hM fr rdm md hm; exact absurd hm (Nat.not_lt_zero _)
    | succ nF ih2 =>
      intro k M Hm okl2 hk hM fr rdm md hm
      obtain ⟨hM41, wm, wxm, hMhi⟩ := drws_ok (wo := (H.1 104 3)) ws1.2 wn wx e41 k hk
      rw [← hM] at hM41 wm wxm hMhi
      have hM37 : M 37 = 0 := (hMhi 37 (by omega) (by omega)).trans he
      have hsm : Hm.1 104 1 = (s : Int) := (congrFun (fr 104 (by omega) (by omega) (by omega)) 1).trans hsc
      have es : ∀ cc, s ≤ cc → cc ≤ s + 4 → Hm.1 cc = H.1 cc := fun cc a b => fr cc (by omega) (by omega) (by omega)
      have rsm := RepSc_e es rs
      have rlm := RepLw_e (fun cc a => fr cc (by omega) (by omega) (by omega)) rl
      obtain ⟨wmC, wm32, wm33, wm34, wm35, wm36, wm37, wm38, wm39⟩ := (show WFN q M from wm)
      have fdm : FldR Hm M := rdm.2
      have e3 : Hm.1 104 3 = H.1 104 3 := congrFun (fr 104 (by omega) (by omega) (by omega)) 3
      refine x_iload_n (pc := 2) dX4_tick_2 (List.Mem.tail _ (List.Mem.head _)) ?_
      refine x_aload_n (pc := 3) dX4_tick_3 (List.Mem.head _) ?_
      refine z_getY (pc := 4) (k := 1) (r := s) dX4_tick_4 lf_X4_42 sh_104 rfl (by rw [hsm]) (by omega) ?_
      refine z_getI (pc := 7) (k := 1) (v := (q 1)) dX4_tick_7 lf_X4_56 (sh_Sc0 hs) rfl (by rw [es s (by omega) (by omega)]; exact rs1) ?_
      refine z_icmp_ge (pc := 10) (tgt := 58) dX4_tick_10 (by decide) (by omega) (by omega) (by omega) (by omega) (fun hb1 => ?_) (fun hb1 => ?_)
      · skip
        have jn107 : ∀  (Hj : ZH), okZ Hj → (Fr4 Hm Hj) → (FldR Hj (tk1 q M)) → Ev zX mX4_tick (EvC zX (d + 4)) (zPv (fun (H1 : ZH) => FrK H H1 ∧ RepRd H1 q (tickF q (drws q (H.1 104 3) (q 1).toNat N)) ∧ (∀ k, k < 10 → H1.1 104 k = H.1 104 k) ∧ Perm8 (H1.1 109) (q 1).toNat ∧ (∀ k, k ≠ 1 → H1.1 111 k = H.1 111 k) ∧ H1.1 112 = H.1 112 ∧ H1.2 = H.2 ∧ H1.1 111 1 = tickF q (drws q (H.1 104 3) (q 1).toNat N) 40)) 107 [(0, .ref 104)] [] (eh Hj) := by
          intro Hj okj107 f4 fj
          refine x_aload_n (pc := 107) dX4_tick_107 (List.Mem.head _) ?_
          refine z_callVv (pc := 108) (i := mX4_moveCars) (S := []) [] dX4_tick_108 ml_X4_102 ok_X4_moveCars rfl sh_104 rfl rfl (Nat.le_of_ble_eq_true rfl) (c_X4_moveCars (d := d + 1) (s := s) (q := q) (N := (tk1 q M)) (ok := okj107) (hs := hs) (hsc := ((f4.2.1 1 (by omega)).trans hsm)) (ws := ws) (rs := (RepSc_e (fun cc a b => f4.1 cc (by omega)) rsm)) (wn := (tk1_wfn wm ws1.2)) (h0 := (fun c hc => by rw [tk1_at (by omega), tk1_at (by omega)]; exact wxm.1 c hc)) (rd := (rd_tk1 rdm f4 fj ws1.2)) (pm := (by rw [f4.1 109 (by omega), fr 109 (by omega) (by omega) (by omega)]; exact pm))) ?_
          intro H4 ok3 hp4
          have mv := hp4
          have e4 : ∀ cc, s ≤ cc → cc ≤ s + 4 → H4.1 cc = Hm.1 cc := fun cc a b => (mv.1 cc (by omega) (by omega) (by omega) (by omega) (by omega) (by omega)).trans (f4.1 cc (by omega))
          refine x_aload_n (pc := 111) dX4_tick_111 (List.Mem.head _) ?_
          refine z_callVv (pc := 112) (i := mX4_goOver) (S := []) [] dX4_tick_112 ml_X4_105 ok_X4_goOver rfl sh_104 rfl rfl (Nat.le_of_ble_eq_true rfl) (c_X4_goOver (d := d + 2) (s := s) (q := q) (M := (tk1 q M)) (ok := ok3) (hs := hs) (hsc := ((mv.2.1 1 (by omega)).trans ((f4.2.1 1 (by omega)).trans hsm))) (ws := ws) (rs := (RepSc_e e4 rsm)) (wm := (tk1_wfn wm ws1.2)) (fd := (fld_mv fj mv)) (hS := (fun c hc => (mv.2.2.2.2.1 c hc).2.1)) (hk := mv.2.2.2.2.2) (hl := (fun _ => by rw [tk1_at (by omega)]; exact wxm.2.1 hM37))) ?_
          intro H5 ok6 hp7
          obtain ⟨fd5, f5⟩ := hp7
          have r32 := ok6.1 104 10
          rw [fd5.1] at r32
          have r33 := ok6.1 104 11
          rw [fd5.2.1] at r33
          have r37 := ok6.1 104 15
          rw [fd5.2.2.2.2.2.1] at r37
          have p35 : (tk2 q (tk1 q M)) 35 = M 35 := by rw [tk2_at (by omega), mvN_hi ws1.2 (by omega), tk1_at (by omega)]
          have p36 : (tk2 q (tk1 q M)) 36 = M 36 := by rw [tk2_at (by omega), mvN_hi ws1.2 (by omega), tk1_at (by omega)]
          have x36 := wxm.2.2.2.2.2 hM37
          refine x_aload_n (pc := 115) dX4_tick_115 (List.Mem.head _) ?_
          refine z_getI (pc := 116) (k := 10) (v := ((tk2 q (tk1 q M)) 32)) dX4_tick_116 lf_X4_61 sh_104 rfl fd5.1 ?_
          refine z_if_ne (pc := 119) (tgt := 139) dX4_tick_119 (by decide) (by omega) (by omega) (fun hb8 => ?_) (fun hb8 => ?_)
          · skip
            refine x_aload_n (pc := 139) dX4_tick_139 (List.Mem.head _) ?_
            refine x_dup (pc := 140) dX4_tick_140 rfl ?_
            refine z_getI (pc := 141) (k := 14) (v := ((tk2 q (tk1 q M)) 36)) dX4_tick_141 lf_X4_74 sh_104 rfl (by first | exact fd5.2.2.2.2.1 | (rw [wI1k (by omega)]; exact fd5.2.2.2.2.1)) ?_
            refine z_iconst (pc := 144) dX4_tick_144 ?_
            refine z_iadd (pc := 145) dX4_tick_145 ?_
            refine z_putI (pc := 146) (k := 14) dX4_tick_146 lp_X4_74 sh_104 rfl ?_
            have ok9 := okI ok6 104 14 (v := ((((tk2 q (tk1 q M)) 36)) + 1)) (by omega) (by omega)
            refine x_aload_n (pc := 149) dX4_tick_149 (List.Mem.head _) ?_
            refine z_getI (pc := 150) (k := 15) (v := ((tk2 q (tk1 q M)) 37)) dX4_tick_150 lf_X4_77 sh_104 rfl (by first | (rw [wI1k (by omega)]; exact fd5.2.2.2.2.2.1) | (rw [wI1k (by omega), wI1k (by omega)]; exact fd5.2.2.2.2.2.1)) ?_
            refine z_if_ne (pc := 153) (tgt := 170) dX4_tick_153 (by decide) (by omega) (by omega) (fun hb10 => ?_) (fun hb10 => ?_)
            · skip
              refine z_vreturn (pc := 170) dX4_tick_170 rfl ok9 ?_
              have eT : tickF q M = tk3 (tk2 q (tk1 q M)) := rfl
              have f6 : Fr4 H5 (wI H5 104 14 (((((tk2 q (tk1 q M)) 36)) + 1))) := by repeat' first | exact Fr4_0 _ | refine Fr4_I ?_ (by omega)
              have fd6 : FldR (wI H5 104 14 (((((tk2 q (tk1 q M)) 36)) + 1))) (tickF q M) := by
                rw [eT]
                refine ⟨?_, ?_, ?_, ?_, ?_, ?_, ?_, ?_⟩
                · show _ = _
                  rw [wI1k (by omega)]
                  exact fd5.1
                · show _ = _
                  rw [wI1k (by omega)]
                  exact fd5.2.1
                · show _ = _
                  rw [wI1k (by omega)]
                  exact fd5.2.2.1
                · show _ = _
                  rw [wI1k (by omega)]
                  show _ = (tk2 q (tk1 q M)) 35 + (if (tk2 q (tk1 q M)) 33 = 0 ∧ (tk2 q (tk1 q M)) 32 = 0 then 1 else 0)
                  rw [if_neg (by omega), Int.add_zero]; exact fd5.2.2.2.1
                · show _ = _
                  rw [wI1]
                  rfl
                · show _ = _
                  rw [wI1k (by omega)]
                  show _ = (if (tk2 q (tk1 q M)) 37 = 0 ∧ (tk2 q (tk1 q M)) 36 + 1 = 99 then 3 else (tk2 q (tk1 q M)) 37)
                  rw [if_neg (by omega)]; exact fd5.2.2.2.2.2.1
                · show _ = _
                  rw [wI1k (by omega)]
                  exact fd5.2.2.2.2.2.2.1
                · show _ = _
                  rw [wI1k (by omega)]
                  exact fd5.2.2.2.2.2.2.2
              have te := tk_end ws1 rdm f4 mv f5 f6 fd6
              have eM : M = drws q (H.1 104 3) (q 1).toNat N := by rw [hM, show (q 1).toNat = k by omega]
              have e40 : tickF q M 40 = M 40 := (tickF_wf ws1 ws0 wm wxm hM37).2.2.2
              obtain ⟨t1, t2, t3, t4, t5⟩ := te
              rw [← eM]
              refine ⟨⟨fun c j hc => ?_, fun c j hc => ?_⟩, t1, fun j hj => (t4 j hj).trans (congrFun (fr 104 (by omega) (by omega) (by omega)) j), t2, fun j hj => ?_, ?_, t5.trans md.2.2.1, ?_⟩
              · rw [t3 c (by omega) (by omega) (by omega) (by omega) (by omega) (by omega)]; exact congrFun (fr c (by omega) (by omega) (by omega)) j
              · rw [t5, md.2.2.1]
              · rw [t3 111 (by omega) (by omega) (by omega) (by omega) (by omega) (by omega)]; exact md.1 j hj
              · rw [t3 112 (by omega) (by omega) (by omega) (by omega) (by omega) (by omega)]; exact md.2.1
              · rw [t3 111 (by omega) (by omega) (by omega) (by omega) (by omega) (by omega), e40]; exact md.2.2.2
            · skip
              refine x_aload_n (pc := 156) dX4_tick_156 (List.Mem.head _) ?_
              refine z_getI (pc := 157) (k := 14) (v := ((((tk2 q (tk1 q M)) 36)) + 1)) dX4_tick_157 lf_X4_74 sh_104 rfl (by rw [wI1]) ?_
              refine z_bipush (pc := 160) dX4_tick_160 bp_99 ?_
              refine z_icmp_lt (pc := 162) (tgt := 170) dX4_tick_162 (by decide) (by omega) (by omega) (by decide) (by decide) (fun hb11 => ?_) (fun hb11 => ?_)
              · skip
                refine z_vreturn (pc := 170) dX4_tick_170 rfl ok9 ?_
                have eT : tickF q M = tk3 (tk2 q (tk1 q M)) := rfl
                have f6 : Fr4 H5 (wI H5 104 14 (((((tk2 q (tk1 q M)) 36)) + 1))) := by repeat' first | exact Fr4_0 _ | refine Fr4_I ?_ (by omega)
                have fd6 : FldR (wI H5 104 14 (((((tk2 q (tk1 q M)) 36)) + 1))) (tickF q M) := by
                  rw [eT]
                  refine ⟨?_, ?_, ?_, ?_, ?_, ?_, ?_, ?_⟩
                  · show _ = _
                    rw [wI1k (by omega)]
                    exact fd5.1
                  · show _ = _
                    rw [wI1k (by omega)]
                    exact fd5.2.1
                  · show _ = _
                    rw [wI1k (by omega)]
                    exact fd5.2.2.1
                  · show _ = _
                    rw [wI1k (by omega)]
                    show _ = (tk2 q (tk1 q M)) 35 + (if (tk2 q (tk1 q M)) 33 = 0 ∧ (tk2 q (tk1 q M)) 32 = 0 then 1 else 0)
                    rw [if_neg (by omega), Int.add_zero]; exact fd5.2.2.2.1
                  · show _ = _
                    rw [wI1]
                    rfl
                  · show _ = _
                    rw [wI1k (by omega)]
                    show _ = (if (tk2 q (tk1 q M)) 37 = 0 ∧ (tk2 q (tk1 q M)) 36 + 1 = 99 then 3 else (tk2 q (tk1 q M)) 37)
                    rw [if_neg (by omega)]; exact fd5.2.2.2.2.2.1
                  · show _ = _
                    rw [wI1k (by omega)]
                    exact fd5.2.2.2.2.2.2.1
                  · show _ = _
                    rw [wI1k (by omega)]
                    exact fd5.2.2.2.2.2.2.2
                have te := tk_end ws1 rdm f4 mv f5 f6 fd6
                have eM : M = drws q (H.1 104 3) (q 1).toNat N := by rw [hM, show (q 1).toNat = k by omega]
                have e40 : tickF q M 40 = M 40 := (tickF_wf ws1 ws0 wm wxm hM37).2.2.2
                obtain ⟨t1, t2, t3, t4, t5⟩ := te
                rw [← eM]
                refine ⟨⟨fun c j hc => ?_, fun c j hc => ?_⟩, t1, fun j hj => (t4 j hj).trans (congrFun (fr 104 (by omega) (by omega) (by omega)) j), t2, fun j hj => ?_, ?_, t5.trans md.2.2.1, ?_⟩
                · rw [t3 c (by omega) (by omega) (by omega) (by omega) (by omega) (by omega)]; exact congrFun (fr c (by omega) (by omega) (by omega)) j
                · rw [t5, md.2.2.1]
                · rw [t3 111 (by omega) (by omega) (by omega) (by omega) (by omega) (by omega)]; exact md.1 j hj
                · rw [t3 112 (by omega) (by omega) (by omega) (by omega) (by omega) (by omega)]; exact md.2.1
                · rw [t3 111 (by omega) (by omega) (by omega) (by omega) (by omega) (by omega), e40]; exact md.2.2.2
              · skip
                refine x_aload_n (pc := 165) dX4_tick_165 (List.Mem.head _) ?_
                refine z_iconst (pc := 166) dX4_tick_166 ?_
                refine z_putI (pc := 167) (k := 15) dX4_tick_167 lp_X4_77 sh_104 rfl ?_
                have ok12 := okI ok9 104 15 (v := 3) (by decide) (by decide)
                refine z_vreturn (pc := 170) dX4_tick_170 rfl ok12 ?_
                have eT : tickF q M = tk3 (tk2 q (tk1 q M)) := rfl
                have f6 : Fr4 H5 (wI (wI H5 104 14 (((((tk2 q (tk1 q M)) 36)) + 1))) 104 15 (3)) := by repeat' first | exact Fr4_0 _ | refine Fr4_I ?_ (by omega)
                have fd6 : FldR (wI (wI H5 104 14 (((((tk2 q (tk1 q M)) 36)) + 1))) 104 15 (3)) (tickF q M) := by
                  rw [eT]
                  refine ⟨?_, ?_, ?_, ?_, ?_, ?_, ?_, ?_⟩
                  · show _ = _
                    rw [wI1k (by omega), wI1k (by omega)]
                    exact fd5.1
                  · show _ = _
                    rw [wI1k (by omega), wI1k (by omega)]
                    exact fd5.2.1
                  · show _ = _
                    rw [wI1k (by omega), wI1k (by omega)]
                    exact fd5.2.2.1
                  · show _ = _
                    rw [wI1k (by omega), wI1k (by omega)]
                    show _ = (tk2 q (tk1 q M)) 35 + (if (tk2 q (tk1 q M)) 33 = 0 ∧ (tk2 q (tk1 q M)) 32 = 0 then 1 else 0)
                    rw [if_neg (by omega), Int.add_zero]; exact fd5.2.2.2.1
                  · show _ = _
                    rw [wI1k (by omega), wI1]
                    rfl
                  · show _ = _
                    rw [wI1]
                    show _ = (if (tk2 q (tk1 q M)) 37 = 0 ∧ (tk2 q (tk1 q M)) 36 + 1 = 99 then 3 else (tk2 q (tk1 q M)) 37)
                    rw [if_pos (by omega)]
                  · show _ = _
                    rw [wI1k (by omega), wI1k (by omega)]
                    exact fd5.2.2.2.2.2.2.1
                  · show _ = _
                    rw [wI1k (by omega), wI1k (by omega)]
                    exact fd5.2.2.2.2.2.2.2
                have te := tk_end ws1 rdm f4 mv f5 f6 fd6
                have eM : M = drws q (H.1 104 3) (q 1).toNat N := by rw [hM, show (q 1).toNat = k by omega]
                have e40 : tickF q M 40 = M 40 := (tickF_wf ws1 ws0 wm wxm hM37).2.2.2
                obtain ⟨t1, t2, t3, t4, t5⟩ := te
                rw [← eM]
                refine ⟨⟨fun c j hc => ?_, fun c j hc => ?_⟩, t1, fun j hj => (t4 j hj).trans (congrFun (fr 104 (by omega) (by omega) (by omega)) j), t2, fun j hj => ?_, ?_, t5.trans md.2.2.1, ?_⟩
                · rw [t3 c (by omega) (by omega) (by omega) (by omega) (by omega) (by omega)]; exact congrFun (fr c (by omega) (by omega) (by omega)) j
                · rw [t5, md.2.2.1]
                · rw [t3 111 (by omega) (by omega) (by omega) (by omega) (by omega) (by omega)]; exact md.1 j hj
                · rw [t3 112 (by omega) (by omega) (by omega) (by omega) (by omega) (by omega)]; exact md.2.1
                · rw [t3 111 (by omega) (by omega) (by omega) (by omega) (by omega) (by omega), e40]; exact md.2.2.2
          · skip
            refine x_aload_n (pc := 122) dX4_tick_122 (List.Mem.head _) ?_
            refine z_getI (pc := 123) (k := 11) (v := ((tk2 q (tk1 q M)) 33)) dX4_tick_123 lf_X4_64 sh_104 rfl fd5.2.1 ?_
            refine z_if_ne (pc := 126) (tgt := 139) dX4_tick_126 (by decide) (by omega) (by omega) (fun hb13 => ?_) (fun hb13 => ?_)
            · skip
              refine x_aload_n (pc := 139) dX4_tick_139 (List.Mem.head _) ?_
              refine x_dup (pc := 140) dX4_tick_140 rfl ?_
              refine z_getI (pc := 141) (k := 14) (v := ((tk2 q (tk1 q M)) 36)) dX4_tick_141 lf_X4_74 sh_104 rfl (by first | exact fd5.2.2.2.2.1 | (rw [wI1k (by omega)]; exact fd5.2.2.2.2.1)) ?_
              refine z_iconst (pc := 144) dX4_tick_144 ?_
              refine z_iadd (pc := 145) dX4_tick_145 ?_
              refine z_putI (pc := 146) (k := 14) dX4_tick_146 lp_X4_74 sh_104 rfl ?_
              have ok14 := okI ok6 104 14 (v := ((((tk2 q (tk1 q M)) 36)) + 1)) (by omega) (by omega)
              refine x_aload_n (pc := 149) dX4_tick_149 (List.Mem.head _) ?_
              refine z_getI (pc := 150) (k := 15) (v := ((tk2 q (tk1 q M)) 37)) dX4_tick_150 lf_X4_77 sh_104 rfl (by first | (rw [wI1k (by omega)]; exact fd5.2.2.2.2.2.1) | (rw [wI1k (by omega), wI1k (by omega)]; exact fd5.2.2.2.2.2.1)) ?_
              refine z_if_ne (pc := 153) (tgt := 170) dX4_tick_153 (by decide) (by omega) (by omega) (fun hb15 => ?_) (fun hb15 => ?_)
              · skip
                refine z_vreturn (pc := 170) dX4_tick_170 rfl ok14 ?_
                have eT : tickF q M = tk3 (tk2 q (tk1 q M)) := rfl
                have f6 : Fr4 H5 (wI H5 104 14 (((((tk2 q (tk1 q M)) 36)) + 1))) := by repeat' first | exact Fr4_0 _ | refine Fr4_I ?_ (by omega)
                have fd6 : FldR (wI H5 104 14 (((((tk2 q (tk1 q M)) 36)) + 1))) (tickF q M) := by
                  rw [eT]
                  refine ⟨?_, ?_, ?_, ?_, ?_, ?_, ?_, ?_⟩
                  · show _ = _
                    rw [wI1k (by omega)]
                    exact fd5.1
                  · show _ = _
                    rw [wI1k (by omega)]
                    exact fd5.2.1
                  · show _ = _
                    rw [wI1k (by omega)]
                    exact fd5.2.2.1
                  · show _ = _
                    rw [wI1k (by omega)]
                    show _ = (tk2 q (tk1 q M)) 35 + (if (tk2 q (tk1 q M)) 33 = 0 ∧ (tk2 q (tk1 q M)) 32 = 0 then 1 else 0)
                    rw [if_neg (by omega), Int.add_zero]; exact fd5.2.2.2.1
                  · show _ = _
                    rw [wI1]
                    rfl
                  · show _ = _
                    rw [wI1k (by omega)]
                    show _ = (if (tk2 q (tk1 q M)) 37 = 0 ∧ (tk2 q (tk1 q M)) 36 + 1 = 99 then 3 else (tk2 q (tk1 q M)) 37)
                    rw [if_neg (by omega)]; exact fd5.2.2.2.2.2.1
                  · show _ = _
                    rw [wI1k (by omega)]
                    exact fd5.2.2.2.2.2.2.1
                  · show _ = _
                    rw [wI1k (by omega)]
                    exact fd5.2.2.2.2.2.2.2
                have te := tk_end ws1 rdm f4 mv f5 f6 fd6
                have eM : M = drws q (H.1 104 3) (q 1).toNat N := by rw [hM, show (q 1).toNat = k by omega]
                have e40 : tickF q M 40 = M 40 := (tickF_wf ws1 ws0 wm wxm hM37).2.2.2
                obtain ⟨t1, t2, t3, t4, t5⟩ := te
                rw [← eM]
                refine ⟨⟨fun c j hc => ?_, fun c j hc => ?_⟩, t1, fun j hj => (t4 j hj).trans (congrFun (fr 104 (by omega) (by omega) (by omega)) j), t2, fun j hj => ?_, ?_, t5.trans md.2.2.1, ?_⟩
                · rw [t3 c (by omega) (by omega) (by omega) (by omega) (by omega) (by omega)]; exact congrFun (fr c (by omega) (by omega) (by omega)) j
                · rw [t5, md.2.2.1]
                · rw [t3 111 (by omega) (by omega) (by omega) (by omega) (by omega) (by omega)]; exact md.1 j hj
                · rw [t3 112 (by omega) (by omega) (by omega) (by omega) (by omega) (by omega)]; exact md.2.1
                · rw [t3 111 (by omega) (by omega) (by omega) (by omega) (by omega) (by omega), e40]; exact md.2.2.2
              · skip
                refine x_aload_n (pc := 156) dX4_tick_156 (List.Mem.head _) ?_
                refine z_getI (pc := 157) (k := 14) (v := ((((tk2 q (tk1 q M)) 36)) + 1)) dX4_tick_157 lf_X4_74 sh_104 rfl (by rw [wI1]) ?_
                refine z_bipush (pc := 160) dX4_tick_160 bp_99 ?_
                refine z_icmp_lt (pc := 162) (tgt := 170) dX4_tick_162 (by decide) (by omega) (by omega) (by decide) (by decide) (fun hb16 => ?_) (fun hb16 => ?_)
                · skip
                  refine z_vreturn (pc := 170) dX4_tick_170 rfl ok14 ?_
                  have eT : tickF q M = tk3 (tk2 q (tk1 q M)) := rfl
                  have f6 : Fr4 H5 (wI H5 104 14 (((((tk2 q (tk1 q M)) 36)) + 1))) := by repeat' first | exact Fr4_0 _ | refine Fr4_I ?_ (by omega)
                  have fd6 : FldR (wI H5 104 14 (((((tk2 q (tk1 q M)) 36)) + 1))) (tickF q M) := by
                    rw [eT]
                    refine ⟨?_, ?_, ?_, ?_, ?_, ?_, ?_, ?_⟩
                    · show _ = _
                      rw [wI1k (by omega)]
                      exact fd5.1
                    · show _ = _
                      rw [wI1k (by omega)]
                      exact fd5.2.1
                    · show _ = _
                      rw [wI1k (by omega)]
                      exact fd5.2.2.1
                    · show _ = _
                      rw [wI1k (by omega)]
                      show _ = (tk2 q (tk1 q M)) 35 + (if (tk2 q (tk1 q M)) 33 = 0 ∧ (tk2 q (tk1 q M)) 32 = 0 then 1 else 0)
                      rw [if_neg (by omega), Int.add_zero]; exact fd5.2.2.2.1
                    · show _ = _
                      rw [wI1]
                      rfl
                    · show _ = _
                      rw [wI1k (by omega)]
                      show _ = (if (tk2 q (tk1 q M)) 37 = 0 ∧ (tk2 q (tk1 q M)) 36 + 1 = 99 then 3 else (tk2 q (tk1 q M)) 37)
                      rw [if_neg (by omega)]; exact fd5.2.2.2.2.2.1
                    · show _ = _
                      rw [wI1k (by omega)]
                      exact fd5.2.2.2.2.2.2.1
                    · show _ = _
                      rw [wI1k (by omega)]
                      exact fd5.2.2.2.2.2.2.2
                  have te := tk_end ws1 rdm f4 mv f5 f6 fd6
                  have eM : M = drws q (H.1 104 3) (q 1).toNat N := by rw [hM, show (q 1).toNat = k by omega]
                  have e40 : tickF q M 40 = M 40 := (tickF_wf ws1 ws0 wm wxm hM37).2.2.2
                  obtain ⟨t1, t2, t3, t4, t5⟩ := te
                  rw [← eM]
                  refine ⟨⟨fun c j hc => ?_, fun c j hc => ?_⟩, t1, fun j hj => (t4 j hj).trans (congrFun (fr 104 (by omega) (by omega) (by omega)) j), t2, fun j hj => ?_, ?_, t5.trans md.2.2.1, ?_⟩
                  · rw [t3 c (by omega) (by omega) (by omega) (by omega) (by omega) (by omega)]; exact congrFun (fr c (by omega) (by omega) (by omega)) j
                  · rw [t5, md.2.2.1]
                  · rw [t3 111 (by omega) (by omega) (by omega) (by omega) (by omega) (by omega)]; exact md.1 j hj
                  · rw [t3 112 (by omega) (by omega) (by omega) (by omega) (by omega) (by omega)]; exact md.2.1
                  · rw [t3 111 (by omega) (by omega) (by omega) (by omega) (by omega) (by omega), e40]; exact md.2.2.2
                · skip
                  refine x_aload_n (pc := 165) dX4_tick_165 (List.Mem.head _) ?_
                  refine z_iconst (pc := 166) dX4_tick_166 ?_
                  refine z_putI (pc := 167) (k := 15) dX4_tick_167 lp_X4_77 sh_104 rfl ?_
                  have ok17 := okI ok14 104 15 (v := 3) (by decide) (by decide)
                  refine z_vreturn (pc := 170) dX4_tick_170 rfl ok17 ?_
                  have eT : tickF q M = tk3 (tk2 q (tk1 q M)) := rfl
                  have f6 : Fr4 H5 (wI (wI H5 104 14 (((((tk2 q (tk1 q M)) 36)) + 1))) 104 15 (3)) := by repeat' first | exact Fr4_0 _ | refine Fr4_I ?_ (by omega)
                  have fd6 : FldR (wI (wI H5 104 14 (((((tk2 q (tk1 q M)) 36)) + 1))) 104 15 (3)) (tickF q M) := by
                    rw [eT]
                    refine ⟨?_, ?_, ?_, ?_, ?_, ?_, ?_, ?_⟩
                    · show _ = _
                      rw [wI1k (by omega), wI1k (by omega)]
                      exact fd5.1
                    · show _ = _
                      rw [wI1k (by omega), wI1k (by omega)]
                      exact fd5.2.1
                    · show _ = _
                      rw [wI1k (by omega), wI1k (by omega)]
                      exact fd5.2.2.1
                    · show _ = _
                      rw [wI1k (by omega), wI1k (by omega)]
                      show _ = (tk2 q (tk1 q M)) 35 + (if (tk2 q (tk1 q M)) 33 = 0 ∧ (tk2 q (tk1 q M)) 32 = 0 then 1 else 0)
                      rw [if_neg (by omega), Int.add_zero]; exact fd5.2.2.2.1
                    · show _ = _
                      rw [wI1k (by omega), wI1]
                      rfl
                    · show _ = _
                      rw [wI1]
                      show _ = (if (tk2 q (tk1 q M)) 37 = 0 ∧ (tk2 q (tk1 q M)) 36 + 1 = 99 then 3 else (tk2 q (tk1 q M)) 37)
                      rw [if_pos (by omega)]
                    · show _ = _
                      rw [wI1k (by omega), wI1k (by omega)]
                      exact fd5.2.2.2.2.2.2.1
                    · show _ = _
                      rw [wI1k (by omega), wI1k (by omega)]
                      exact fd5.2.2.2.2.2.2.2
                  have te := tk_end ws1 rdm f4 mv f5 f6 fd6
                  have eM : M = drws q (H.1 104 3) (q 1).toNat N := by rw [hM, show (q 1).toNat = k by omega]
                  have e40 : tickF q M 40 = M 40 := (tickF_wf ws1 ws0 wm wxm hM37).2.2.2
                  obtain ⟨t1, t2, t3, t4, t5⟩ := te
                  rw [← eM]
                  refine ⟨⟨fun c j hc => ?_, fun c j hc => ?_⟩, t1, fun j hj => (t4 j hj).trans (congrFun (fr 104 (by omega) (by omega) (by omega)) j), t2, fun j hj => ?_, ?_, t5.trans md.2.2.1, ?_⟩
                  · rw [t3 c (by omega) (by omega) (by omega) (by omega) (by omega) (by omega)]; exact congrFun (fr c (by omega) (by omega) (by omega)) j
                  · rw [t5, md.2.2.1]
                  · rw [t3 111 (by omega) (by omega) (by omega) (by omega) (by omega) (by omega)]; exact md.1 j hj
                  · rw [t3 112 (by omega) (by omega) (by omega) (by omega) (by omega) (by omega)]; exact md.2.1
                  · rw [t3 111 (by omega) (by omega) (by omega) (by omega) (by omega) (by omega), e40]; exact md.2.2.2
            · skip
              refine x_aload_n (pc := 129) dX4_tick_129 (List.Mem.head _) ?_
              refine x_dup (pc := 130) dX4_tick_130 rfl ?_
              refine z_getI (pc := 131) (k := 13) (v := ((tk2 q (tk1 q M)) 35)) dX4_tick_131 lf_X4_71 sh_104 rfl fd5.2.2.2.1 ?_
              refine z_iconst (pc := 134) dX4_tick_134 ?_
              refine z_iadd (pc := 135) dX4_tick_135 ?_
              refine z_putI (pc := 136) (k := 13) dX4_tick_136 lp_X4_71 sh_104 rfl ?_
              have ok18 := okI ok6 104 13 (v := ((((tk2 q (tk1 q M)) 35)) + 1)) (by omega) (by omega)
              refine x_aload_n (pc := 139) dX4_tick_139 (List.Mem.head _) ?_
              refine x_dup (pc := 140) dX4_tick_140 rfl ?_
              refine z_getI (pc := 141) (k := 14) (v := ((tk2 q (tk1 q M)) 36)) dX4_tick_141 lf_X4_74 sh_104 rfl (by first | exact fd5.2.2.2.2.1 | (rw [wI1k (by omega)]; exact fd5.2.2.2.2.1)) ?_
              refine z_iconst (pc := 144) dX4_tick_144 ?_
              refine z_iadd (pc := 145) dX4_tick_145 ?_
              refine z_putI (pc := 146) (k := 14) dX4_tick_146 lp_X4_74 sh_104 rfl ?_
              have ok19 := okI ok18 104 14 (v := ((((tk2 q (tk1 q M)) 36)) + 1)) (by omega) (by omega)
              refine x_aload_n (pc := 149) dX4_tick_149 (List.Mem.head _) ?_
              refine z_getI (pc := 150) (k := 15) (v := ((tk2 q (tk1 q M)) 37)) dX4_tick_150 lf_X4_77 sh_104 rfl (by first | (rw [wI1k (by omega)]; exact fd5.2.2.2.2.2.1) | (rw [wI1k (by omega), wI1k (by omega)]; exact fd5.2.2.2.2.2.1)) ?_
              refine z_if_ne (pc := 153) (tgt := 170) dX4_tick_153 (by decide) (by omega) (by omega) (fun hb20 => ?_) (fun hb20 => ?_)
              · skip
                refine z_vreturn (pc := 170) dX4_tick_170 rfl ok19 ?_
                have eT : tickF q M = tk3 (tk2 q (tk1 q M)) := rfl
                have f6 : Fr4 H5 (wI (wI H5 104 13 (((((tk2 q (tk1 q M)) 35)) + 1))) 104 14 (((((tk2 q (tk1 q M)) 36)) + 1))) := by repeat' first | exact Fr4_0 _ | refine Fr4_I ?_ (by omega)
                have fd6 : FldR (wI (wI H5 104 13 (((((tk2 q (tk1 q M)) 35)) + 1))) 104 14 (((((tk2 q (tk1 q M)) 36)) + 1))) (tickF q M) := by
                  rw [eT]
                  refine ⟨?_, ?_, ?_, ?_, ?_, ?_, ?_, ?_⟩
                  · show _ = _
                    rw [wI1k (by omega), wI1k (by omega)]
                    exact fd5.1
                  · show _ = _
                    rw [wI1k (by omega), wI1k (by omega)]
                    exact fd5.2.1
                  · show _ = _
                    rw [wI1k (by omega), wI1k (by omega)]
                    exact fd5.2.2.1
                  · show _ = _
                    rw [wI1k (by omega), wI1]
                    show _ = (tk2 q (tk1 q M)) 35 + (if (tk2 q (tk1 q M)) 33 = 0 ∧ (tk2 q (tk1 q M)) 32 = 0 then 1 else 0)
                    rw [if_pos (by omega)]
                  · show _ = _
                    rw [wI1]
                    rfl
                  · show _ = _
                    rw [wI1k (by omega), wI1k (by omega)]
                    show _ = (if (tk2 q (tk1 q M)) 37 = 0 ∧ (tk2 q (tk1 q M)) 36 + 1 = 99 then 3 else (tk2 q (tk1 q M)) 37)
                    rw [if_neg (by omega)]; exact fd5.2.2.2.2.2.1
                  · show _ = _
                    rw [wI1k (by omega), wI1k (by omega)]
                    exact fd5.2.2.2.2.2.2.1
                  · show _ = _
                    rw [wI1k (by omega), wI1k (by omega)]
                    exact fd5.2.2.2.2.2.2.2
                have te := tk_end ws1 rdm f4 mv f5 f6 fd6
                have eM : M = drws q (H.1 104 3) (q 1).toNat N := by rw [hM, show (q 1).toNat = k by omega]
                have e40 : tickF q M 40 = M 40 := (tickF_wf ws1 ws0 wm wxm hM37).2.2.2
                obtain ⟨t1, t2, t3, t4, t5⟩ := te
                rw [← eM]
                refine ⟨⟨fun c j hc => ?_, fun c j hc => ?_⟩, t1, fun j hj => (t4 j hj).trans (congrFun (fr 104 (by omega) (by omega) (by omega)) j), t2, fun j hj => ?_, ?_, t5.trans md.2.2.1, ?_⟩
                · rw [t3 c (by omega) (by omega) (by omega) (by omega) (by omega) (by omega)]; exact congrFun (fr c (by omega) (by omega) (by omega)) j
                · rw [t5, md.2.2.1]
                · rw [t3 111 (by omega) (by omega) (by omega) (by omega) (by omega) (by omega)]; exact md.1 j hj
                · rw [t3 112 (by omega) (by omega) (by omega) (by omega) (by omega) (by omega)]; exact md.2.1
                · rw [t3 111 (by omega) (by omega) (by omega) (by omega) (by omega) (by omega), e40]; exact md.2.2.2
              · skip
                refine x_aload_n (pc := 156) dX4_tick_156 (List.Mem.head _) ?_
                refine z_getI (pc := 157) (k := 14) (v := ((((tk2 q (tk1 q M)) 36)) + 1)) dX4_tick_157 lf_X4_74 sh_104 rfl (by rw [wI1]) ?_
                refine z_bipush (pc := 160) dX4_tick_160 bp_99 ?_
                refine z_icmp_lt (pc := 162) (tgt := 170) dX4_tick_162 (by decide) (by omega) (by omega) (by decide) (by decide) (fun hb21 => ?_) (fun hb21 => ?_)
                · skip
                  refine z_vreturn (pc := 170) dX4_tick_170 rfl ok19 ?_
                  have eT : tickF q M = tk3 (tk2 q (tk1 q M)) := rfl
                  have f6 : Fr4 H5 (wI (wI H5 104 13 (((((tk2 q (tk1 q M)) 35)) + 1))) 104 14 (((((tk2 q (tk1 q M)) 36)) + 1))) := by repeat' first | exact Fr4_0 _ | refine Fr4_I ?_ (by omega)
                  have fd6 : FldR (wI (wI H5 104 13 (((((tk2 q (tk1 q M)) 35)) + 1))) 104 14 (((((tk2 q (tk1 q M)) 36)) + 1))) (tickF q M) := by
                    rw [eT]
                    refine ⟨?_, ?_, ?_, ?_, ?_, ?_, ?_, ?_⟩
                    · show _ = _
                      rw [wI1k (by omega), wI1k (by omega)]
                      exact fd5.1
                    · show _ = _
                      rw [wI1k (by omega), wI1k (by omega)]
                      exact fd5.2.1
                    · show _ = _
                      rw [wI1k (by omega), wI1k (by omega)]
                      exact fd5.2.2.1
                    · show _ = _
                      rw [wI1k (by omega), wI1]
                      show _ = (tk2 q (tk1 q M)) 35 + (if (tk2 q (tk1 q M)) 33 = 0 ∧ (tk2 q (tk1 q M)) 32 = 0 then 1 else 0)
                      rw [if_pos (by omega)]
                    · show _ = _
                      rw [wI1]
                      rfl
                    · show _ = _
                      rw [wI1k (by omega), wI1k (by omega)]
                      show _ = (if (tk2 q (tk1 q M)) 37 = 0 ∧ (tk2 q (tk1 q M)) 36 + 1 = 99 then 3 else (tk2 q (tk1 q M)) 37)
                      rw [if_neg (by omega)]; exact fd5.2.2.2.2.2.1
                    · show _ = _
                      rw [wI1k (by omega), wI1k (by omega)]
                      exact fd5.2.2.2.2.2.2.1
                    · show _ = _
                      rw [wI1k (by omega), wI1k (by omega)]
                      exact fd5.2.2.2.2.2.2.2
                  have te := tk_end ws1 rdm f4 mv f5 f6 fd6
                  have eM : M = drws q (H.1 104 3) (q 1).toNat N := by rw [hM, show (q 1).toNat = k by omega]
                  have e40 : tickF q M 40 = M 40 := (tickF_wf ws1 ws0 wm wxm hM37).2.2.2
                  obtain ⟨t1, t2, t3, t4, t5⟩ := te
                  rw [← eM]
                  refine ⟨⟨fun c j hc => ?_, fun c j hc => ?_⟩, t1, fun j hj => (t4 j hj).trans (congrFun (fr 104 (by omega) (by omega) (by omega)) j), t2, fun j hj => ?_, ?_, t5.trans md.2.2.1, ?_⟩
                  · rw [t3 c (by omega) (by omega) (by omega) (by omega) (by omega) (by omega)]; exact congrFun (fr c (by omega) (by omega) (by omega)) j
                  · rw [t5, md.2.2.1]
                  · rw [t3 111 (by omega) (by omega) (by omega) (by omega) (by omega) (by omega)]; exact md.1 j hj
                  · rw [t3 112 (by omega) (by omega) (by omega) (by omega) (by omega) (by omega)]; exact md.2.1
                  · rw [t3 111 (by omega) (by omega) (by omega) (by omega) (by omega) (by omega), e40]; exact md.2.2.2
                · skip
                  refine x_aload_n (pc := 165) dX4_tick_165 (List.Mem.head _) ?_
                  refine z_iconst (pc := 166) dX4_tick_166 ?_
                  refine z_putI (pc := 167) (k := 15) dX4_tick_167 lp_X4_77 sh_104 rfl ?_
                  have ok22 := okI ok19 104 15 (v := 3) (by decide) (by decide)
                  refine z_vreturn (pc := 170) dX4_tick_170 rfl ok22 ?_
                  have eT : tickF q M = tk3 (tk2 q (tk1 q M)) := rfl
                  have f6 : Fr4 H5 (wI (wI (wI H5 104 13 (((((tk2 q (tk1 q M)) 35)) + 1))) 104 14 (((((tk2 q (tk1 q M)) 36)) + 1))) 104 15 (3)) := by repeat' first | exact Fr4_0 _ | refine Fr4_I ?_ (by omega)
                  have fd6 : FldR (wI (wI (wI H5 104 13 (((((tk2 q (tk1 q M)) 35)) + 1))) 104 14 (((((tk2 q (tk1 q M)) 36)) + 1))) 104 15 (3)) (tickF q M) := by
                    rw [eT]
                    refine ⟨?_, ?_, ?_, ?_, ?_, ?_, ?_, ?_⟩
                    · show _ = _
                      rw [wI1k (by omega), wI1k (by omega), wI1k (by omega)]
                      exact fd5.1
                    · show _ = _
                      rw [wI1k (by omega), wI1k (by omega), wI1k (by omega)]
                      exact fd5.2.1
                    · show _ = _
                      rw [wI1k (by omega), wI1k (by omega), wI1k (by omega)]
                      exact fd5.2.2.1
                    · show _ = _
                      rw [wI1k (by omega), wI1k (by omega), wI1]
                      show _ = (tk2 q (tk1 q M)) 35 + (if (tk2 q (tk1 q M)) 33 = 0 ∧ (tk2 q (tk1 q M)) 32 = 0 then 1 else 0)
                      rw [if_pos (by omega)]
                    · show _ = _
                      rw [wI1k (by omega), wI1]
                      rfl
                    · show _ = _
                      rw [wI1]
                      show _ = (if (tk2 q (tk1 q M)) 37 = 0 ∧ (tk2 q (tk1 q M)) 36 + 1 = 99 then 3 else (tk2 q (tk1 q M)) 37)
                      rw [if_pos (by omega)]
                    · show _ = _
                      rw [wI1k (by omega), wI1k (by omega), wI1k (by omega)]
                      exact fd5.2.2.2.2.2.2.1
                    · show _ = _
                      rw [wI1k (by omega), wI1k (by omega), wI1k (by omega)]
                      exact fd5.2.2.2.2.2.2.2
                  have te := tk_end ws1 rdm f4 mv f5 f6 fd6
                  have eM : M = drws q (H.1 104 3) (q 1).toNat N := by rw [hM, show (q 1).toNat = k by omega]
                  have e40 : tickF q M 40 = M 40 := (tickF_wf ws1 ws0 wm wxm hM37).2.2.2
                  obtain ⟨t1, t2, t3, t4, t5⟩ := te
                  rw [← eM]
                  refine ⟨⟨fun c j hc => ?_, fun c j hc => ?_⟩, t1, fun j hj => (t4 j hj).trans (congrFun (fr 104 (by omega) (by omega) (by omega)) j), t2, fun j hj => ?_, ?_, t5.trans md.2.2.1, ?_⟩
                  · rw [t3 c (by omega) (by omega) (by omega) (by omega) (by omega) (by omega)]; exact congrFun (fr c (by omega) (by omega) (by omega)) j
                  · rw [t5, md.2.2.1]
                  · rw [t3 111 (by omega) (by omega) (by omega) (by omega) (by omega) (by omega)]; exact md.1 j hj
                  · rw [t3 112 (by omega) (by omega) (by omega) (by omega) (by omega) (by omega)]; exact md.2.1
                  · rw [t3 111 (by omega) (by omega) (by omega) (by omega) (by omega) (by omega), e40]; exact md.2.2.2
        refine x_aload_n (pc := 58) dX4_tick_58 (List.Mem.head _) ?_
        refine z_getI (pc := 59) (k := 11) (v := (M 33)) dX4_tick_59 lf_X4_64 sh_104 rfl fdm.2.1 ?_
        refine z_if_ne (pc := 62) (tgt := 107) dX4_tick_62 (by decide) (by omega) (by omega) (fun hb23 => ?_) (fun hb23 => ?_)
        · skip
          have hE : entB q M = false := by unfold entB; rw [decide_eq_false (by omega : ¬ M 33 = 0)]; rfl
          refine x_weaken (L1 := [(0, .ref 104)]) (List.forall_mem_cons.mpr ⟨(List.Mem.head _), (fun _ h => absurd h List.not_mem_nil)⟩) ?_
          exact jn107  Hm okl2 (by repeat' first | exact Fr4_0 _ | refine Fr4_I ?_ (by omega)) (by first | exact FldR_tk1 fdm hE | (rw [tk1_no hE]; exact fdm))
        · skip
          refine x_aload_n (pc := 65) dX4_tick_65 (List.Mem.head _) ?_
          refine z_getI (pc := 66) (k := 10) (v := (M 32)) dX4_tick_66 lf_X4_61 sh_104 rfl fdm.1 ?_
          refine z_if_ne (pc := 69) (tgt := 86) dX4_tick_69 (by decide) (by omega) (by omega) (fun hb24 => ?_) (fun hb24 => ?_)
          · skip
            refine x_aload_n (pc := 86) dX4_tick_86 (List.Mem.head _) ?_
            refine x_aload_n (pc := 87) dX4_tick_87 (List.Mem.head _) ?_
            refine z_getI (pc := 88) (k := 10) (v := (M 32)) dX4_tick_88 lf_X4_61 sh_104 rfl fdm.1 ?_
            refine z_callVbp (pc := 91) (i := mX4_isFree) (S := []) [.int (zN (((M 32))))] dX4_tick_91 ml_X4_99 ok_X4_isFree rfl sh_104 rfl (Or.inr rfl) (Nat.le_of_ble_eq_true rfl) (c_X4_isFree (d := d + 2) (s := s) (q := q) (N := M) (ln := (((M 32)))) (ln1 := (by omega)) (ln2 := (by omega)) (ok := okl2) (hs := hs) (hsc := hsm) (ws := ws) (rs := rsm) (wn := wm) (rd := rdm)) (fun hc27 ok26 => ?_) (fun hc27 ok26 => ?_)
            · skip
              have hfr : tfr q M (M 32) (q 1).toNat = true := hc27
              have hE : entB q M = true := by unfold entB; rw [decide_eq_true (by omega : M 33 = 0), hfr]; rfl
              refine z_if_eq (pc := 94) (tgt := 107) dX4_tick_94 (by decide) (by decide) (by decide) (fun h => absurd h (by decide)) (fun _ => ?_)
              refine x_aload_n (pc := 97) dX4_tick_97 (List.Mem.head _) ?_
              refine z_iconst (pc := 98) dX4_tick_98 ?_
              refine z_putZ (pc := 99) (k := 11) dX4_tick_99 lp_X4_64 sh_104 rfl (by omega) ?_
              have ok29 := okI ok26 104 11 (v := 1) (by decide) (by decide)
              refine x_aload_n (pc := 102) dX4_tick_102 (List.Mem.head _) ?_
              refine z_iconst (pc := 103) dX4_tick_103 ?_
              refine z_putI (pc := 104) (k := 12) dX4_tick_104 lp_X4_68 sh_104 rfl ?_
              have ok30 := okI ok29 104 12 (v := 0) (by decide) (by decide)
              refine x_weaken (L1 := [(0, .ref 104)]) (List.forall_mem_cons.mpr ⟨(List.Mem.head _), (fun _ h => absurd h List.not_mem_nil)⟩) ?_
              exact jn107  (wI (wI Hm 104 11 (1)) 104 12 (0)) ok30 (by repeat' first | exact Fr4_0 _ | refine Fr4_I ?_ (by omega)) (by first | exact FldR_tk1 fdm hE | (rw [tk1_no hE]; exact fdm))
            · skip
              have hfr : tfr q M (M 32) (q 1).toNat = false := Bool.eq_false_iff.mpr hc27
              have hE : entB q M = false := by unfold entB; rw [hfr, decide_eq_false (by omega : ¬ (M 32 = 0 ∧ q 37 ≤ M 35)), Bool.or_false, Bool.and_false]
              refine z_if_eq (pc := 94) (tgt := 107) dX4_tick_94 (by decide) (by decide) (by decide) (fun _ => ?_) (fun h => absurd h (by decide))
              refine x_weaken (L1 := [(0, .ref 104)]) (List.forall_mem_cons.mpr ⟨(List.Mem.head _), (fun _ h => absurd h List.not_mem_nil)⟩) ?_
              exact jn107  Hm ok26 (by repeat' first | exact Fr4_0 _ | refine Fr4_I ?_ (by omega)) (by first | exact FldR_tk1 fdm hE | (rw [tk1_no hE]; exact fdm))
          · skip
            refine x_aload_n (pc := 72) dX4_tick_72 (List.Mem.head _) ?_
            refine z_getI (pc := 73) (k := 13) (v := (M 35)) dX4_tick_73 lf_X4_71 sh_104 rfl fdm.2.2.2.1 ?_
            refine x_aload_n (pc := 76) dX4_tick_76 (List.Mem.head _) ?_
            refine z_getY (pc := 77) (k := 1) (r := s) dX4_tick_77 lf_X4_42 sh_104 rfl (by rw [hsm]) (by omega) ?_
            refine z_getI (pc := 80) (k := 9) (v := (q 37)) dX4_tick_80 lf_X4_96 (sh_Sc0 hs) rfl (by rw [es s (by omega) (by omega)]; exact rs37) ?_
            refine z_icmp_ge (pc := 83) (tgt := 97) dX4_tick_83 (by decide) (by omega) (by omega) (by omega) (by omega) (fun hb32 => ?_) (fun hb32 => ?_)
            · skip
              have hE : entB q M = true := by unfold entB; rw [decide_eq_true (by omega : M 33 = 0), decide_eq_true (by omega : M 32 = 0 ∧ q 37 ≤ M 35), Bool.or_true]; rfl
              refine x_aload_n (pc := 97) dX4_tick_97 (List.Mem.head _) ?_
              refine z_iconst (pc := 98) dX4_tick_98 ?_
              refine z_putZ (pc := 99) (k := 11) dX4_tick_99 lp_X4_64 sh_104 rfl (by omega) ?_
              have ok33 := okI okl2 104 11 (v := 1) (by decide) (by decide)
              refine x_aload_n (pc := 102) dX4_tick_102 (List.Mem.head _) ?_
              refine z_iconst (pc := 103) dX4_tick_103 ?_
              refine z_putI (pc := 104) (k := 12) dX4_tick_104 lp_X4_68 sh_104 rfl ?_
              have ok34 := okI ok33 104 12 (v := 0) (by decide) (by decide)
              refine x_weaken (L1 := [(0, .ref 104)]) (List.forall_mem_cons.mpr ⟨(List.Mem.head _), (fun _ h => absurd h List.not_mem_nil)⟩) ?_
              exact jn107  (wI (wI Hm 104 11 (1)) 104 12 (0)) ok34 (by repeat' first | exact Fr4_0 _ | refine Fr4_I ?_ (by omega)) (by first | exact FldR_tk1 fdm hE | (rw [tk1_no hE]; exact fdm))
            · skip
              refine x_aload_n (pc := 86) dX4_tick_86 (List.Mem.head _) ?_
              refine x_aload_n (pc := 87) dX4_tick_87 (List.Mem.head _) ?_
              refine z_getI (pc := 88) (k := 10) (v := (M 32)) dX4_tick_88 lf_X4_61 sh_104 rfl fdm.1 ?_
              refine z_callVbp (pc := 91) (i := mX4_isFree) (S := []) [.int (zN (((M 32))))] dX4_tick_91 ml_X4_99 ok_X4_isFree rfl sh_104 rfl (Or.inr rfl) (Nat.le_of_ble_eq_true rfl) (c_X4_isFree (d := d + 2) (s := s) (q := q) (N := M) (ln := (((M 32)))) (ln1 := (by omega)) (ln2 := (by omega)) (ok := okl2) (hs := hs) (hsc := hsm) (ws := ws) (rs := rsm) (wn := wm) (rd := rdm)) (fun hc37 ok36 => ?_) (fun hc37 ok36 => ?_)
              · skip
                have hfr : tfr q M (M 32) (q 1).toNat = true := hc37
                have hE : entB q M = true := by unfold entB; rw [decide_eq_true (by omega : M 33 = 0), hfr]; rfl
                refine z_if_eq (pc := 94) (tgt := 107) dX4_tick_94 (by decide) (by decide) (by decide) (fun h => absurd h (by decide)) (fun _ => ?_)
                refine x_aload_n (pc := 97) dX4_tick_97 (List.Mem.head _) ?_
                refine z_iconst (pc := 98) dX4_tick_98 ?_
                refine z_putZ (pc := 99) (k := 11) dX4_tick_99 lp_X4_64 sh_104 rfl (by omega) ?_
                have ok39 := okI ok36 104 11 (v := 1) (by decide) (by decide)
                refine x_aload_n (pc := 102) dX4_tick_102 (List.Mem.head _) ?_
                refine z_iconst (pc := 103) dX4_tick_103 ?_
                refine z_putI (pc := 104) (k := 12) dX4_tick_104 lp_X4_68 sh_104 rfl ?_
                have ok40 := okI ok39 104 12 (v := 0) (by decide) (by decide)
                refine x_weaken (L1 := [(0, .ref 104)]) (List.forall_mem_cons.mpr ⟨(List.Mem.head _), (fun _ h => absurd h List.not_mem_nil)⟩) ?_
                exact jn107  (wI (wI Hm 104 11 (1)) 104 12 (0)) ok40 (by repeat' first | exact Fr4_0 _ | refine Fr4_I ?_ (by omega)) (by first | exact FldR_tk1 fdm hE | (rw [tk1_no hE]; exact fdm))
              · skip
                have hfr : tfr q M (M 32) (q 1).toNat = false := Bool.eq_false_iff.mpr hc37
                have hE : entB q M = false := by unfold entB; rw [hfr, decide_eq_false (by omega : ¬ (M 32 = 0 ∧ q 37 ≤ M 35)), Bool.or_false, Bool.and_false]
                refine z_if_eq (pc := 94) (tgt := 107) dX4_tick_94 (by decide) (by decide) (by decide) (fun _ => ?_) (fun h => absurd h (by decide))
                refine x_weaken (L1 := [(0, .ref 104)]) (List.forall_mem_cons.mpr ⟨(List.Mem.head _), (fun _ h => absurd h List.not_mem_nil)⟩) ?_
                exact jn107  Hm ok36 (by repeat' first | exact Fr4_0 _ | refine Fr4_I ?_ (by omega)) (by first | exact FldR_tk1 fdm hE | (rw [tk1_no hE]; exact fdm))
      · skip
        have dmk := rdm.1 k (by omega)
        have vmk := wmC k (by omega)
        refine x_aload_n (pc := 13) dX4_tick_13 (List.Mem.head _) ?_
        refine z_getR (pc := 14) (k := 6) (r := 107) dX4_tick_14 lf_X4_29 sh_104 rfl rf_104_6 ?_
        refine x_iload_n (pc := 17) dX4_tick_17 (List.Mem.tail _ (List.Mem.head _)) ?_
        refine z_iald (pc := 18) (j := k) (v := (M (16 + k))) dX4_tick_18 sh_107 rfl (by omega) (by decide) dmk.2.2.1 ?_
        refine z_if_ne (pc := 19) (tgt := 52) dX4_tick_19 (by decide) (by omega) (by omega) (fun hb42 => ?_) (fun hb42 => ?_)
        · skip
          have hA : ask q M k = false := decide_eq_false (by omega)
          have fr3 := fr
          have md3 : (∀ j, j ≠ 1 → Hm.1 111 j = H.1 111 j) ∧ Hm.1 112 = H.1 112 ∧ Hm.2 = H.2 ∧ Hm.1 111 1 = drw1 q (H.1 104 3) M 40 := ⟨md.1, md.2.1, md.2.2.1, by rw [drw1_no hM41 hA (by omega)]; exact md.2.2.2⟩
          have rdm3 : RepRd Hm q (drw1 q (H.1 104 3) M) := RepRd_cg ws1.2 rdm (fun j hj => drw1_no hM41 hA (by omega))
          refine z_iinc (pc := 52) dX4_tick_52 (List.Mem.tail _ (List.Mem.head _)) (Nat.le_of_ble_eq_true rfl) ?_
          show Ev _ _ _ _ _ [(1, .int (zN ((k : Int) + 1))), (0, .ref 104)] _ _
          refine x_goto (pc := 55) (tgt := 2) dX4_tick_55 (by decide) ?_
          refine x_weaken (L1 := [(0, .ref 104), (1, .int (zN ((((k + 1) : Nat) : Int))))]) (List.forall_mem_cons.mpr ⟨(List.Mem.tail _ (List.Mem.head _)), (List.forall_mem_cons.mpr ⟨(mem_ci (by omega) (List.Mem.head _)), (fun _ h => absurd h List.not_mem_nil)⟩)⟩) ?_
          exact ih2 ((k + 1)) ((drw1 q (H.1 104 3) M)) Hm okl2 (by omega) (by rw [hM]; rfl) (fr3) (rdm3) (md3) (by omega)
        · skip
          refine x_aload_n (pc := 22) dX4_tick_22 (List.Mem.head _) ?_
          refine z_getR (pc := 23) (k := 4) (r := 105) dX4_tick_23 lf_X4_22 sh_104 rfl rf_104_4 ?_
          refine x_iload_n (pc := 26) dX4_tick_26 (List.Mem.tail _ (List.Mem.head _)) ?_
          refine z_iald (pc := 27) (j := k) (v := (M k)) dX4_tick_27 sh_105 rfl (by omega) (by decide) dmk.1 ?_
          refine z_if_le (pc := 28) (tgt := 52) dX4_tick_28 (by decide) (by omega) (by omega) (fun hb43 => ?_) (fun hb43 => ?_)
          · skip
            have hA : ask q M k = false := decide_eq_false (by omega)
            have fr3 := fr
            have md3 : (∀ j, j ≠ 1 → Hm.1 111 j = H.1 111 j) ∧ Hm.1 112 = H.1 112 ∧ Hm.2 = H.2 ∧ Hm.1 111 1 = drw1 q (H.1 104 3) M 40 := ⟨md.1, md.2.1, md.2.2.1, by rw [drw1_no hM41 hA (by omega)]; exact md.2.2.2⟩
            have rdm3 : RepRd Hm q (drw1 q (H.1 104 3) M) := RepRd_cg ws1.2 rdm (fun j hj => drw1_no hM41 hA (by omega))
            refine z_iinc (pc := 52) dX4_tick_52 (List.Mem.tail _ (List.Mem.head _)) (Nat.le_of_ble_eq_true rfl) ?_
            show Ev _ _ _ _ _ [(1, .int (zN ((k : Int) + 1))), (0, .ref 104)] _ _
            refine x_goto (pc := 55) (tgt := 2) dX4_tick_55 (by decide) ?_
            refine x_weaken (L1 := [(0, .ref 104), (1, .int (zN ((((k + 1) : Nat) : Int))))]) (List.forall_mem_cons.mpr ⟨(List.Mem.tail _ (List.Mem.head _)), (List.forall_mem_cons.mpr ⟨(mem_ci (by omega) (List.Mem.head _)), (fun _ h => absurd h List.not_mem_nil)⟩)⟩) ?_
            exact ih2 ((k + 1)) ((drw1 q (H.1 104 3) M)) Hm okl2 (by omega) (by rw [hM]; rfl) (fr3) (rdm3) (md3) (by omega)
          · skip
            refine x_aload_n (pc := 31) dX4_tick_31 (List.Mem.head _) ?_
            refine z_getR (pc := 32) (k := 4) (r := 105) dX4_tick_32 lf_X4_22 sh_104 rfl rf_104_4 ?_
            refine x_iload_n (pc := 35) dX4_tick_35 (List.Mem.tail _ (List.Mem.head _)) ?_
            refine z_iald (pc := 36) (j := k) (v := (M k)) dX4_tick_36 sh_105 rfl (by omega) (by decide) dmk.1 ?_
            refine x_aload_n (pc := 37) dX4_tick_37 (List.Mem.head _) ?_
            refine z_getY (pc := 38) (k := 1) (r := s) dX4_tick_38 lf_X4_42 sh_104 rfl (by rw [hsm]) (by omega) ?_
            refine z_getI (pc := 41) (k := 10) (v := (q 38)) dX4_tick_41 lf_X4_89 (sh_Sc0 hs) rfl (by rw [es s (by omega) (by omega)]; exact rs38) ?_
            refine z_icmp_gt (pc := 44) (tgt := 52) dX4_tick_44 (by decide) (by omega) (by omega) (by omega) (by omega) (fun hb44 => ?_) (fun hb44 => ?_)
            · skip
              have hA : ask q M k = false := decide_eq_false (by omega)
              have fr3 := fr
              have md3 : (∀ j, j ≠ 1 → Hm.1 111 j = H.1 111 j) ∧ Hm.1 112 = H.1 112 ∧ Hm.2 = H.2 ∧ Hm.1 111 1 = drw1 q (H.1 104 3) M 40 := ⟨md.1, md.2.1, md.2.2.1, by rw [drw1_no hM41 hA (by omega)]; exact md.2.2.2⟩
              have rdm3 : RepRd Hm q (drw1 q (H.1 104 3) M) := RepRd_cg ws1.2 rdm (fun j hj => drw1_no hM41 hA (by omega))
              refine z_iinc (pc := 52) dX4_tick_52 (List.Mem.tail _ (List.Mem.head _)) (Nat.le_of_ble_eq_true rfl) ?_
              show Ev _ _ _ _ _ [(1, .int (zN ((k : Int) + 1))), (0, .ref 104)] _ _
              refine x_goto (pc := 55) (tgt := 2) dX4_tick_55 (by decide) ?_
              refine x_weaken (L1 := [(0, .ref 104), (1, .int (zN ((((k + 1) : Nat) : Int))))]) (List.forall_mem_cons.mpr ⟨(List.Mem.tail _ (List.Mem.head _)), (List.forall_mem_cons.mpr ⟨(mem_ci (by omega) (List.Mem.head _)), (fun _ h => absurd h List.not_mem_nil)⟩)⟩) ?_
              exact ih2 ((k + 1)) ((drw1 q (H.1 104 3) M)) Hm okl2 (by omega) (by rw [hM]; rfl) (fr3) (rdm3) (md3) (by omega)
            · skip
              have hA : ask q M k = true := decide_eq_true (by omega)
              refine x_aload_n (pc := 47) dX4_tick_47 (List.Mem.head _) ?_
              refine x_iload_n (pc := 48) dX4_tick_48 (List.Mem.tail _ (List.Mem.head _)) ?_
              refine z_callVv (pc := 49) (i := mX4_decide) (S := []) [.int (zN ((k : Int)))] dX4_tick_49 ml_X4_92 ok_X4_decide rfl sh_104 rfl rfl (Nat.le_of_ble_eq_true rfl) (c_X4_decide_d (d := d) (s := s) (q := q) (N := M) (c := k) (hc := (show (k : Int) < q 1 by omega)) (ok := okl2) (hs := hs) (hsc := hsm) (ws := ws) (rs := rsm) (wn := wm) (rd := rdm) (rl := rlm) (wl := wl) (hdr := ((md.1 0 (by omega)).trans hdr)) (hx := md.2.2.2)) ?_
              intro H3 ok46 hp47
              rw [e3] at hp47
              have h3e : H3 = wI (wI Hm 111 1 (xvF q M (H.1 104 3) k)) 107 k (dvF q M (H.1 104 3) k) := hp47
              have fr3 : DkF H H3 := fun cc a b c => by rw [h3e, wIf (by omega), wIf (by omega)]; exact fr cc a b c
              have rdm3 : RepRd H3 q (drw1 q (H.1 104 3) M) := by rw [h3e]; exact dk_step ws1 wl hM41 (by omega) hA rdm
              have md3 : (∀ j, j ≠ 1 → H3.1 111 j = H.1 111 j) ∧ H3.1 112 = H.1 112 ∧ H3.2 = H.2 ∧ H3.1 111 1 = drw1 q (H.1 104 3) M 40 := by
                rw [h3e]
                refine ⟨fun j hj => by rw [wI1c (by omega), wI1k hj]; exact md.1 j hj, by rw [wIf (by omega), wIf (by omega)]; exact md.2.1, md.2.2.1, ?_⟩
                rw [wI1c (by omega), wI1, (drw1_ask (wo := (H.1 104 3)) wl hM41 (by omega) hA).2]
              refine z_iinc (pc := 52) dX4_tick_52 (List.Mem.tail _ (List.Mem.head _)) (Nat.le_of_ble_eq_true rfl) ?_
              show Ev _ _ _ _ _ [(1, .int (zN ((k : Int) + 1))), (0, .ref 104)] _ _
              refine x_goto (pc := 55) (tgt := 2) dX4_tick_55 (by decide) ?_
              refine x_weaken (L1 := [(0, .ref 104), (1, .int (zN ((((k + 1) : Nat) : Int))))]) (List.forall_mem_cons.mpr ⟨(List.Mem.tail _ (List.Mem.head _)), (List.forall_mem_cons.mpr ⟨(mem_ci (by omega) (List.Mem.head _)), (fun _ h => absurd h List.not_mem_nil)⟩)⟩) ?_
              exact ih2 ((k + 1)) ((drw1 q (H.1 104 3) M)) H3 ok46 (by omega) (by rw [hM]; rfl) (fr3) (rdm3) (md3) (by omega)
  refine x_weaken (L1 := [(0, .ref 104), (1, .int (zN (((0 : Nat) : Int))))]) (List.forall_mem_cons.mpr ⟨(List.Mem.tail _ (List.Mem.head _)), (List.forall_mem_cons.mpr ⟨(mem_ci (by omega) (List.Mem.head _)), (fun _ h => absurd h List.not_mem_nil)⟩)⟩) ?_
  exact lp2 ((q 1).toNat - 0 + 1) (0) (N) H ok (by omega) (rfl) (fun _ _ _ _ => rfl) (rd) (⟨fun _ _ => rfl, rfl, rfl, hx⟩) (Nat.lt_succ_self _)
