/-! GROUP H11: a TEST of THE LAW in the reference. -/
theorem TkS_w0 {H : ZH} {T : Nat → Int} {n p : Nat} {w : Int} (h : TkS H T n w p) {k : Nat} {v : Int} (hk : 14 ≤ k) : TkS (wI H 0 k v) T n w p := by
  obtain ⟨t1, t2, t3, t4, t5, t6, t7⟩ := h
  refine ⟨t1, ?_, ?_, t4, ?_, fun z => ?_, fun z => ?_⟩
  · rw [wI1k (by omega)]; exact t2
  · rw [wIf (by omega)]; exact t3
  · rw [wI1k (by omega)]; exact t5
  · rw [wI1k (by omega), wI1k (by omega), wI1k (by omega), wI1k (by omega)]; exact t6 z
  · rw [wI1k (by omega)]; exact t7 z
/-- only the reading's fields and the steps change (the depth comes back) -/
def FrL (H H1 : ZH) : Prop := (∀ cc k, cc ≠ 5 → ¬ (cc = 0 ∧ (k = 7 ∨ k = 8 ∨ (10 ≤ k ∧ k ≤ 13) ∨ k = 15)) → H1.1 cc k = H.1 cc k) ∧ (∀ k, k < 77 → H1.1 5 k = H.1 5 k) ∧ H1.2 = H.2
theorem FrL_rf (H : ZH) : FrL H H := ⟨fun _ _ _ _ => rfl, fun _ _ => rfl, rfl⟩
theorem FrL_T {H H1 : ZH} (a : FrT H H1) : FrL H H1 := ⟨fun cc k _ h => a.1 cc k (by omega), fun k _ => a.1 5 k (by omega), a.2⟩
theorem FrL_tr {H H1 H2 : ZH} (a : FrL H H1) (b : FrL H1 H2) : FrL H H2 := ⟨fun cc k g h => (b.1 cc k g h).trans (a.1 cc k g h), fun k g => (b.2.1 k g).trans (a.2.1 k g), b.2.2.trans a.2.2⟩
/-- the depth goes up and comes back -/
theorem FrL_14 {H H1 : ZH} {u v : Int} (a : FrL (wI H 0 14 u) H1) (hv : v = H.1 0 14) : FrL H (wI H1 0 14 v) := by
  refine ⟨fun cc k g h => ?_, fun k g => ?_, a.2.2⟩
  · by_cases z : cc = 0 ∧ k = 14
    · rw [z.1, z.2, wI1, hv]
    · rw [wIg, if_neg z, a.1 cc k g h, wIg, if_neg z]
  · rw [wI1c (by omega), a.2.1 k g, wI1c (by omega)]
def RfP (H H1 : ZH) (T : Nat → Int) (n : Nat) (o : Ox) : Prop := TkS H1 T n o.1.1 o.1.2 ∧ (o.1.1 = 0 → H1.1 0 15 = (o.2.1 : Int) ∧ H1.1 5 = o.2.2) ∧ FrL H H1
theorem RfP_tr {H H1 H2 : ZH} {T : Nat → Int} {n : Nat} {o : Ox} (a : FrL H H1) (b : RfP H1 H2 T n o) : RfP H H2 T n o := ⟨b.1, b.2.1, FrL_tr a b.2.2⟩
theorem RfP_eq {H H1 : ZH} {T : Nat → Int} {n : Nat} {o o2 : Ox} (a : RfP H H1 T n o) (e : o2 = o) : RfP H H1 T n o2 := by rw [e]; exact a
theorem em_post {H H1 : ZH} {T : Nat → Int} {n p c : Nat} {w k v : Int} (hS : TkS H T n w p) (h15 : H.1 0 15 = (c : Int)) (hE : H1 = wI (wI (wI H 5 (77 + 2 * (H.1 0 15).toNat) k) 5 (78 + 2 * (H.1 0 15).toNat) v) 0 15 (H.1 0 15 + 1)) : TkS H1 T n w p ∧ H1.1 0 15 = ((c + 1 : Nat) : Int) ∧ H1.1 5 = upA (upA (H.1 5) (77 + 2 * c) k) (78 + 2 * c) v ∧ FrL H H1 := by
  rw [show (H.1 0 15).toNat = c by omega, h15] at hE
  subst hE
  refine ⟨TkS_w0 (TkS_5 (TkS_5 hS _ _) _ _) (by omega), ?_, ?_, ⟨fun cc j g h => ?_, fun j g => ?_, rfl⟩⟩
  · rw [wI1]; omega
  · rw [wIf (by omega), wI_up, wI_up]
  · rw [wIg, if_neg (by omega), wI1c g, wI1c g]
  · rw [wI1c (by omega), wI1k (by omega), wI1k (by omega)]

theorem c_X11_readFact_s {d : Nat} {H : ZH} (ok : okZ H) {T : Nat → Int} {n p c dd f : Nat} (hn : n ≤ 400) (hcp : 2 * c ≤ p) (hdd : dd ≤ 8) (hf : 3 * (n - p) + 1 ≤ f) (hT : ∀ k, 0 ≤ T k ∧ T k ≤ 255) (hS : TkS H T n 0 p) (hd : H.1 0 14 = (dd : Int)) (h15 : H.1 0 15 = (c : Int)) (ihF : dd < 8 → ∀ {H : ZH} (ok : okZ H) {p c f : Nat} (hcp : 2 * c ≤ p) (hf : 3 * (n - p) + 1 ≤ f) (hS : TkS H T n 0 p) (hd : H.1 0 14 = ((dd + 1 : Nat) : Int)) (h15 : H.1 0 15 = (c : Int)), EvC zX (d + 4) mX11_readFact [.ref 0] (eh H) (zPv (fun H1 => RfP H H1 T n (pX T n f 0 (dd + 1) p (c, H.1 5))))) (ihT : dd < 8 → ∀ {H : ZH} (ok : okZ H) {p c f : Nat} (hcp : 2 * c ≤ p) (hf : 3 * (n - p) + 3 ≤ f) (hS : TkS H T n 0 p) (hd : H.1 0 14 = ((dd + 1 : Nat) : Int)) (h15 : H.1 0 15 = (c : Int)), EvC zX (d + 4) mX11_readTest [.ref 0] (eh H) (zPv (fun H1 => RfP H H1 T n (pX T n f 3 (dd + 1) p (c, H.1 5))))) : EvC zX (d + 5) mX11_readFact [.ref 0] (eh H) (zPv (fun (H1 : ZH) => RfP H H1 T n (pX T n f 0 dd p (c, H.1 5)))) := by
  show _ ∧ Ev zX mX11_readFact (EvC zX (d + 4)) (zPv (fun (H1 : ZH) => RfP H H1 T n (pX T n f 0 dd p (c, H.1 5)))) 0 [(0, .ref 0)] [] (eh H)
  refine ⟨Nat.le_of_ble_eq_true rfl, ?_⟩
  have t12 := TkS_12 hS
  have t10 := TkS_10 hS
  have kb := (tk_bd T hS.1).2.2.2.1
  have tb := tk_bd T hS.1
  obtain ⟨f2, hfe⟩ : ∃ f2, f = f2 + 1 := ⟨f - 1, by omega⟩
  obtain ⟨K, hK⟩ : ∃ K, K = tkK T n p := ⟨_, rfl⟩
  refine x_aload_n (pc := 0) dX11_readFact_0 (List.Mem.head _) ?_
  refine z_getI (pc := 1) (k := 12) (v := 0) dX11_readFact_1 lf_X11_133 sh_0 rfl t12 ?_
  refine z_if_eq (pc := 4) (tgt := 8) dX11_readFact_4 (by decide) (by decide) (by decide) (fun _ => ?_) (fun h => absurd h (by decide))
  refine x_aload_n (pc := 8) dX11_readFact_8 (List.Mem.head _) ?_
  refine z_getI (pc := 9) (k := 10) (v := K) dX11_readFact_9 lf_X11_117 sh_0 rfl (t10.trans hK.symm) ?_
  refine x_istore_n (pc := 12) dX11_readFact_12 (Nat.le_of_ble_eq_true rfl) ?_
  show Ev _ _ _ _ _ [(1, .int (zN (K))), (0, .ref 0)] _ _
  have jn25 : (K = 21 ∨ K = 32) → Ev zX mX11_readFact (EvC zX (d + 4)) (zPv (fun (H1 : ZH) => RfP H H1 T n (pX T n f 0 dd p (c, H.1 5)))) 25 [(0, .ref 0), (1, .int (zN (K)))] [] (eh H) := by
    intro hk2
    rcases (show K = 21 ∨ K = 32 by omega) with hcs2 | hcs2
    · skip
      subst hcs2
      refine x_aload_n (pc := 25) dX11_readFact_25 (List.Mem.head _) ?_
      refine z_getI (pc := 26) (k := 14) (v := (dd : Int)) dX11_readFact_26 lf_X11_189 sh_0 rfl hd ?_
      refine z_bipush (pc := 29) dX11_readFact_29 bp_8 ?_
      refine z_icmp_ne (pc := 31) (tgt := 39) dX11_readFact_31 (by decide) (by omega) (by omega) (by decide) (by decide) (fun hb3 => ?_) (fun hb3 => ?_)
      · skip
        have hlt : dd < 8 := by omega
        refine x_aload_n (pc := 39) dX11_readFact_39 (List.Mem.head _) ?_
        refine z_getI (pc := 40) (k := 12) (v := 0) dX11_readFact_40 lf_X11_133 sh_0 rfl t12 ?_
        refine z_if_eq (pc := 43) (tgt := 47) dX11_readFact_43 (by decide) (by decide) (by decide) (fun _ => ?_) (fun h => absurd h (by decide))
        refine x_aload_n (pc := 47) dX11_readFact_47 (List.Mem.head _) ?_
        refine z_callVv (pc := 48) (i := mX11_next) (S := []) [] dX11_readFact_48 ml_X11_142 ok_X11_next rfl sh_0 rfl rfl (Nat.le_of_ble_eq_true rfl) (c_X11_next (d := d + 2) (n := n) (b := (tkE T n p)) (hn := hn) (hb := ((tk_bd T hS.1).2.2.1)) (ok := ok) (h8 := ((hS.2.2.2.2.2.1 rfl).2.1)) (h9 := (hS.2.1)) (ht := (fun k => by rw [hS.2.2.1]; exact hT k))) ?_
        intro Ha ok6 hp7
        have hna := nx2 hS rfl hp7
        refine x_aload_n (pc := 51) dX11_readFact_51 (List.Mem.head _) ?_
        refine x_dup (pc := 52) dX11_readFact_52 rfl ?_
        refine z_getI (pc := 53) (k := 14) (v := (dd : Int)) dX11_readFact_53 lf_X11_189 sh_0 rfl ((hna.2.1 0 14 (by omega)).trans hd) ?_
        refine z_iconst (pc := 56) dX11_readFact_56 ?_
        refine z_iadd (pc := 57) dX11_readFact_57 ?_
        refine z_putI (pc := 58) (k := 14) dX11_readFact_58 lp_X11_189 sh_0 rfl ?_
        have ok8 := okI ok6 0 14 (v := (((dd : Int)) + 1)) (by omega) (by omega)
        refine x_iload_n (pc := 61) dX11_readFact_61 (List.Mem.tail _ (List.Mem.head _)) ?_
        refine z_bipush (pc := 62) dX11_readFact_62 bp_21 ?_
        refine z_icmp_ne (pc := 64) (tgt := 74) dX11_readFact_64 (by decide) (by decide) (by decide) (by decide) (by decide) (fun h => absurd h (by decide)) (fun _ => ?_)
        refine x_aload_n (pc := 67) dX11_readFact_67 (List.Mem.head _) ?_
        refine z_callVv (pc := 68) (i := mX11_readFact) (S := []) [] dX11_readFact_68 ml_X11_186 ok_X11_readFact rfl sh_0 rfl rfl (Nat.le_of_ble_eq_true rfl) ((ihF hlt) (p := (tkE T n p)) (c := c) (f := f2) (hcp := (by omega)) (hf := (by omega)) (ok := ok8) (hS := (TkS_w0 hna.1 (by omega))) (hd := (by rw [wI1]; omega)) (h15 := (by rw [wI1k (by omega)]; exact (hna.2.1 0 15 (by omega)).trans h15))) ?_
        intro H2 ok11 hp12
        have hR := hp12
        rw [show (wI Ha 0 14 ((dd : Int) + 1)).1 5 = H.1 5 from (wIf (by omega)).trans (FrT_5 hna.2)] at hR
        obtain ⟨o, ho⟩ : ∃ o, o = pX T n f2 0 (dd + 1) (tkE T n p) (c, H.1 5) := ⟨_, rfl⟩
        rw [← ho] at hR
        obtain ⟨w9, hw9⟩ : ∃ w9, w9 = o.1.1 := ⟨_, rfl⟩
        have hln : o.1.1 = 0 → _ := fun z => pX_l (T := T) (n := n) (f := f2) (m := 0) (dd := dd + 1) (p := tkE T n p) (s := (c, H.1 5)) tb.2.2.1 (by omega) (by rw [← ho]; exact z)
        rw [← ho] at hln
        refine x_goto (pc := 71) (tgt := 78) dX11_readFact_71 (by decide) ?_
        refine x_aload_n (pc := 78) dX11_readFact_78 (List.Mem.head _) ?_
        refine x_dup (pc := 79) dX11_readFact_79 rfl ?_
        refine z_getI (pc := 80) (k := 14) (v := ((dd : Int) + 1)) dX11_readFact_80 lf_X11_189 sh_0 rfl ((hR.2.2.1 0 14 (by omega) (by omega)).trans (wI1 _ _ _ _)) ?_
        refine z_iconst (pc := 83) dX11_readFact_83 ?_
        refine z_isub (pc := 84) dX11_readFact_84 ?_
        refine z_putI (pc := 85) (k := 14) dX11_readFact_85 lp_X11_189 sh_0 rfl ?_
        have ok13 := okI ok11 0 14 (v := ((((dd : Int) + 1)) - 1)) (by omega) (by omega)
        obtain ⟨Hr, hHr⟩ : ∃ Hr, Hr = (wI H2 0 14 (((((dd : Int) + 1)) - 1))) := ⟨_, rfl⟩
        rw [← hHr]
        have okHr : okZ Hr := by rw [hHr]; exact ok13
        have hRw : TkS Hr T n w9 o.1.2 := by rw [hHr, hw9]; exact TkS_w0 hR.1 (by omega)
        have hRF : FrL H Hr := by
          have y := FrL_14 hR.2.2 (v := (((dd : Int) + 1) - 1)) (by rw [hna.2.1 0 14 (by omega), hd]; omega)
          rw [hHr]
          exact FrL_tr (FrL_T hna.2) y
        have hRc : w9 = 0 → Hr.1 0 15 = (o.2.1 : Int) ∧ Hr.1 5 = o.2.2 := fun z => by rw [hHr, wI1k (by omega), wIf (by omega)]; exact hR.2.1 (hw9.symm.trans z)
        have wb9 := hRw.2.2.2.1
        refine x_iload_n (pc := 88) dX11_readFact_88 (List.Mem.tail _ (List.Mem.head _)) ?_
        refine z_bipush (pc := 89) dX11_readFact_89 bp_32 ?_
        refine z_icmp_ne (pc := 91) (tgt := 103) dX11_readFact_91 (by decide) (by decide) (by decide) (by decide) (by decide) (fun _ => ?_) (fun h => absurd h (by decide))
        refine x_aload_n (pc := 103) dX11_readFact_103 (List.Mem.head _) ?_
        refine z_getI (pc := 104) (k := 12) (v := w9) dX11_readFact_104 lf_X11_133 sh_0 rfl (TkS_12 hRw) ?_
        refine z_if_ne (pc := 107) (tgt := 117) dX11_readFact_107 (by decide) (by omega) (by omega) (fun hb15 => ?_) (fun hb15 => ?_)
        · skip
          have hfin : RfP H Hr T n (pX T n (f2 + 1) 0 dd p (c, H.1 5)) := by
            rw [pX_0n (T := T) (n := n) (f := f2) (p := p) (dd := dd) (s := (c, H.1 5)) hK.symm (by omega), ← ho]
            rw [hw9] at hRw
            exact ⟨hRw, fun z => absurd (hw9.trans z) hb15, hRF⟩
          refine z_vreturn (pc := 117) dX11_readFact_117 rfl okHr ?_
          rw [hfe]
          exact hfin
        · skip
          have hrc := hRc hb15
          have hl : tkE T n p + 2 ≤ o.1.2 ∧ o.1.2 ≤ n ∧ 2 * o.2.1 + tkE T n p ≤ o.1.2 + 2 * c ∧ c ≤ o.2.1 := hln (hw9.symm.trans hb15)
          have tw := tk_w T hS.1 (by omega)
          refine x_aload_n (pc := 110) dX11_readFact_110 (List.Mem.head _) ?_
          refine z_bipush (pc := 111) dX11_readFact_111 bp_21 ?_
          refine z_iconst (pc := 113) dX11_readFact_113 ?_
          refine z_callVv (pc := 114) (i := mX11_emit) (S := []) [.int (zN (21)), .int (zN (0))] dX11_readFact_114 ml_X11_182 ok_X11_emit rfl sh_0 rfl rfl (Nat.le_of_ble_eq_true rfl) (c_X11_emit (d := d + 3) (k := 21) (v := 0) (k1 := (by omega)) (k2 := (by omega)) (v1 := (by omega)) (v2 := (by omega)) (ok := okHr) (hc := (by rw [hrc.1]; omega))) ?_
          intro H3 ok17 hp18
          have he := em_post hRw hrc.1 hp18
          have hfin : RfP H H3 T n (pX T n (f2 + 1) 0 dd p (c, H.1 5)) := by
            rw [pX_0n (T := T) (n := n) (f := f2) (p := p) (dd := dd) (s := (c, H.1 5)) hK.symm (by omega), ← ho]
            rw [hw9] at he
            exact ⟨he.1, fun z => ⟨he.2.1, by rw [he.2.2.1, hrc.2]; rfl⟩, FrL_tr hRF he.2.2.2⟩
          refine z_vreturn (pc := 117) dX11_readFact_117 rfl ok17 ?_
          rw [hfe]
          exact hfin
      · skip
        have e8 : dd = 8 := by omega
        subst e8
        refine x_aload_n (pc := 34) dX11_readFact_34 (List.Mem.head _) ?_
        refine z_iconst (pc := 35) dX11_readFact_35 ?_
        refine z_callVv (pc := 36) (i := mX11_fails) (S := []) [.int (zN (5))] dX11_readFact_36 ml_X11_148 ok_X11_fails rfl sh_0 rfl rfl (Nat.le_of_ble_eq_true rfl) (c_X11_fails (d := d + 3) (a := 5) (a1 := (by omega)) (a2 := (by omega)) (ok := ok)) ?_
        intro H2 ok20 hp21
        have hfl := fl_TkS (by omega) hS hp21
        have ef : pfW T n 5 0 p = 5 := (if_pos rfl).trans (if_neg (by omega))
        have eg : pfP T n 0 p = tkA T n p := if_pos rfl
        have hS2 := TkS_eq hfl.1 ef.symm eg.symm
        have u12 := TkS_12 hS2
        refine x_aload_n (pc := 39) dX11_readFact_39 (List.Mem.head _) ?_
        refine z_getI (pc := 40) (k := 12) (v := 5) dX11_readFact_40 lf_X11_133 sh_0 rfl u12 ?_
        refine z_if_eq (pc := 43) (tgt := 47) dX11_readFact_43 (by decide) (by decide) (by decide) (fun h => absurd h (by decide)) (fun _ => ?_)
        refine z_vreturn (pc := 46) dX11_readFact_46 rfl ok20 ?_
        rw [hfe, pX_0d (T := T) (n := n) (f := f2) (p := p) (s := (c, H.1 5)) (by omega)]
        exact ⟨hS2, fun z => absurd z (show (5 : Int) ≠ 0 by decide), FrL_T hfl.2.1⟩
    · skip
      subst hcs2
      refine x_aload_n (pc := 25) dX11_readFact_25 (List.Mem.head _) ?_
      refine z_getI (pc := 26) (k := 14) (v := (dd : Int)) dX11_readFact_26 lf_X11_189 sh_0 rfl hd ?_
      refine z_bipush (pc := 29) dX11_readFact_29 bp_8 ?_
      refine z_icmp_ne (pc := 31) (tgt := 39) dX11_readFact_31 (by decide) (by omega) (by omega) (by decide) (by decide) (fun hb23 => ?_) (fun hb23 => ?_)
      · skip
        have hlt : dd < 8 := by omega
        refine x_aload_n (pc := 39) dX11_readFact_39 (List.Mem.head _) ?_
        refine z_getI (pc := 40) (k := 12) (v := 0) dX11_readFact_40 lf_X11_133 sh_0 rfl t12 ?_
        refine z_if_eq (pc := 43) (tgt := 47) dX11_readFact_43 (by decide) (by decide) (by decide) (fun _ => ?_) (fun h => absurd h (by decide))
        refine x_aload_n (pc := 47) dX11_readFact_47 (List.Mem.head _) ?_
        refine z_callVv (pc := 48) (i := mX11_next) (S := []) [] dX11_readFact_48 ml_X11_142 ok_X11_next rfl sh_0 rfl rfl (Nat.le_of_ble_eq_true rfl) (c_X11_next (d := d + 2) (n := n) (b := (tkE T n p)) (hn := hn) (hb := ((tk_bd T hS.1).2.2.1)) (ok := ok) (h8 := ((hS.2.2.2.2.2.1 rfl).2.1)) (h9 := (hS.2.1)) (ht := (fun k => by rw [hS.2.2.1]; exact hT k))) ?_
        intro Ha ok26 hp27
        have hna := nx2 hS rfl hp27
        refine x_aload_n (pc := 51) dX11_readFact_51 (List.Mem.head _) ?_
        refine x_dup (pc := 52) dX11_readFact_52 rfl ?_
        refine z_getI (pc := 53) (k := 14) (v := (dd : Int)) dX11_readFact_53 lf_X11_189 sh_0 rfl ((hna.2.1 0 14 (by omega)).trans hd) ?_
        refine z_iconst (pc := 56) dX11_readFact_56 ?_
        refine z_iadd (pc := 57) dX11_readFact_57 ?_
        refine z_putI (pc := 58) (k := 14) dX11_readFact_58 lp_X11_189 sh_0 rfl ?_
        have ok28 := okI ok26 0 14 (v := (((dd : Int)) + 1)) (by omega) (by omega)
        refine x_iload_n (pc := 61) dX11_readFact_61 (List.Mem.tail _ (List.Mem.head _)) ?_
        refine z_bipush (pc := 62) dX11_readFact_62 bp_21 ?_
        refine z_icmp_ne (pc := 64) (tgt := 74) dX11_readFact_64 (by decide) (by decide) (by decide) (by decide) (by decide) (fun _ => ?_) (fun h => absurd h (by decide))
        refine x_aload_n (pc := 74) dX11_readFact_74 (List.Mem.head _) ?_
        refine z_callVv (pc := 75) (i := mX11_readTest) (S := []) [] dX11_readFact_75 ml_X11_192 ok_X11_readTest rfl sh_0 rfl rfl (Nat.le_of_ble_eq_true rfl) ((ihT hlt) (p := (tkE T n p)) (c := c) (f := f2) (hcp := (by omega)) (hf := (by omega)) (ok := ok28) (hS := (TkS_w0 hna.1 (by omega))) (hd := (by rw [wI1]; omega)) (h15 := (by rw [wI1k (by omega)]; exact (hna.2.1 0 15 (by omega)).trans h15))) ?_
        intro H2 ok31 hp32
        have hR := hp32
        rw [show (wI Ha 0 14 ((dd : Int) + 1)).1 5 = H.1 5 from (wIf (by omega)).trans (FrT_5 hna.2)] at hR
        obtain ⟨o, ho⟩ : ∃ o, o = pX T n f2 3 (dd + 1) (tkE T n p) (c, H.1 5) := ⟨_, rfl⟩
        rw [← ho] at hR
        obtain ⟨w9, hw9⟩ : ∃ w9, w9 = o.1.1 := ⟨_, rfl⟩
        have hln : o.1.1 = 0 → _ := fun z => pX_l (T := T) (n := n) (f := f2) (m := 3) (dd := dd + 1) (p := tkE T n p) (s := (c, H.1 5)) tb.2.2.1 (by omega) (by rw [← ho]; exact z)
        rw [← ho] at hln
        refine x_aload_n (pc := 78) dX11_readFact_78 (List.Mem.head _) ?_
        refine x_dup (pc := 79) dX11_readFact_79 rfl ?_
        refine z_getI (pc := 80) (k := 14) (v := ((dd : Int) + 1)) dX11_readFact_80 lf_X11_189 sh_0 rfl ((hR.2.2.1 0 14 (by omega) (by omega)).trans (wI1 _ _ _ _)) ?_
        refine z_iconst (pc := 83) dX11_readFact_83 ?_
        refine z_isub (pc := 84) dX11_readFact_84 ?_
        refine z_putI (pc := 85) (k := 14) dX11_readFact_85 lp_X11_189 sh_0 rfl ?_
        have ok33 := okI ok31 0 14 (v := ((((dd : Int) + 1)) - 1)) (by omega) (by omega)
        obtain ⟨Hr, hHr⟩ : ∃ Hr, Hr = (wI H2 0 14 (((((dd : Int) + 1)) - 1))) := ⟨_, rfl⟩
        rw [← hHr]
        have okHr : okZ Hr := by rw [hHr]; exact ok33
        have hRw : TkS Hr T n w9 o.1.2 := by rw [hHr, hw9]; exact TkS_w0 hR.1 (by omega)
        have hRF : FrL H Hr := by
          have y := FrL_14 hR.2.2 (v := (((dd : Int) + 1) - 1)) (by rw [hna.2.1 0 14 (by omega), hd]; omega)
          rw [hHr]
          exact FrL_tr (FrL_T hna.2) y
        have hRc : w9 = 0 → Hr.1 0 15 = (o.2.1 : Int) ∧ Hr.1 5 = o.2.2 := fun z => by rw [hHr, wI1k (by omega), wIf (by omega)]; exact hR.2.1 (hw9.symm.trans z)
        have wb9 := hRw.2.2.2.1
        refine x_iload_n (pc := 88) dX11_readFact_88 (List.Mem.tail _ (List.Mem.head _)) ?_
        refine z_bipush (pc := 89) dX11_readFact_89 bp_32 ?_
        refine z_icmp_ne (pc := 91) (tgt := 103) dX11_readFact_91 (by decide) (by decide) (by decide) (by decide) (by decide) (fun h => absurd h (by decide)) (fun _ => ?_)
        refine x_aload_n (pc := 94) dX11_readFact_94 (List.Mem.head _) ?_
        refine z_bipush (pc := 95) dX11_readFact_95 bp_33 ?_
        refine z_callVv (pc := 97) (i := mX11_needs) (S := []) [.int (zN (33))] dX11_readFact_97 ml_X11_160 ok_X11_needs rfl sh_0 rfl rfl (Nat.le_of_ble_eq_true rfl) (c_X11_needs (d := d) (a := 33) (hn := hn) (ha := (by omega)) (ok := okHr) (hT := hT) (hS := hRw)) ?_
        intro H3 ok36 hp37
        obtain ⟨hS3, hF3⟩ := hp37
        have hfin : RfP H H3 T n (pX T n (f2 + 1) 0 dd p (c, H.1 5)) := by
          rw [pX_0o (T := T) (n := n) (f := f2) (p := p) (dd := dd) (s := (c, H.1 5)) hK.symm (by omega), ← ho]
          rw [hw9] at hS3
          exact ⟨hS3, fun z => by have y := hRc (hw9.trans (pnW_z z).1); exact ⟨(hF3.1 0 15 (by omega)).trans y.1, (FrT_5 hF3).trans y.2⟩, FrL_tr hRF (FrL_T hF3)⟩
        refine x_goto (pc := 100) (tgt := 117) dX11_readFact_100 (by decide) ?_
        refine z_vreturn (pc := 117) dX11_readFact_117 rfl ok36 ?_
        rw [hfe]
        exact hfin
      · skip
        have e8 : dd = 8 := by omega
        subst e8
        refine x_aload_n (pc := 34) dX11_readFact_34 (List.Mem.head _) ?_
        refine z_iconst (pc := 35) dX11_readFact_35 ?_
        refine z_callVv (pc := 36) (i := mX11_fails) (S := []) [.int (zN (5))] dX11_readFact_36 ml_X11_148 ok_X11_fails rfl sh_0 rfl rfl (Nat.le_of_ble_eq_true rfl) (c_X11_fails (d := d + 3) (a := 5) (a1 := (by omega)) (a2 := (by omega)) (ok := ok)) ?_
        intro H2 ok39 hp40
        have hfl := fl_TkS (by omega) hS hp40
        have ef : pfW T n 5 0 p = 5 := (if_pos rfl).trans (if_neg (by omega))
        have eg : pfP T n 0 p = tkA T n p := if_pos rfl
        have hS2 := TkS_eq hfl.1 ef.symm eg.symm
        have u12 := TkS_12 hS2
        refine x_aload_n (pc := 39) dX11_readFact_39 (List.Mem.head _) ?_
        refine z_getI (pc := 40) (k := 12) (v := 5) dX11_readFact_40 lf_X11_133 sh_0 rfl u12 ?_
        refine z_if_eq (pc := 43) (tgt := 47) dX11_readFact_43 (by decide) (by decide) (by decide) (fun h => absurd h (by decide)) (fun _ => ?_)
        refine z_vreturn (pc := 46) dX11_readFact_46 rfl ok39 ?_
        rw [hfe, pX_0d (T := T) (n := n) (f := f2) (p := p) (s := (c, H.1 5)) (by omega)]
        exact ⟨hS2, fun z => absurd z (show (5 : Int) ≠ 0 by decide), FrL_T hfl.2.1⟩
  refine x_iload_n (pc := 13) dX11_readFact_13 (List.Mem.head _) ?_
  refine z_bipush (pc := 14) dX11_readFact_14 bp_21 ?_
  refine z_icmp_eq (pc := 16) (tgt := 25) dX11_readFact_16 (by decide) (by omega) (by omega) (by decide) (by decide) (fun hb42 => ?_) (fun hb42 => ?_)
  · skip
    refine x_weaken (L1 := [(0, .ref 0), (1, .int (zN (K)))]) (List.forall_mem_cons.mpr ⟨(List.Mem.tail _ (List.Mem.head _)), (List.forall_mem_cons.mpr ⟨(List.Mem.head _), (fun _ h => absurd h List.not_mem_nil)⟩)⟩) ?_
    exact jn25  (by omega)
  · skip
    refine x_iload_n (pc := 19) dX11_readFact_19 (List.Mem.head _) ?_
    refine z_bipush (pc := 20) dX11_readFact_20 bp_32 ?_
    refine z_icmp_ne (pc := 22) (tgt := 118) dX11_readFact_22 (by decide) (by omega) (by omega) (by decide) (by decide) (fun hb43 => ?_) (fun hb43 => ?_)
    · skip
      have jn164 : (K = 4 ∨ (5 ≤ K ∧ K ≤ 12) ∨ (22 ≤ K ∧ K ≤ 28)) → Ev zX mX11_readFact (EvC zX (d + 4)) (zPv (fun (H1 : ZH) => RfP H H1 T n (pX T n f 0 dd p (c, H.1 5)))) 164 [(0, .ref 0), (1, .int (zN (K)))] [] (eh H) := by
        intro hkk
        refine x_aload_n (pc := 164) dX11_readFact_164 (List.Mem.head _) ?_
        refine z_callVv (pc := 165) (i := mX11_next) (S := []) [] dX11_readFact_165 ml_X11_142 ok_X11_next rfl sh_0 rfl rfl (Nat.le_of_ble_eq_true rfl) (c_X11_next (d := d + 2) (n := n) (b := (tkE T n p)) (hn := hn) (hb := ((tk_bd T hS.1).2.2.1)) (ok := ok) (h8 := ((hS.2.2.2.2.2.1 rfl).2.1)) (h9 := (hS.2.1)) (ht := (fun k => by rw [hS.2.2.1]; exact hT k))) ?_
        intro Ha ok45 hp46
        have hna := nx2 hS rfl hp46
        refine x_iload_n (pc := 168) dX11_readFact_168 (List.Mem.tail _ (List.Mem.head _)) ?_
        refine z_iconst (pc := 169) dX11_readFact_169 ?_
        refine z_icmp_eq (pc := 170) (tgt := 187) dX11_readFact_170 (by decide) (by omega) (by omega) (by decide) (by decide) (fun hb47 => ?_) (fun hb47 => ?_)
        · skip
          refine x_aload_n (pc := 187) dX11_readFact_187 (List.Mem.head _) ?_
          refine z_iconst (pc := 188) dX11_readFact_188 ?_
          refine z_sipush (pc := 189) dX11_readFact_189 sp_999 ?_
          refine z_callVi (pc := 192) (i := mX11_takes) (S := []) [.int (zN (0)), .int (zN (999))] dX11_readFact_192 ml_X11_156 ok_X11_takes rfl sh_0 rfl (Or.inl rfl) (Nat.le_of_ble_eq_true rfl) (c_X11_takes (d := d + 1) (lo := 0) (hi := 999) (hn := hn) (lo1 := (by omega)) (lo2 := (by omega)) (hi1 := (by omega)) (hi2 := (by omega)) (ok := ok45) (hT := hT) (hS := hna.1)) ?_
          intro r48 Hb r48a r48b ok49 hp50
          obtain ⟨hrb, hSb, hFb⟩ := hp50
          obtain ⟨w9, hw9⟩ : ∃ w9, w9 = ptW T n 0 999 0 (tkE T n p) := ⟨_, rfl⟩
          rw [← hw9] at hSb hrb
          have wb9 := hSb.2.2.2.1
          have hpx : pX T n (f2 + 1) 0 dd p (c, H.1 5) = (pt T n 0 999 (0, tkE T n p), em (tkK T n p) (tkN T n (tkE T n p)) (c, H.1 5)) := (pX_0s (T := T) (n := n) (f := f2) (p := p) (dd := dd) (s := (c, H.1 5)) (by omega)).trans (if_pos (by omega))
          refine x_goto (pc := 195) (tgt := 199) dX11_readFact_195 (by decide) ?_
          refine x_istore_n (pc := 199) dX11_readFact_199 (Nat.le_of_ble_eq_true rfl) ?_
          show Ev _ _ _ _ _ [(2, .int (zN (r48))), (0, .ref 0), (1, .int (zN (K)))] _ _
          refine x_aload_n (pc := 200) dX11_readFact_200 (List.Mem.tail _ (List.Mem.head _)) ?_
          refine z_getI (pc := 201) (k := 12) (v := w9) dX11_readFact_201 lf_X11_133 sh_0 rfl (TkS_12 hSb) ?_
          refine z_if_ne (pc := 204) (tgt := 213) dX11_readFact_204 (by decide) (by omega) (by omega) (fun hb51 => ?_) (fun hb51 => ?_)
          · skip
            have hfin : RfP H Hb T n (pX T n (f2 + 1) 0 dd p (c, H.1 5)) := by
              rw [hpx]
              rw [hw9] at hSb
              exact ⟨hSb, fun z => absurd (hw9.trans z) hb51, FrL_tr (FrL_T hna.2) (FrL_T hFb)⟩
            refine z_vreturn (pc := 213) dX11_readFact_213 rfl ok49 ?_
            rw [hfe]
            exact hfin
          · skip
            refine x_aload_n (pc := 207) dX11_readFact_207 (List.Mem.tail _ (List.Mem.head _)) ?_
            refine x_iload_n (pc := 208) dX11_readFact_208 (List.Mem.tail _ (List.Mem.tail _ (List.Mem.head _))) ?_
            refine x_iload_n (pc := 209) dX11_readFact_209 (List.Mem.head _) ?_
            refine z_callVv (pc := 210) (i := mX11_emit) (S := []) [.int (zN (K)), .int (zN (r48))] dX11_readFact_210 ml_X11_182 ok_X11_emit rfl sh_0 rfl rfl (Nat.le_of_ble_eq_true rfl) (c_X11_emit (d := d + 3) (k := K) (v := r48) (k1 := (by omega)) (k2 := (by omega)) (v1 := (by omega)) (v2 := (by omega)) (ok := ok49) (hc := (by first | (rw [hFb.1 0 15 (by omega), hna.2.1 0 15 (by omega), h15]; have := hS.1; omega) | (rw [hna.2.1 0 15 (by omega), h15]; have := hS.1; omega)))) ?_
            intro Hc ok53 hp54
            have hfin : RfP H Hc T n (pX T n (f2 + 1) 0 dd p (c, H.1 5)) := by
              first
              | (have he := em_post hSb ((hFb.1 0 15 (by omega)).trans ((hna.2.1 0 15 (by omega)).trans h15)) hp54
                 rw [hpx]
                 rw [hw9] at he
                 exact ⟨he.1, fun z => ⟨he.2.1, by rw [he.2.2.1, FrT_5 hFb, FrT_5 hna.2, hrb (hw9.trans z), hK]; rfl⟩, FrL_tr (FrL_tr (FrL_T hna.2) (FrL_T hFb)) he.2.2.2⟩)
              | (have he := em_post hna.1 ((hna.2.1 0 15 (by omega)).trans h15) hp54
                 rw [pX_0s (T := T) (n := n) (f := f2) (p := p) (dd := dd) (s := (c, H.1 5)) (by omega), show fcS T n p (c, H.1 5) = ((0, tkE T n p), em (tkK T n p) 0 (c, H.1 5)) from (if_neg (by omega)).trans (if_pos (by omega))]
                 exact ⟨he.1, fun z => ⟨he.2.1, by rw [he.2.2.1, FrT_5 hna.2, hK]; rfl⟩, FrL_tr (FrL_T hna.2) he.2.2.2⟩)
            refine z_vreturn (pc := 213) dX11_readFact_213 rfl ok53 ?_
            rw [hfe]
            exact hfin
        · skip
          refine x_iload_n (pc := 173) dX11_readFact_173 (List.Mem.tail _ (List.Mem.head _)) ?_
          refine z_i2l (pc := 174) dX11_readFact_174 (by omega) (by omega) ?_
          refine z_ldc2_w (pc := 175) 22 dX11_readFact_175 cl_X11_195 (by decide) ?_
          refine z_ldc2_w (pc := 178) 24 dX11_readFact_178 cl_X11_199 (by decide) ?_
          refine z_callSbp (pc := 181) (i := mX11_within) (S := []) [.long (zL (K)), .long (zL (22)), .long (zL (24))] dX11_readFact_181 ml_X11_152 ok_X11_within rfl (Or.inr rfl) (Nat.le_of_ble_eq_true rfl) (c_X11_within (d := d + 3) (v := K) (lo := 22) (hi := 24) (v1 := (by omega)) (v2 := (by omega)) (lo1 := (by omega)) (lo2 := (by omega)) (hi1 := (by omega)) (hi2 := (by omega)) (ok := ok45)) (fun hc57 ok56 => ?_) (fun hc57 ok56 => ?_)
          · skip
            refine z_if_eq (pc := 184) (tgt := 198) dX11_readFact_184 (by decide) (by decide) (by decide) (fun h => absurd h (by decide)) (fun _ => ?_)
            refine x_aload_n (pc := 187) dX11_readFact_187 (List.Mem.head _) ?_
            refine z_iconst (pc := 188) dX11_readFact_188 ?_
            refine z_sipush (pc := 189) dX11_readFact_189 sp_999 ?_
            refine z_callVi (pc := 192) (i := mX11_takes) (S := []) [.int (zN (0)), .int (zN (999))] dX11_readFact_192 ml_X11_156 ok_X11_takes rfl sh_0 rfl (Or.inl rfl) (Nat.le_of_ble_eq_true rfl) (c_X11_takes (d := d + 1) (lo := 0) (hi := 999) (hn := hn) (lo1 := (by omega)) (lo2 := (by omega)) (hi1 := (by omega)) (hi2 := (by omega)) (ok := ok56) (hT := hT) (hS := hna.1)) ?_
            intro r59 Hb r59a r59b ok60 hp61
            obtain ⟨hrb, hSb, hFb⟩ := hp61
            obtain ⟨w9, hw9⟩ : ∃ w9, w9 = ptW T n 0 999 0 (tkE T n p) := ⟨_, rfl⟩
            rw [← hw9] at hSb hrb
            have wb9 := hSb.2.2.2.1
            have hpx : pX T n (f2 + 1) 0 dd p (c, H.1 5) = (pt T n 0 999 (0, tkE T n p), em (tkK T n p) (tkN T n (tkE T n p)) (c, H.1 5)) := (pX_0s (T := T) (n := n) (f := f2) (p := p) (dd := dd) (s := (c, H.1 5)) (by omega)).trans (if_pos (by omega))
            refine x_goto (pc := 195) (tgt := 199) dX11_readFact_195 (by decide) ?_
            refine x_istore_n (pc := 199) dX11_readFact_199 (Nat.le_of_ble_eq_true rfl) ?_
            show Ev _ _ _ _ _ [(2, .int (zN (r59))), (0, .ref 0), (1, .int (zN (K)))] _ _
            refine x_aload_n (pc := 200) dX11_readFact_200 (List.Mem.tail _ (List.Mem.head _)) ?_
            refine z_getI (pc := 201) (k := 12) (v := w9) dX11_readFact_201 lf_X11_133 sh_0 rfl (TkS_12 hSb) ?_
            refine z_if_ne (pc := 204) (tgt := 213) dX11_readFact_204 (by decide) (by omega) (by omega) (fun hb62 => ?_) (fun hb62 => ?_)
            · skip
              have hfin : RfP H Hb T n (pX T n (f2 + 1) 0 dd p (c, H.1 5)) := by
                rw [hpx]
                rw [hw9] at hSb
                exact ⟨hSb, fun z => absurd (hw9.trans z) hb62, FrL_tr (FrL_T hna.2) (FrL_T hFb)⟩
              refine z_vreturn (pc := 213) dX11_readFact_213 rfl ok60 ?_
              rw [hfe]
              exact hfin
            · skip
              refine x_aload_n (pc := 207) dX11_readFact_207 (List.Mem.tail _ (List.Mem.head _)) ?_
              refine x_iload_n (pc := 208) dX11_readFact_208 (List.Mem.tail _ (List.Mem.tail _ (List.Mem.head _))) ?_
              refine x_iload_n (pc := 209) dX11_readFact_209 (List.Mem.head _) ?_
              refine z_callVv (pc := 210) (i := mX11_emit) (S := []) [.int (zN (K)), .int (zN (r59))] dX11_readFact_210 ml_X11_182 ok_X11_emit rfl sh_0 rfl rfl (Nat.le_of_ble_eq_true rfl) (c_X11_emit (d := d + 3) (k := K) (v := r59) (k1 := (by omega)) (k2 := (by omega)) (v1 := (by omega)) (v2 := (by omega)) (ok := ok60) (hc := (by first | (rw [hFb.1 0 15 (by omega), hna.2.1 0 15 (by omega), h15]; have := hS.1; omega) | (rw [hna.2.1 0 15 (by omega), h15]; have := hS.1; omega)))) ?_
              intro Hc ok64 hp65
              have hfin : RfP H Hc T n (pX T n (f2 + 1) 0 dd p (c, H.1 5)) := by
                first
                | (have he := em_post hSb ((hFb.1 0 15 (by omega)).trans ((hna.2.1 0 15 (by omega)).trans h15)) hp65
                   rw [hpx]
                   rw [hw9] at he
                   exact ⟨he.1, fun z => ⟨he.2.1, by rw [he.2.2.1, FrT_5 hFb, FrT_5 hna.2, hrb (hw9.trans z), hK]; rfl⟩, FrL_tr (FrL_tr (FrL_T hna.2) (FrL_T hFb)) he.2.2.2⟩)
                | (have he := em_post hna.1 ((hna.2.1 0 15 (by omega)).trans h15) hp65
                   rw [pX_0s (T := T) (n := n) (f := f2) (p := p) (dd := dd) (s := (c, H.1 5)) (by omega), show fcS T n p (c, H.1 5) = ((0, tkE T n p), em (tkK T n p) 0 (c, H.1 5)) from (if_neg (by omega)).trans (if_pos (by omega))]
                   exact ⟨he.1, fun z => ⟨he.2.1, by rw [he.2.2.1, FrT_5 hna.2, hK]; rfl⟩, FrL_tr (FrL_T hna.2) he.2.2.2⟩)
              refine z_vreturn (pc := 213) dX11_readFact_213 rfl ok64 ?_
              rw [hfe]
              exact hfin
          · skip
            refine z_if_eq (pc := 184) (tgt := 198) dX11_readFact_184 (by decide) (by decide) (by decide) (fun _ => ?_) (fun h => absurd h (by decide))
            refine z_iconst (pc := 198) dX11_readFact_198 ?_
            refine x_istore_n (pc := 199) dX11_readFact_199 (Nat.le_of_ble_eq_true rfl) ?_
            show Ev _ _ _ _ _ [(2, .int (zN (0))), (0, .ref 0), (1, .int (zN (K)))] _ _
            refine x_aload_n (pc := 200) dX11_readFact_200 (List.Mem.tail _ (List.Mem.head _)) ?_
            refine z_getI (pc := 201) (k := 12) (v := 0) dX11_readFact_201 lf_X11_133 sh_0 rfl (TkS_12 hna.1) ?_
            refine z_if_ne (pc := 204) (tgt := 213) dX11_readFact_204 (by decide) (by decide) (by decide) (fun h => absurd h (by decide)) (fun _ => ?_)
            refine x_aload_n (pc := 207) dX11_readFact_207 (List.Mem.tail _ (List.Mem.head _)) ?_
            refine x_iload_n (pc := 208) dX11_readFact_208 (List.Mem.tail _ (List.Mem.tail _ (List.Mem.head _))) ?_
            refine x_iload_n (pc := 209) dX11_readFact_209 (List.Mem.head _) ?_
            refine z_callVv (pc := 210) (i := mX11_emit) (S := []) [.int (zN (K)), .int (zN (0))] dX11_readFact_210 ml_X11_182 ok_X11_emit rfl sh_0 rfl rfl (Nat.le_of_ble_eq_true rfl) (c_X11_emit (d := d + 3) (k := K) (v := 0) (k1 := (by omega)) (k2 := (by omega)) (v1 := (by omega)) (v2 := (by omega)) (ok := ok56) (hc := (by first | (rw [hFb.1 0 15 (by omega), hna.2.1 0 15 (by omega), h15]; have := hS.1; omega) | (rw [hna.2.1 0 15 (by omega), h15]; have := hS.1; omega)))) ?_
            intro Hc ok69 hp70
            have hfin : RfP H Hc T n (pX T n (f2 + 1) 0 dd p (c, H.1 5)) := by
              first
              | (have he := em_post hSb ((hFb.1 0 15 (by omega)).trans ((hna.2.1 0 15 (by omega)).trans h15)) hp70
                 rw [hpx]
                 rw [hw9] at he
                 exact ⟨he.1, fun z => ⟨he.2.1, by rw [he.2.2.1, FrT_5 hFb, FrT_5 hna.2, hrb (hw9.trans z), hK]; rfl⟩, FrL_tr (FrL_tr (FrL_T hna.2) (FrL_T hFb)) he.2.2.2⟩)
              | (have he := em_post hna.1 ((hna.2.1 0 15 (by omega)).trans h15) hp70
                 rw [pX_0s (T := T) (n := n) (f := f2) (p := p) (dd := dd) (s := (c, H.1 5)) (by omega), show fcS T n p (c, H.1 5) = ((0, tkE T n p), em (tkK T n p) 0 (c, H.1 5)) from (if_neg (by omega)).trans (if_pos (by omega))]
                 exact ⟨he.1, fun z => ⟨he.2.1, by rw [he.2.2.1, FrT_5 hna.2, hK]; rfl⟩, FrL_tr (FrL_T hna.2) he.2.2.2⟩)
            refine z_vreturn (pc := 213) dX11_readFact_213 rfl ok69 ?_
            rw [hfe]
            exact hfin
      refine x_iload_n (pc := 118) dX11_readFact_118 (List.Mem.head _) ?_
      refine z_iconst (pc := 119) dX11_readFact_119 ?_
      refine z_icmp_eq (pc := 120) (tgt := 156) dX11_readFact_120 (by decide) (by omega) (by omega) (by decide) (by decide) (fun hb71 => ?_) (fun hb71 => ?_)
      · skip
        refine x_aload_n (pc := 156) dX11_readFact_156 (List.Mem.tail _ (List.Mem.head _)) ?_
        refine z_getI (pc := 157) (k := 12) (v := 0) dX11_readFact_157 lf_X11_133 sh_0 rfl t12 ?_
        refine z_if_eq (pc := 160) (tgt := 164) dX11_readFact_160 (by decide) (by decide) (by decide) (fun _ => ?_) (fun h => absurd h (by decide))
        refine x_weaken (L1 := [(0, .ref 0), (1, .int (zN (K)))]) (List.forall_mem_cons.mpr ⟨(List.Mem.tail _ (List.Mem.head _)), (List.forall_mem_cons.mpr ⟨(List.Mem.head _), (fun _ h => absurd h List.not_mem_nil)⟩)⟩) ?_
        exact jn164  (by omega)
      · skip
        refine x_iload_n (pc := 123) dX11_readFact_123 (List.Mem.head _) ?_
        refine z_i2l (pc := 124) dX11_readFact_124 (by omega) (by omega) ?_
        refine z_ldc2_w (pc := 125) 5 dX11_readFact_125 cl_X11_172 (by decide) ?_
        refine z_ldc2_w (pc := 128) 12 dX11_readFact_128 cl_X11_174 (by decide) ?_
        refine z_callSbp (pc := 131) (i := mX11_within) (S := []) [.long (zL (K)), .long (zL (5)), .long (zL (12))] dX11_readFact_131 ml_X11_152 ok_X11_within rfl (Or.inr rfl) (Nat.le_of_ble_eq_true rfl) (c_X11_within (d := d + 3) (v := K) (lo := 5) (hi := 12) (v1 := (by omega)) (v2 := (by omega)) (lo1 := (by omega)) (lo2 := (by omega)) (hi1 := (by omega)) (hi2 := (by omega)) (ok := ok)) (fun hc75 ok74 => ?_) (fun hc75 ok74 => ?_)
        · skip
          refine z_if_ne (pc := 134) (tgt := 156) dX11_readFact_134 (by decide) (by decide) (by decide) (fun _ => ?_) (fun h => absurd h (by decide))
          refine x_aload_n (pc := 156) dX11_readFact_156 (List.Mem.tail _ (List.Mem.head _)) ?_
          refine z_getI (pc := 157) (k := 12) (v := 0) dX11_readFact_157 lf_X11_133 sh_0 rfl t12 ?_
          refine z_if_eq (pc := 160) (tgt := 164) dX11_readFact_160 (by decide) (by decide) (by decide) (fun _ => ?_) (fun h => absurd h (by decide))
          refine x_weaken (L1 := [(0, .ref 0), (1, .int (zN (K)))]) (List.forall_mem_cons.mpr ⟨(List.Mem.tail _ (List.Mem.head _)), (List.forall_mem_cons.mpr ⟨(List.Mem.head _), (fun _ h => absurd h List.not_mem_nil)⟩)⟩) ?_
          exact jn164  (by omega)
        · skip
          refine z_if_ne (pc := 134) (tgt := 156) dX11_readFact_134 (by decide) (by decide) (by decide) (fun h => absurd h (by decide)) (fun _ => ?_)
          refine x_iload_n (pc := 137) dX11_readFact_137 (List.Mem.head _) ?_
          refine z_i2l (pc := 138) dX11_readFact_138 (by omega) (by omega) ?_
          refine z_ldc2_w (pc := 139) 22 dX11_readFact_139 cl_X11_195 (by decide) ?_
          refine z_ldc2_w (pc := 142) 28 dX11_readFact_142 cl_X11_197 (by decide) ?_
          refine z_callSbp (pc := 145) (i := mX11_within) (S := []) [.long (zL (K)), .long (zL (22)), .long (zL (28))] dX11_readFact_145 ml_X11_152 ok_X11_within rfl (Or.inr rfl) (Nat.le_of_ble_eq_true rfl) (c_X11_within (d := d + 3) (v := K) (lo := 22) (hi := 28) (v1 := (by omega)) (v2 := (by omega)) (lo1 := (by omega)) (lo2 := (by omega)) (hi1 := (by omega)) (hi2 := (by omega)) (ok := ok74)) (fun hc81 ok80 => ?_) (fun hc81 ok80 => ?_)
          · skip
            refine z_if_ne (pc := 148) (tgt := 156) dX11_readFact_148 (by decide) (by decide) (by decide) (fun _ => ?_) (fun h => absurd h (by decide))
            refine x_aload_n (pc := 156) dX11_readFact_156 (List.Mem.tail _ (List.Mem.head _)) ?_
            refine z_getI (pc := 157) (k := 12) (v := 0) dX11_readFact_157 lf_X11_133 sh_0 rfl t12 ?_
            refine z_if_eq (pc := 160) (tgt := 164) dX11_readFact_160 (by decide) (by decide) (by decide) (fun _ => ?_) (fun h => absurd h (by decide))
            refine x_weaken (L1 := [(0, .ref 0), (1, .int (zN (K)))]) (List.forall_mem_cons.mpr ⟨(List.Mem.tail _ (List.Mem.head _)), (List.forall_mem_cons.mpr ⟨(List.Mem.head _), (fun _ h => absurd h List.not_mem_nil)⟩)⟩) ?_
            exact jn164  (by omega)
          · skip
            refine z_if_ne (pc := 148) (tgt := 156) dX11_readFact_148 (by decide) (by decide) (by decide) (fun h => absurd h (by decide)) (fun _ => ?_)
            refine x_aload_n (pc := 151) dX11_readFact_151 (List.Mem.tail _ (List.Mem.head _)) ?_
            refine z_iconst (pc := 152) dX11_readFact_152 ?_
            refine z_callVv (pc := 153) (i := mX11_fails) (S := []) [.int (zN (2))] dX11_readFact_153 ml_X11_148 ok_X11_fails rfl sh_0 rfl rfl (Nat.le_of_ble_eq_true rfl) (c_X11_fails (d := d + 3) (a := 2) (a1 := (by omega)) (a2 := (by omega)) (ok := ok80)) ?_
            intro H2 ok86 hp87
            have hfl := fl_TkS (by omega) hS hp87
            have eg : pfP T n 0 p = tkA T n p := if_pos rfl
            obtain ⟨w9, hw9⟩ : ∃ w9, w9 = pfW T n 2 0 p := ⟨_, rfl⟩
            rw [← hw9, eg] at hfl
            have hw0 : w9 ≠ 0 := by have e : pfW T n 2 0 p = if tkK T n p = 35 then 1 else 2 := if_pos rfl; rw [hw9, e]; split <;> omega
            have wb9 := hfl.1.2.2.2.1
            have hfin : RfP H H2 T n (pX T n (f2 + 1) 0 dd p (c, H.1 5)) := by
              rw [pX_0s (T := T) (n := n) (f := f2) (p := p) (dd := dd) (s := (c, H.1 5)) (by omega), show fcS T n p (c, H.1 5) = ((pfW T n 2 0 p, tkA T n p), (c, H.1 5)) from (if_neg (by omega)).trans (if_neg (by omega)), ← hw9]
              exact ⟨hfl.1, fun z => absurd z hw0, FrL_T hfl.2.1⟩
            refine x_aload_n (pc := 156) dX11_readFact_156 (List.Mem.tail _ (List.Mem.head _)) ?_
            refine z_getI (pc := 157) (k := 12) (v := w9) dX11_readFact_157 lf_X11_133 sh_0 rfl (TkS_12 hfl.1) ?_
            refine z_if_eq (pc := 160) (tgt := 164) dX11_readFact_160 (by decide) (by omega) (by omega) (fun hb88 => ?_) (fun hb88 => ?_)
            · skip
              exact absurd hb88 hw0
            · skip
              refine z_vreturn (pc := 163) dX11_readFact_163 rfl ok86 ?_
              rw [hfe]
              exact hfin
    · skip
      refine x_weaken (L1 := [(0, .ref 0), (1, .int (zN (K)))]) (List.forall_mem_cons.mpr ⟨(List.Mem.tail _ (List.Mem.head _)), (List.forall_mem_cons.mpr ⟨(List.Mem.head _), (fun _ h => absurd h List.not_mem_nil)⟩)⟩) ?_
      exact jn25  (by omega)

theorem c_X11_readPart_s {d : Nat} {H : ZH} (ok : okZ H) {T : Nat → Int} {n p c dd f : Nat} (hn : n ≤ 400) (hcp : 2 * c ≤ p) (hdd : dd ≤ 8) (hf : 3 * (n - p) + 2 ≤ f) (hT : ∀ k, 0 ≤ T k ∧ T k ≤ 255) (hS : TkS H T n 0 p) (hd : H.1 0 14 = (dd : Int)) (h15 : H.1 0 15 = (c : Int)) (ihF : ∀ {H : ZH} (ok : okZ H) {p c f : Nat} (hcp : 2 * c ≤ p) (hf : 3 * (n - p) + 1 ≤ f) (hS : TkS H T n 0 p) (hd : H.1 0 14 = ((dd : Nat) : Int)) (h15 : H.1 0 15 = (c : Int)), EvC zX (d + 5) mX11_readFact [.ref 0] (eh H) (zPv (fun H1 => RfP H H1 T n (pX T n f 0 (dd) p (c, H.1 5))))) : EvC zX (d + 6) mX11_readPart [.ref 0] (eh H) (zPv (fun (H1 : ZH) => RfP H H1 T n (pX T n f 1 dd p (c, H.1 5)))) := by
  show _ ∧ Ev zX mX11_readPart (EvC zX (d + 5)) (zPv (fun (H1 : ZH) => RfP H H1 T n (pX T n f 1 dd p (c, H.1 5)))) 0 [(0, .ref 0)] [] (eh H)
  refine ⟨Nat.le_of_ble_eq_true rfl, ?_⟩
  obtain ⟨f2, hfe⟩ : ∃ f2, f = f2 + 1 := ⟨f - 1, by omega⟩
  have tb := tk_bd T hS.1
  refine x_aload_n (pc := 0) dX11_readPart_0 (List.Mem.head _) ?_
  refine z_callVv (pc := 1) (i := mX11_readFact) (S := []) [] dX11_readPart_1 ml_X11_186 ok_X11_readFact rfl sh_0 rfl rfl (Nat.le_of_ble_eq_true rfl) (ihF (p := p) (c := c) (f := f2) (hcp := (by omega)) (hf := (by omega)) (ok := ok) (hS := hS) (hd := hd) (h15 := h15)) ?_
  intro Ha ok2 hp3
  have hR0 := hp3
  have hl0 : (pX T n f2 0 dd p (c, H.1 5)).1.1 = 0 → 2 * (pX T n f2 0 dd p (c, H.1 5)).2.1 ≤ (pX T n f2 0 dd p (c, H.1 5)).1.2 := fun z => by have y := pX_l (T := T) (n := n) (f := f2) (m := 0) (dd := dd) (p := p) (s := (c, H.1 5)) hS.1 (by omega) z; have y3 : 2 * (pX T n f2 0 dd p (c, H.1 5)).2.1 + p ≤ (pX T n f2 0 dd p (c, H.1 5)).1.2 + 2 * c := y.2.2.1; omega
  have lp4 : ∀ (nF : Nat) (o : Ox) (f4 : Nat) (Hl : ZH), okZ Hl → (RfP H Hl T n o) → (o.1.1 = 0 → 2 * o.2.1 ≤ o.1.2) → (o.1.1 = 0 → 3 * (n - o.1.2) ≤ f4) → (pX T n (f2 + 1) 1 dd p (c, H.1 5) = cnt T n 20 false o (pX T n f4 2 dd)) → (if o.1.1 = 0 then n - o.1.2 + 1 else 0) < nF → Ev zX mX11_readPart (EvC zX (d + 5)) (zPv (fun (H1 : ZH) => RfP H H1 T n (pX T n f 1 dd p (c, H.1 5)))) 4 [(0, .ref 0)] [] (eh Hl) := by
    intro nF
    induction nF with
    | zero => intro o f4 Hl okl4 hRl hcl hfl het hm; exact absurd hm (Nat.not_lt_zero _)
    | succ nF ih4 =>
      intro o f4 Hl okl4 hRl hcl hfl het hm
      refine x_aload_n (pc := 4) dX11_readPart_4 (List.Mem.head _) ?_
      refine z_bipush (pc := 5) dX11_readPart_5 bp_20 ?_
      refine z_callVi (pc := 7) (i := mX11_eats) (S := []) [.int (zN (20))] dX11_readPart_7 ml_X11_145 ok_X11_eats rfl sh_0 rfl (Or.inr rfl) (Nat.le_of_ble_eq_true rfl) (c_X11_eats (d := d + 2) (a := 20) (hn := hn) (ha := (by omega)) (ok := okl4) (hT := hT) (hS := hRl.1)) ?_
      intro r4 Hb r4a r4b ok5 hp6
      obtain ⟨hrb, hSb, hFb⟩ := hp6
      refine z_if_eq (pc := 10) (tgt := 34) dX11_readPart_10 (by decide) (by omega) (by omega) (fun hb7 => ?_) (fun hb7 => ?_)
      · skip
        have hno : ¬ (o.1.1 = 0 ∧ tkK T n o.1.2 = 20) := fun z => by rw [if_pos z] at hrb; omega
        rw [if_neg hno] at hSb
        refine z_vreturn (pc := 34) dX11_readPart_34 rfl ok5 ?_
        rw [hfe, het]
        by_cases hw0 : o.1.1 = 0
        · rw [cnt_end hw0 (fun z => hno ⟨hw0, z⟩)]
          exact ⟨hSb, fun z => ⟨(hFb.1 0 15 (by omega)).trans (hRl.2.1 z).1, (FrT_5 hFb).trans (hRl.2.1 z).2⟩, FrL_tr hRl.2.2 (FrL_T hFb)⟩
        · rw [cnt_bad hw0]
          exact ⟨hSb, fun z => absurd z hw0, FrL_tr hRl.2.2 (FrL_T hFb)⟩
      · skip
        have hyes : o.1.1 = 0 ∧ tkK T n o.1.2 = 20 := if z : o.1.1 = 0 ∧ tkK T n o.1.2 = 20 then z else (by rw [if_neg z] at hrb; omega)
        obtain ⟨hw0, hkop⟩ := hyes
        rw [if_pos ⟨hw0, hkop⟩, hw0] at hSb
        have hoc := hRl.2.1 hw0
        have hc2 := hcl hw0
        have hf2 := hfl hw0
        have tw := tk_w T hRl.1.1 (by omega)
        obtain ⟨f3, rfl⟩ : ∃ f3, f4 = f3 + 1 := ⟨f4 - 1, by have := tk_bd T hRl.1.1; omega⟩
        have tbo := tk_bd T hRl.1.1
        refine x_aload_n (pc := 13) dX11_readPart_13 (List.Mem.head _) ?_
        refine z_callVv (pc := 14) (i := mX11_readFact) (S := []) [] dX11_readPart_14 ml_X11_186 ok_X11_readFact rfl sh_0 rfl rfl (Nat.le_of_ble_eq_true rfl) (ihF (p := (tkE T n o.1.2)) (c := o.2.1) (f := f3) (hcp := (by omega)) (hf := (by omega)) (ok := ok5) (hS := hSb) (hd := ((hFb.1 0 14 (by omega)).trans ((hRl.2.2.1 0 14 (by omega) (by omega)).trans hd))) (h15 := ((hFb.1 0 15 (by omega)).trans hoc.1))) ?_
        intro Hf ok9 hp10
        have hRf := hp10
        rw [(FrT_5 hFb).trans hoc.2] at hRf
        obtain ⟨o2, ho2⟩ : ∃ o2, o2 = pX T n f3 0 dd (tkE T n o.1.2) (o.2.1, o.2.2) := ⟨_, rfl⟩
        rw [← ho2] at hRf
        have hl2 : o2.1.1 = 0 → tkE T n o.1.2 + 2 ≤ o2.1.2 ∧ o2.1.2 ≤ n ∧ 2 * o2.2.1 + tkE T n o.1.2 ≤ o2.1.2 + 2 * o.2.1 := fun z => by have y := pX_l (T := T) (n := n) (f := f3) (m := 0) (dd := dd) (p := tkE T n o.1.2) (s := (o.2.1, o.2.2)) hSb.1 (by omega) (by rw [← ho2]; exact z); rw [← ho2] at y; exact ⟨y.1, y.2.1, y.2.2.1⟩
        have htot : pX T n (f2 + 1) 1 dd p (c, H.1 5) = cnt T n 20 true o2 (pX T n f3 2 dd) := by rw [het, cnt_go hw0 hkop, ho2]; exact pX_2
        have hRf2 : RfP H Hf T n o2 := RfP_tr (FrL_tr hRl.2.2 (FrL_T hFb)) hRf
        have ww := hRf.1.2.2.2.1
        refine x_aload_n (pc := 17) dX11_readPart_17 (List.Mem.head _) ?_
        refine z_getI (pc := 18) (k := 12) (v := (o2.1.1)) dX11_readPart_18 lf_X11_133 sh_0 rfl (TkS_12 hRf.1) ?_
        refine z_if_ne (pc := 21) (tgt := 4) dX11_readPart_21 (by decide) (by omega) (by omega) (fun hb11 => ?_) (fun hb11 => ?_)
        · skip
          have hz2 := hb11
          refine x_weaken (L1 := [(0, .ref 0)]) (List.forall_mem_cons.mpr ⟨(List.Mem.head _), (fun _ h => absurd h List.not_mem_nil)⟩) ?_
          exact ih4 (o2) (f3) Hf ok9 (by first | exact hRe | exact hRf2) (by first | (intro z; exact absurd z hz2) | (intro z; have y := hl2 hz2; show 2 * (o2.2.1 + 1) ≤ o2.1.2; omega)) (by first | (intro z; exact absurd z hz2) | (intro z; have y := hl2 hz2; show 3 * (n - o2.1.2) ≤ f3; omega)) (by first | (rw [htot, cnt_tr hz2]; done) | (rw [htot, cnt_bad hz2, cnt_bad hz2]; done)) (by rw [if_pos hw0] at hm; first | (rw [if_neg hz2]; omega) | (have y := hl2 hz2; show (if o2.1.1 = 0 then n - o2.1.2 + 1 else 0) < _; rw [if_pos hz2]; omega))
        · skip
          have hz2 := hb11
          refine x_aload_n (pc := 24) dX11_readPart_24 (List.Mem.head _) ?_
          refine z_bipush (pc := 25) dX11_readPart_25 bp_20 ?_
          refine z_iconst (pc := 27) dX11_readPart_27 ?_
          refine z_callVv (pc := 28) (i := mX11_emit) (S := []) [.int (zN (20)), .int (zN (0))] dX11_readPart_28 ml_X11_182 ok_X11_emit rfl sh_0 rfl rfl (Nat.le_of_ble_eq_true rfl) (c_X11_emit (d := d + 4) (k := 20) (v := 0) (k1 := (by omega)) (k2 := (by omega)) (v1 := (by omega)) (v2 := (by omega)) (ok := ok9) (hc := (by rw [(hRf.2.1 hz2).1]; have := hl2 hz2; omega))) ?_
          intro He ok13 hp14
          have he := em_post hRf.1 (hRf.2.1 hz2).1 hp14
          have hRe : RfP H He T n (o2.1, em 20 0 o2.2) := ⟨he.1, fun _ => ⟨he.2.1, by rw [he.2.2.1, (hRf.2.1 hz2).2]; rfl⟩, FrL_tr hRf2.2.2 he.2.2.2⟩
          refine x_goto (pc := 31) (tgt := 4) dX11_readPart_31 (by decide) ?_
          refine x_weaken (L1 := [(0, .ref 0)]) (List.forall_mem_cons.mpr ⟨(List.Mem.head _), (fun _ h => absurd h List.not_mem_nil)⟩) ?_
          exact ih4 ((o2.1, em 20 0 o2.2)) (f3) He ok13 (by first | exact hRe | exact hRf2) (by first | (intro z; exact absurd z hz2) | (intro z; have y := hl2 hz2; show 2 * (o2.2.1 + 1) ≤ o2.1.2; omega)) (by first | (intro z; exact absurd z hz2) | (intro z; have y := hl2 hz2; show 3 * (n - o2.1.2) ≤ f3; omega)) (by first | (rw [htot, cnt_tr hz2]; done) | (rw [htot, cnt_bad hz2, cnt_bad hz2]; done)) (by rw [if_pos hw0] at hm; first | (rw [if_neg hz2]; omega) | (have y := hl2 hz2; show (if o2.1.1 = 0 then n - o2.1.2 + 1 else 0) < _; rw [if_pos hz2]; omega))
  refine x_weaken (L1 := [(0, .ref 0)]) (List.forall_mem_cons.mpr ⟨(List.Mem.head _), (fun _ h => absurd h List.not_mem_nil)⟩) ?_
  exact lp4 ((if (pX T n f2 0 dd p (c, H.1 5)).1.1 = 0 then n - (pX T n f2 0 dd p (c, H.1 5)).1.2 + 1 else 0) + 1) ((pX T n f2 0 dd p (c, H.1 5))) (f2) Ha ok2 (hR0) (hl0) (fun z => by have y := pX_l (T := T) (n := n) (f := f2) (m := 0) (dd := dd) (p := p) (s := (c, H.1 5)) hS.1 (by omega) z; omega) (pX_1) (Nat.lt_succ_self _)

theorem c_X11_readTest_s {d : Nat} {H : ZH} (ok : okZ H) {T : Nat → Int} {n p c dd f : Nat} (hn : n ≤ 400) (hcp : 2 * c ≤ p) (hdd : dd ≤ 8) (hf : 3 * (n - p) + 3 ≤ f) (hT : ∀ k, 0 ≤ T k ∧ T k ≤ 255) (hS : TkS H T n 0 p) (hd : H.1 0 14 = (dd : Int)) (h15 : H.1 0 15 = (c : Int)) (ihF : ∀ {H : ZH} (ok : okZ H) {p c f : Nat} (hcp : 2 * c ≤ p) (hf : 3 * (n - p) + 2 ≤ f) (hS : TkS H T n 0 p) (hd : H.1 0 14 = ((dd : Nat) : Int)) (h15 : H.1 0 15 = (c : Int)), EvC zX (d + 6) mX11_readPart [.ref 0] (eh H) (zPv (fun H1 => RfP H H1 T n (pX T n f 1 (dd) p (c, H.1 5))))) : EvC zX (d + 7) mX11_readTest [.ref 0] (eh H) (zPv (fun (H1 : ZH) => RfP H H1 T n (pX T n f 3 dd p (c, H.1 5)))) := by
  show _ ∧ Ev zX mX11_readTest (EvC zX (d + 6)) (zPv (fun (H1 : ZH) => RfP H H1 T n (pX T n f 3 dd p (c, H.1 5)))) 0 [(0, .ref 0)] [] (eh H)
  refine ⟨Nat.le_of_ble_eq_true rfl, ?_⟩
  obtain ⟨f2, hfe⟩ : ∃ f2, f = f2 + 1 := ⟨f - 1, by omega⟩
  have tb := tk_bd T hS.1
  refine x_aload_n (pc := 0) dX11_readTest_0 (List.Mem.head _) ?_
  refine z_callVv (pc := 1) (i := mX11_readPart) (S := []) [] dX11_readTest_1 ml_X11_179 ok_X11_readPart rfl sh_0 rfl rfl (Nat.le_of_ble_eq_true rfl) (ihF (p := p) (c := c) (f := f2) (hcp := (by omega)) (hf := (by omega)) (ok := ok) (hS := hS) (hd := hd) (h15 := h15)) ?_
  intro Ha ok2 hp3
  have hR0 := hp3
  have hl0 : (pX T n f2 1 dd p (c, H.1 5)).1.1 = 0 → 2 * (pX T n f2 1 dd p (c, H.1 5)).2.1 ≤ (pX T n f2 1 dd p (c, H.1 5)).1.2 := fun z => by have y := pX_l (T := T) (n := n) (f := f2) (m := 1) (dd := dd) (p := p) (s := (c, H.1 5)) hS.1 (by omega) z; have y3 : 2 * (pX T n f2 1 dd p (c, H.1 5)).2.1 + p ≤ (pX T n f2 1 dd p (c, H.1 5)).1.2 + 2 * c := y.2.2.1; omega
  have lp4 : ∀ (nF : Nat) (o : Ox) (f4 : Nat) (Hl : ZH), okZ Hl → (RfP H Hl T n o) → (o.1.1 = 0 → 2 * o.2.1 ≤ o.1.2) → (o.1.1 = 0 → 3 * (n - o.1.2) ≤ f4) → (pX T n (f2 + 1) 3 dd p (c, H.1 5) = cnt T n 19 false o (pX T n f4 4 dd)) → (if o.1.1 = 0 then n - o.1.2 + 1 else 0) < nF → Ev zX mX11_readTest (EvC zX (d + 6)) (zPv (fun (H1 : ZH) => RfP H H1 T n (pX T n f 3 dd p (c, H.1 5)))) 4 [(0, .ref 0)] [] (eh Hl) := by
    intro nF
    induction nF with
    | zero => intro o f4 Hl okl4 hRl hcl hfl het hm; exact absurd hm (Nat.not_lt_zero _)
    | succ nF ih4 =>
      intro o f4 Hl okl4 hRl hcl hfl het hm
      refine x_aload_n (pc := 4) dX11_readTest_4 (List.Mem.head _) ?_
      refine z_bipush (pc := 5) dX11_readTest_5 bp_19 ?_
      refine z_callVi (pc := 7) (i := mX11_eats) (S := []) [.int (zN (19))] dX11_readTest_7 ml_X11_145 ok_X11_eats rfl sh_0 rfl (Or.inr rfl) (Nat.le_of_ble_eq_true rfl) (c_X11_eats (d := d + 3) (a := 19) (hn := hn) (ha := (by omega)) (ok := okl4) (hT := hT) (hS := hRl.1)) ?_
      intro r4 Hb r4a r4b ok5 hp6
      obtain ⟨hrb, hSb, hFb⟩ := hp6
      refine z_if_eq (pc := 10) (tgt := 34) dX11_readTest_10 (by decide) (by omega) (by omega) (fun hb7 => ?_) (fun hb7 => ?_)
      · skip
        have hno : ¬ (o.1.1 = 0 ∧ tkK T n o.1.2 = 19) := fun z => by rw [if_pos z] at hrb; omega
        rw [if_neg hno] at hSb
        refine z_vreturn (pc := 34) dX11_readTest_34 rfl ok5 ?_
        rw [hfe, het]
        by_cases hw0 : o.1.1 = 0
        · rw [cnt_end hw0 (fun z => hno ⟨hw0, z⟩)]
          exact ⟨hSb, fun z => ⟨(hFb.1 0 15 (by omega)).trans (hRl.2.1 z).1, (FrT_5 hFb).trans (hRl.2.1 z).2⟩, FrL_tr hRl.2.2 (FrL_T hFb)⟩
        · rw [cnt_bad hw0]
          exact ⟨hSb, fun z => absurd z hw0, FrL_tr hRl.2.2 (FrL_T hFb)⟩
      · skip
        have hyes : o.1.1 = 0 ∧ tkK T n o.1.2 = 19 := if z : o.1.1 = 0 ∧ tkK T n o.1.2 = 19 then z else (by rw [if_neg z] at hrb; omega)
        obtain ⟨hw0, hkop⟩ := hyes
        rw [if_pos ⟨hw0, hkop⟩, hw0] at hSb
        have hoc := hRl.2.1 hw0
        have hc2 := hcl hw0
        have hf2 := hfl hw0
        have tw := tk_w T hRl.1.1 (by omega)
        obtain ⟨f3, rfl⟩ : ∃ f3, f4 = f3 + 1 := ⟨f4 - 1, by have := tk_bd T hRl.1.1; omega⟩
        have tbo := tk_bd T hRl.1.1
        refine x_aload_n (pc := 13) dX11_readTest_13 (List.Mem.head _) ?_
        refine z_callVv (pc := 14) (i := mX11_readPart) (S := []) [] dX11_readTest_14 ml_X11_179 ok_X11_readPart rfl sh_0 rfl rfl (Nat.le_of_ble_eq_true rfl) (ihF (p := (tkE T n o.1.2)) (c := o.2.1) (f := f3) (hcp := (by omega)) (hf := (by omega)) (ok := ok5) (hS := hSb) (hd := ((hFb.1 0 14 (by omega)).trans ((hRl.2.2.1 0 14 (by omega) (by omega)).trans hd))) (h15 := ((hFb.1 0 15 (by omega)).trans hoc.1))) ?_
        intro Hf ok9 hp10
        have hRf := hp10
        rw [(FrT_5 hFb).trans hoc.2] at hRf
        obtain ⟨o2, ho2⟩ : ∃ o2, o2 = pX T n f3 1 dd (tkE T n o.1.2) (o.2.1, o.2.2) := ⟨_, rfl⟩
        rw [← ho2] at hRf
        have hl2 : o2.1.1 = 0 → tkE T n o.1.2 + 2 ≤ o2.1.2 ∧ o2.1.2 ≤ n ∧ 2 * o2.2.1 + tkE T n o.1.2 ≤ o2.1.2 + 2 * o.2.1 := fun z => by have y := pX_l (T := T) (n := n) (f := f3) (m := 1) (dd := dd) (p := tkE T n o.1.2) (s := (o.2.1, o.2.2)) hSb.1 (by omega) (by rw [← ho2]; exact z); rw [← ho2] at y; exact ⟨y.1, y.2.1, y.2.2.1⟩
        have htot : pX T n (f2 + 1) 3 dd p (c, H.1 5) = cnt T n 19 true o2 (pX T n f3 4 dd) := by rw [het, cnt_go hw0 hkop, ho2]; exact pX_4
        have hRf2 : RfP H Hf T n o2 := RfP_tr (FrL_tr hRl.2.2 (FrL_T hFb)) hRf
        have ww := hRf.1.2.2.2.1
        refine x_aload_n (pc := 17) dX11_readTest_17 (List.Mem.head _) ?_
        refine z_getI (pc := 18) (k := 12) (v := (o2.1.1)) dX11_readTest_18 lf_X11_133 sh_0 rfl (TkS_12 hRf.1) ?_
        refine z_if_ne (pc := 21) (tgt := 4) dX11_readTest_21 (by decide) (by omega) (by omega) (fun hb11 => ?_) (fun hb11 => ?_)
        · skip
          have hz2 := hb11
          refine x_weaken (L1 := [(0, .ref 0)]) (List.forall_mem_cons.mpr ⟨(List.Mem.head _), (fun _ h => absurd h List.not_mem_nil)⟩) ?_
          exact ih4 (o2) (f3) Hf ok9 (by first | exact hRe | exact hRf2) (by first | (intro z; exact absurd z hz2) | (intro z; have y := hl2 hz2; show 2 * (o2.2.1 + 1) ≤ o2.1.2; omega)) (by first | (intro z; exact absurd z hz2) | (intro z; have y := hl2 hz2; show 3 * (n - o2.1.2) ≤ f3; omega)) (by first | (rw [htot, cnt_tr hz2]; done) | (rw [htot, cnt_bad hz2, cnt_bad hz2]; done)) (by rw [if_pos hw0] at hm; first | (rw [if_neg hz2]; omega) | (have y := hl2 hz2; show (if o2.1.1 = 0 then n - o2.1.2 + 1 else 0) < _; rw [if_pos hz2]; omega))
        · skip
          have hz2 := hb11
          refine x_aload_n (pc := 24) dX11_readTest_24 (List.Mem.head _) ?_
          refine z_bipush (pc := 25) dX11_readTest_25 bp_19 ?_
          refine z_iconst (pc := 27) dX11_readTest_27 ?_
          refine z_callVv (pc := 28) (i := mX11_emit) (S := []) [.int (zN (19)), .int (zN (0))] dX11_readTest_28 ml_X11_182 ok_X11_emit rfl sh_0 rfl rfl (Nat.le_of_ble_eq_true rfl) (c_X11_emit (d := d + 5) (k := 19) (v := 0) (k1 := (by omega)) (k2 := (by omega)) (v1 := (by omega)) (v2 := (by omega)) (ok := ok9) (hc := (by rw [(hRf.2.1 hz2).1]; have := hl2 hz2; omega))) ?_
          intro He ok13 hp14
          have he := em_post hRf.1 (hRf.2.1 hz2).1 hp14
          have hRe : RfP H He T n (o2.1, em 19 0 o2.2) := ⟨he.1, fun _ => ⟨he.2.1, by rw [he.2.2.1, (hRf.2.1 hz2).2]; rfl⟩, FrL_tr hRf2.2.2 he.2.2.2⟩
          refine x_goto (pc := 31) (tgt := 4) dX11_readTest_31 (by decide) ?_
          refine x_weaken (L1 := [(0, .ref 0)]) (List.forall_mem_cons.mpr ⟨(List.Mem.head _), (fun _ h => absurd h List.not_mem_nil)⟩) ?_
          exact ih4 ((o2.1, em 19 0 o2.2)) (f3) He ok13 (by first | exact hRe | exact hRf2) (by first | (intro z; exact absurd z hz2) | (intro z; have y := hl2 hz2; show 2 * (o2.2.1 + 1) ≤ o2.1.2; omega)) (by first | (intro z; exact absurd z hz2) | (intro z; have y := hl2 hz2; show 3 * (n - o2.1.2) ≤ f3; omega)) (by first | (rw [htot, cnt_tr hz2]; done) | (rw [htot, cnt_bad hz2, cnt_bad hz2]; done)) (by rw [if_pos hw0] at hm; first | (rw [if_neg hz2]; omega) | (have y := hl2 hz2; show (if o2.1.1 = 0 then n - o2.1.2 + 1 else 0) < _; rw [if_pos hz2]; omega))
  refine x_weaken (L1 := [(0, .ref 0)]) (List.forall_mem_cons.mpr ⟨(List.Mem.head _), (fun _ h => absurd h List.not_mem_nil)⟩) ?_
  exact lp4 ((if (pX T n f2 1 dd p (c, H.1 5)).1.1 = 0 then n - (pX T n f2 1 dd p (c, H.1 5)).1.2 + 1 else 0) + 1) ((pX T n f2 1 dd p (c, H.1 5))) (f2) Ha ok2 (hR0) (hl0) (fun z => by have y := pX_l (T := T) (n := n) (f := f2) (m := 1) (dd := dd) (p := p) (s := (c, H.1 5)) hS.1 (by omega) z; omega) (pX_3) (Nat.lt_succ_self _)

theorem rd_all (r : Nat) : (∀ {d : Nat} {H : ZH} (ok : okZ H) {T : Nat → Int} {n p c dd f : Nat} (hn : n ≤ 400) (hcp : 2 * c ≤ p) (hdd : dd + r = 8) (hf : 3 * (n - p) + 1 ≤ f) (hT : ∀ k, 0 ≤ T k ∧ T k ≤ 255) (hS : TkS H T n 0 p) (hd : H.1 0 14 = (dd : Int)) (h15 : H.1 0 15 = (c : Int)), EvC zX (d + 3 * r + 5) mX11_readFact [.ref 0] (eh H) (zPv (fun H1 => RfP H H1 T n (pX T n f 0 dd p (c, H.1 5))))) ∧ (∀ {d : Nat} {H : ZH} (ok : okZ H) {T : Nat → Int} {n p c dd f : Nat} (hn : n ≤ 400) (hcp : 2 * c ≤ p) (hdd : dd + r = 8) (hf : 3 * (n - p) + 3 ≤ f) (hT : ∀ k, 0 ≤ T k ∧ T k ≤ 255) (hS : TkS H T n 0 p) (hd : H.1 0 14 = (dd : Int)) (h15 : H.1 0 15 = (c : Int)), EvC zX (d + 3 * r + 7) mX11_readTest [.ref 0] (eh H) (zPv (fun H1 => RfP H H1 T n (pX T n f 3 dd p (c, H.1 5))))) := by
  have up : ∀ r : Nat, (∀ {d : Nat} {H : ZH} (ok : okZ H) {T : Nat → Int} {n p c dd f : Nat} (hn : n ≤ 400) (hcp : 2 * c ≤ p) (hdd : dd + r = 8) (hf : 3 * (n - p) + 1 ≤ f) (hT : ∀ k, 0 ≤ T k ∧ T k ≤ 255) (hS : TkS H T n 0 p) (hd : H.1 0 14 = (dd : Int)) (h15 : H.1 0 15 = (c : Int)), EvC zX (d + 3 * r + 5) mX11_readFact [.ref 0] (eh H) (zPv (fun H1 => RfP H H1 T n (pX T n f 0 dd p (c, H.1 5))))) → (∀ {d : Nat} {H : ZH} (ok : okZ H) {T : Nat → Int} {n p c dd f : Nat} (hn : n ≤ 400) (hcp : 2 * c ≤ p) (hdd : dd + r = 8) (hf : 3 * (n - p) + 3 ≤ f) (hT : ∀ k, 0 ≤ T k ∧ T k ≤ 255) (hS : TkS H T n 0 p) (hd : H.1 0 14 = (dd : Int)) (h15 : H.1 0 15 = (c : Int)), EvC zX (d + 3 * r + 7) mX11_readTest [.ref 0] (eh H) (zPv (fun H1 => RfP H H1 T n (pX T n f 3 dd p (c, H.1 5))))) := by
    intro r hF d H ok T n p c dd f hn hcp hdd hf hT hS hd h15
    have hP : ∀ {H : ZH} (ok : okZ H) {p c f : Nat} (hcp : 2 * c ≤ p) (hf : 3 * (n - p) + 2 ≤ f) (hS : TkS H T n 0 p) (hd : H.1 0 14 = ((dd : Nat) : Int)) (h15 : H.1 0 15 = (c : Int)), EvC zX (d + 3 * r + 6) mX11_readPart [.ref 0] (eh H) (zPv (fun H1 => RfP H H1 T n (pX T n f 1 (dd) p (c, H.1 5)))) := by
      intro H ok p c f hcp hf hS hd h15
      exact c_X11_readPart_s (d := d + 3 * r) ok hn hcp (by omega) hf hT hS hd h15 (fun {H} ok {p} {c} {f} hcp hf hS hd h15 => hF (d := d) ok hn hcp hdd hf hT hS hd h15)
    exact c_X11_readTest_s (d := d + 3 * r) ok hn hcp (by omega) hf hT hS hd h15 hP
  induction r with
  | zero =>
    have hF : ∀ {d : Nat} {H : ZH} (ok : okZ H) {T : Nat → Int} {n p c dd f : Nat} (hn : n ≤ 400) (hcp : 2 * c ≤ p) (hdd : dd + 0 = 8) (hf : 3 * (n - p) + 1 ≤ f) (hT : ∀ k, 0 ≤ T k ∧ T k ≤ 255) (hS : TkS H T n 0 p) (hd : H.1 0 14 = (dd : Int)) (h15 : H.1 0 15 = (c : Int)), EvC zX (d + 3 * 0 + 5) mX11_readFact [.ref 0] (eh H) (zPv (fun H1 => RfP H H1 T n (pX T n f 0 dd p (c, H.1 5)))) := by
      intro d H ok T n p c dd f hn hcp hdd hf hT hS hd h15
      exact c_X11_readFact_s (d := d + 3 * 0) ok hn hcp (by omega) hf hT hS hd h15 (fun h => absurd h (by omega)) (fun h => absurd h (by omega))
    exact ⟨hF, up 0 hF⟩
  | succ r ih =>
    have hF : ∀ {d : Nat} {H : ZH} (ok : okZ H) {T : Nat → Int} {n p c dd f : Nat} (hn : n ≤ 400) (hcp : 2 * c ≤ p) (hdd : dd + (r + 1) = 8) (hf : 3 * (n - p) + 1 ≤ f) (hT : ∀ k, 0 ≤ T k ∧ T k ≤ 255) (hS : TkS H T n 0 p) (hd : H.1 0 14 = (dd : Int)) (h15 : H.1 0 15 = (c : Int)), EvC zX (d + 3 * (r + 1) + 5) mX11_readFact [.ref 0] (eh H) (zPv (fun H1 => RfP H H1 T n (pX T n f 0 dd p (c, H.1 5)))) := by
      intro d H ok T n p c dd f hn hcp hdd hf hT hS hd h15
      exact c_X11_readFact_s (d := d + 3 * (r + 1)) ok hn hcp (by omega) hf hT hS hd h15 (fun h {H} ok {p} {c} {f} hcp hf hS hd h15 => by
        have q := ih.1 (d := d + 2) ok hn hcp (dd := dd + 1) (by omega) hf hT hS hd h15
        rw [show d + 3 * (r + 1) + 4 = d + 2 + 3 * r + 5 by omega]
        exact q) (fun h {H} ok {p} {c} {f} hcp hf hS hd h15 => by
        have q := ih.2 (d := d) ok hn hcp (dd := dd + 1) (by omega) hf hT hS hd h15
        rw [show d + 3 * (r + 1) + 4 = d + 3 * r + 7 by omega]
        exact q)
    exact ⟨hF, up (r + 1) hF⟩
theorem c_X11_readTest {d : Nat} {H : ZH} (ok : okZ H) {T : Nat → Int} {n p c f : Nat} (hn : n ≤ 400) (hcp : 2 * c ≤ p) (hf : 3 * (n - p) + 3 ≤ f) (hT : ∀ k, 0 ≤ T k ∧ T k ≤ 255) (hS : TkS H T n 0 p) (hd : H.1 0 14 = 0) (h15 : H.1 0 15 = (c : Int)) : EvC zX (d + 31) mX11_readTest [.ref 0] (eh H) (zPv (fun H1 => RfP H H1 T n (pX T n f 3 0 p (c, H.1 5)))) := (rd_all 8).2 (d := d) ok hn hcp (by omega) hf hT hS hd h15
