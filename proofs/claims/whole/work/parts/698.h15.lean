/-! GROUP H15: readLaw and text of the reference. -/
theorem RfP_bad {H H1 : ZH} {T : Nat → Int} {n p : Nat} {w : Int} {s s2 : Sx} (h : RfP H H1 T n ((w, p), s)) (hw : w ≠ 0) : RfP H H1 T n ((w, p), s2) := ⟨h.1, fun z => absurd z hw, h.2.2⟩
def FrJ (H H1 : ZH) : Prop := (∀ cc k, cc ≠ 5 → ¬ (cc = 0 ∧ (k = 7 ∨ k = 8 ∨ (10 ≤ k ∧ k ≤ 13) ∨ k = 15)) → H1.1 cc k = H.1 cc k) ∧ H1.2 = H.2
theorem FrJ_rf (H : ZH) : FrJ H H := ⟨fun _ _ _ _ => rfl, rfl⟩
theorem FrJ_F {H H1 : ZH} (a : FrF H H1) : FrJ H H1 := ⟨fun cc k g h => a.1 cc k g (by omega), a.2⟩
theorem FrJ_T {H H1 : ZH} (a : FrT H H1) : FrJ H H1 := FrJ_F (FrF_T a)
theorem FrJ_L {H H1 : ZH} (a : FrL H H1) : FrJ H H1 := ⟨a.1, a.2.2⟩
theorem FrJ_tr {H H1 H2 : ZH} (a : FrJ H H1) (b : FrJ H1 H2) : FrJ H H2 := ⟨fun cc k g h => (b.1 cc k g h).trans (a.1 cc k g h), b.2.trans a.2⟩
theorem FrJ_w {H H1 : ZH} (a : FrJ H H1) (k : Nat) (v : Int) : FrJ H (wI H1 5 k v) := ⟨fun cc j g h => by rw [wI1c g]; exact a.1 cc j g h, a.2⟩

theorem c_X11_readFact_b {d : Nat} {H : ZH} (ok : okZ H) {T : Nat → Int} {n p c : Nat} {w : Int} (hn : n ≤ 400) (hw : w ≠ 0) (hT : ∀ k, 0 ≤ T k ∧ T k ≤ 255) (hS : TkS H T n w p) : EvC zX (d + 1) mX11_readFact [.ref 0] (eh H) (zPv (fun (H1 : ZH) => TkS H1 T n w p ∧ FrT H H1)) := by
  show _ ∧ Ev zX mX11_readFact (EvC zX d) (zPv (fun (H1 : ZH) => TkS H1 T n w p ∧ FrT H H1)) 0 [(0, .ref 0)] [] (eh H)
  refine ⟨Nat.le_of_ble_eq_true rfl, ?_⟩
  have wr := hS.2.2.2.1
  refine x_aload_n (pc := 0) dX11_readFact_0 (List.Mem.head _) ?_
  refine z_getI (pc := 1) (k := 12) (v := w) dX11_readFact_1 lf_X11_133 sh_0 rfl (TkS_12 hS) ?_
  refine z_if_eq (pc := 4) (tgt := 8) dX11_readFact_4 (by decide) (by omega) (by omega) (fun hb1 => absurd hb1 hw) (fun hb1 => ?_)
  refine z_vreturn (pc := 7) dX11_readFact_7 rfl ok ?_
  exact ⟨hS, FrT_rf H⟩

theorem c_X11_readPart_b {d : Nat} {H : ZH} (ok : okZ H) {T : Nat → Int} {n p c : Nat} {w : Int} (hn : n ≤ 400) (hw : w ≠ 0) (hT : ∀ k, 0 ≤ T k ∧ T k ≤ 255) (hS : TkS H T n w p) : EvC zX (d + 4) mX11_readPart [.ref 0] (eh H) (zPv (fun (H1 : ZH) => TkS H1 T n w p ∧ FrT H H1)) := by
  show _ ∧ Ev zX mX11_readPart (EvC zX (d + 3)) (zPv (fun (H1 : ZH) => TkS H1 T n w p ∧ FrT H H1)) 0 [(0, .ref 0)] [] (eh H)
  refine ⟨Nat.le_of_ble_eq_true rfl, ?_⟩
  refine x_aload_n (pc := 0) dX11_readPart_0 (List.Mem.head _) ?_
  refine z_callVv (pc := 1) (i := mX11_readFact) (S := []) [] dX11_readPart_1 ml_X11_186 ok_X11_readFact rfl sh_0 rfl rfl (Nat.le_of_ble_eq_true rfl) (c_X11_readFact_b (d := d + 2) (c := c) (hn := hn) (hw := hw) (ok := ok) (hT := hT) (hS := hS)) ?_
  intro Ha ok2 hp3
  obtain ⟨hSa, hFa⟩ := hp3
  refine x_aload_n (pc := 4) dX11_readPart_4 (List.Mem.head _) ?_
  refine z_bipush (pc := 5) dX11_readPart_5 bp_20 ?_
  refine z_callVi (pc := 7) (i := mX11_eats) (S := []) [.int (zN (20))] dX11_readPart_7 ml_X11_145 ok_X11_eats rfl sh_0 rfl (Or.inr rfl) (Nat.le_of_ble_eq_true rfl) (c_X11_eats (d := d) (a := 20) (hn := hn) (ha := (by omega)) (ok := ok2) (hT := hT) (hS := hSa)) ?_
  intro r4 Hb r4a r4b ok5 hp6
  obtain ⟨hrb, hSb, hFb⟩ := hp6
  rw [if_neg (fun z => hw z.1)] at hrb hSb
  refine z_if_eq (pc := 10) (tgt := 34) dX11_readPart_10 (by decide) (by omega) (by omega) (fun hb7 => ?_) (fun hb7 => absurd hb7 (fun z => z (by omega)))
  refine z_vreturn (pc := 34) dX11_readPart_34 rfl ok5 ?_
  exact ⟨hSb, FrT_tr hFa hFb⟩

theorem c_X11_readTest_b {d : Nat} {H : ZH} (ok : okZ H) {T : Nat → Int} {n p c : Nat} {w : Int} (hn : n ≤ 400) (hw : w ≠ 0) (hT : ∀ k, 0 ≤ T k ∧ T k ≤ 255) (hS : TkS H T n w p) : EvC zX (d + 5) mX11_readTest [.ref 0] (eh H) (zPv (fun (H1 : ZH) => RfP H H1 T n ((w, p), (c, H.1 5)))) := by
  show _ ∧ Ev zX mX11_readTest (EvC zX (d + 4)) (zPv (fun (H1 : ZH) => RfP H H1 T n ((w, p), (c, H.1 5)))) 0 [(0, .ref 0)] [] (eh H)
  refine ⟨Nat.le_of_ble_eq_true rfl, ?_⟩
  refine x_aload_n (pc := 0) dX11_readTest_0 (List.Mem.head _) ?_
  refine z_callVv (pc := 1) (i := mX11_readPart) (S := []) [] dX11_readTest_1 ml_X11_179 ok_X11_readPart rfl sh_0 rfl rfl (Nat.le_of_ble_eq_true rfl) (c_X11_readPart_b (d := d) (c := c) (hn := hn) (hw := hw) (ok := ok) (hT := hT) (hS := hS)) ?_
  intro Ha ok2 hp3
  obtain ⟨hSa, hFa⟩ := hp3
  refine x_aload_n (pc := 4) dX11_readTest_4 (List.Mem.head _) ?_
  refine z_bipush (pc := 5) dX11_readTest_5 bp_19 ?_
  refine z_callVi (pc := 7) (i := mX11_eats) (S := []) [.int (zN (19))] dX11_readTest_7 ml_X11_145 ok_X11_eats rfl sh_0 rfl (Or.inr rfl) (Nat.le_of_ble_eq_true rfl) (c_X11_eats (d := d + 1) (a := 19) (hn := hn) (ha := (by omega)) (ok := ok2) (hT := hT) (hS := hSa)) ?_
  intro r4 Hb r4a r4b ok5 hp6
  obtain ⟨hrb, hSb, hFb⟩ := hp6
  rw [if_neg (fun z => hw z.1)] at hrb hSb
  refine z_if_eq (pc := 10) (tgt := 34) dX11_readTest_10 (by decide) (by omega) (by omega) (fun hb7 => ?_) (fun hb7 => absurd hb7 (fun z => z (by omega)))
  refine z_vreturn (pc := 34) dX11_readTest_34 rfl ok5 ?_
  exact ⟨hSb, fun z => absurd z hw, FrL_T (FrT_tr hFa hFb)⟩

theorem c_X11_readTest_u {d : Nat} {H : ZH} (ok : okZ H) {T : Nat → Int} {n p c : Nat} {w : Int} (hn : n ≤ 400) (hcp : 2 * c ≤ p) (hT : ∀ k, 0 ≤ T k ∧ T k ≤ 255) (hS : TkS H T n w p) (hd : H.1 0 14 = 0) (h15 : H.1 0 15 = (c : Int)) : EvC zX (d + 31) mX11_readTest [.ref 0] (eh H) (zPv (fun H1 => RfP H H1 T n (if w = 0 then pX T n 1300 3 0 p (c, H.1 5) else ((w, p), (c, H.1 5))))) := by
  by_cases hw : w = 0
  · subst hw
    rw [if_pos rfl]
    exact c_X11_readTest ok hn hcp (by omega) hT hS hd h15
  · rw [if_neg hw]
    exact c_X11_readTest_b (d := d + 26) ok hn hw hT hS

theorem c_X11_readLaw {d : Nat} {H : ZH} (ok : okZ H) {T : Nat → Int} {n p c : Nat} (hn : n ≤ 400) (hcp : 2 * c ≤ p) (hT : ∀ k, 0 ≤ T k ∧ T k ≤ 255) (hS : TkS H T n 0 p) (hd : H.1 0 14 = 0) (h15 : H.1 0 15 = (c : Int)) (hi : LwI (H.1 5) c) : EvC zX (d + 32) mX11_readLaw [.ref 0] (eh H) (zPv (fun (H1 : ZH) => TkS H1 T n (lwL T n p (c, H.1 5)).1.1 (lwL T n p (c, H.1 5)).1.2 ∧ ((lwL T n p (c, H.1 5)).1.1 = 0 → H1.1 0 15 = ((lwL T n p (c, H.1 5)).2.1 : Int) ∧ H1.1 5 = (lwL T n p (c, H.1 5)).2.2) ∧ FrJ H H1)) := by
  show _ ∧ Ev zX mX11_readLaw (EvC zX (d + 31)) (zPv (fun (H1 : ZH) => TkS H1 T n (lwL T n p (c, H.1 5)).1.1 (lwL T n p (c, H.1 5)).1.2 ∧ ((lwL T n p (c, H.1 5)).1.1 = 0 → H1.1 0 15 = ((lwL T n p (c, H.1 5)).2.1 : Int) ∧ H1.1 5 = (lwL T n p (c, H.1 5)).2.2) ∧ FrJ H H1)) 0 [(0, .ref 0)] [] (eh H)
  refine ⟨Nat.le_of_ble_eq_true rfl, ?_⟩
  have t12 := TkS_12 hS
  have t10 := TkS_10 hS
  have h40 := hi.1.1
  have tb := tk_bd T hS.1
  refine x_aload_n (pc := 0) dX11_readLaw_0 (List.Mem.head _) ?_
  refine z_getR (pc := 1) (k := 5) (r := 5) dX11_readLaw_1 lf_X11_27 sh_0 rfl rf_0_5 ?_
  refine z_bipush (pc := 4) dX11_readLaw_4 bp_40 ?_
  have rd1 := ok.1 5 40
  refine z_iald (pc := 6) (j := 40) (v := H.1 5 40) dX11_readLaw_6 sh_5 rfl (Nat.le_of_ble_eq_true rfl) (by decide) rfl ?_
  refine x_istore_n (pc := 7) dX11_readLaw_7 (Nat.le_of_ble_eq_true rfl) ?_
  show Ev _ _ _ _ _ [(1, .int (zN ((H.1 5 40)))), (0, .ref 0)] _ _
  refine x_aload_n (pc := 8) dX11_readLaw_8 (List.Mem.tail _ (List.Mem.head _)) ?_
  refine z_bipush (pc := 9) dX11_readLaw_9 bp_17 ?_
  refine z_callVbp (pc := 11) (i := mX11_is) (S := []) [.int (zN (17))] dX11_readLaw_11 ml_X11_139 ok_X11_is rfl sh_0 rfl (Or.inr rfl) (Nat.le_of_ble_eq_true rfl) (c_X11_is (d := d + 30) (a := 17) (a1 := (by omega)) (a2 := (by omega)) (ok := ok)) (fun hc4 ok3 => ?_) (fun hc4 ok3 => ?_)
  · skip
    have hk : tkK T n p = 17 := by omega
    refine z_if_ne (pc := 14) (tgt := 25) dX11_readLaw_14 (by decide) (by decide) (by decide) (fun _ => ?_) (fun h => absurd h (by decide))
    refine x_iload_n (pc := 25) dX11_readLaw_25 (List.Mem.head _) ?_
    refine z_bipush (pc := 26) dX11_readLaw_26 bp_12 ?_
    refine z_icmp_ne (pc := 28) (tgt := 36) dX11_readLaw_28 (by decide) (by omega) (by omega) (by decide) (by decide) (fun hb6 => ?_) (fun hb6 => ?_)
    · skip
      refine x_aload_n (pc := 36) dX11_readLaw_36 (List.Mem.tail _ (List.Mem.head _)) ?_
      refine z_getI (pc := 37) (k := 12) (v := 0) dX11_readLaw_37 lf_X11_133 sh_0 rfl t12 ?_
      refine z_if_eq (pc := 40) (tgt := 44) dX11_readLaw_40 (by decide) (by decide) (by decide) (fun _ => ?_) (fun h => absurd h (by decide))
      have hlw : (lwL T n p (c, H.1 5)) = (pn T n 31 (lwT T n p (c, H.1 5)).1, ((lwT T n p (c, H.1 5)).2.1, upA (upA (lwT T n p (c, H.1 5)).2.2 (65 + (H.1 5 40).toNat) ((lwT T n p (c, H.1 5)).2.1 : Int)) 40 (H.1 5 40 + 1))) := (if_neg (fun z => z hk)).trans (if_neg (by omega))
      refine x_aload_n (pc := 44) dX11_readLaw_44 (List.Mem.tail _ (List.Mem.head _)) ?_
      refine z_callVv (pc := 45) (i := mX11_next) (S := []) [] dX11_readLaw_45 ml_X11_142 ok_X11_next rfl sh_0 rfl rfl (Nat.le_of_ble_eq_true rfl) (c_X11_next (d := d + 29) (n := n) (b := (tkE T n p)) (hn := hn) (hb := ((tk_bd T hS.1).2.2.1)) (ok := ok3) (h8 := ((hS.2.2.2.2.2.1 rfl).2.1)) (h9 := (hS.2.1)) (ht := (fun k => by rw [hS.2.2.1]; exact hT k))) ?_
      intro Ha ok9 hp10
      have hna := nx2 hS rfl hp10
      refine x_aload_n (pc := 48) dX11_readLaw_48 (List.Mem.tail _ (List.Mem.head _)) ?_
      refine z_getR (pc := 49) (k := 5) (r := 5) dX11_readLaw_49 lf_X11_27 sh_0 rfl rf_0_5 ?_
      refine z_bipush (pc := 52) dX11_readLaw_52 bp_41 ?_
      refine x_iload_n (pc := 54) dX11_readLaw_54 (List.Mem.head _) ?_
      refine z_iadd (pc := 55) dX11_readLaw_55 ?_
      refine x_aload_n (pc := 56) dX11_readLaw_56 (List.Mem.tail _ (List.Mem.head _)) ?_
      refine z_iconst (pc := 57) dX11_readLaw_57 ?_
      refine z_bipush (pc := 58) dX11_readLaw_58 bp_100 ?_
      refine z_callVi (pc := 60) (i := mX11_takes) (S := [.int (zN ((41 + (H.1 5 40)))), .ref 5]) [.int (zN (0)), .int (zN (100))] dX11_readLaw_60 ml_X11_156 ok_X11_takes rfl sh_0 rfl (Or.inl rfl) (Nat.le_of_ble_eq_true rfl) (c_X11_takes (d := d + 28) (lo := 0) (hi := 100) (hn := hn) (lo1 := (by omega)) (lo2 := (by omega)) (hi1 := (by omega)) (hi2 := (by omega)) (ok := ok9) (hT := hT) (hS := hna.1)) ?_
      intro r11 Hb r11a r11b ok12 hp13
      obtain ⟨hrb, hSb, hFb⟩ := hp13
      have e5b := (FrT_5 hFb).trans (FrT_5 hna.2)
      refine z_iast (pc := 63) (j := 41 + (H.1 5 40).toNat) (v := r11) dX11_readLaw_63 sh_5 (by omega) (by omega) (by decide) ?_
      have ok14 := okI ok12 5 (41 + (H.1 5 40).toNat) (v := r11) (by omega) (by omega)
      refine x_aload_n (pc := 64) dX11_readLaw_64 (List.Mem.tail _ (List.Mem.head _)) ?_
      refine z_bipush (pc := 65) dX11_readLaw_65 bp_18 ?_
      refine z_callVv (pc := 67) (i := mX11_needs) (S := []) [.int (zN (18))] dX11_readLaw_67 ml_X11_160 ok_X11_needs rfl sh_0 rfl rfl (Nat.le_of_ble_eq_true rfl) (c_X11_needs (d := d + 27) (a := 18) (hn := hn) (ha := (by omega)) (ok := ok14) (hT := hT) (hS := (TkS_5 hSb _ _))) ?_
      intro Hc ok16 hp17
      obtain ⟨hSc, hFc⟩ := hp17
      have e5c := w5 e5b hFc
      have hFj := FrJ_tr (FrJ_w (FrJ_tr (FrJ_T hna.2) (FrJ_T hFb)) _ _) (FrJ_T hFc)
      have okc_ := ok16
      refine x_aload_n (pc := 70) dX11_readLaw_70 (List.Mem.tail _ (List.Mem.head _)) ?_
      refine z_getR (pc := 71) (k := 5) (r := 5) dX11_readLaw_71 lf_X11_27 sh_0 rfl rf_0_5 ?_
      refine z_bipush (pc := 74) dX11_readLaw_74 bp_53 ?_
      refine x_iload_n (pc := 76) dX11_readLaw_76 (List.Mem.head _) ?_
      refine z_iadd (pc := 77) dX11_readLaw_77 ?_
      refine x_aload_n (pc := 78) dX11_readLaw_78 (List.Mem.tail _ (List.Mem.head _)) ?_
      refine z_getI (pc := 79) (k := 15) (v := (c : Int)) dX11_readLaw_79 lf_X11_176 sh_0 rfl ((hFc.1 0 15 (by omega)).trans ((hFb.1 0 15 (by omega)).trans ((hna.2.1 0 15 (by omega)).trans h15))) ?_
      refine z_iast (pc := 82) (j := 53 + (H.1 5 40).toNat) (v := ((c : Int))) dX11_readLaw_82 sh_5 (by omega) (by omega) (by decide) ?_
      have ok18 := okI ok16 5 (53 + (H.1 5 40).toNat) (v := ((c : Int))) (by omega) (by omega)
      have hlb : p ≤ (lwB T n p).2 := by
        have tb2 := tk_bd T tb.2.2.1
        have y : tkE T n p ≤ (pt T n 0 100 (0, tkE T n p)).2 := by show tkE T n p ≤ ptP T n 0 100 0 (tkE T n p); unfold ptP; (repeat' split) <;> omega
        have hn2 : (pt T n 0 100 (0, tkE T n p)).2 ≤ n := by show ptP T n 0 100 0 (tkE T n p) ≤ n; unfold ptP; (repeat' split) <;> omega
        have tb3 := tk_bd T hn2
        have y2 : (pt T n 0 100 (0, tkE T n p)).2 ≤ (lwB T n p).2 := by show _ ≤ pnP T n 18 (pt T n 0 100 (0, tkE T n p)).1 (pt T n 0 100 (0, tkE T n p)).2; unfold pnP; (repeat' split) <;> omega
        omega
      refine x_aload_n (pc := 83) dX11_readLaw_83 (List.Mem.tail _ (List.Mem.head _)) ?_
      refine z_callVv (pc := 84) (i := mX11_readTest) (S := []) [] dX11_readLaw_84 ml_X11_192 ok_X11_readTest rfl sh_0 rfl rfl (Nat.le_of_ble_eq_true rfl) (c_X11_readTest_u (d := d) (p := (lwB T n p).2) (c := c) (w := (lwB T n p).1) (hn := hn) (hcp := (by have y := hSc.1; have y2 := hlb; omega)) (ok := ok18) (hT := hT) (hS := (TkS_5 hSc _ _)) (hd := (by rw [wI1c (by omega), hFc.1 0 14 (by omega), wI1c (by omega), hFb.1 0 14 (by omega), hna.2.1 0 14 (by omega)]; exact hd)) (h15 := (by rw [wI1c (by omega), hFc.1 0 15 (by omega), wI1c (by omega), hFb.1 0 15 (by omega), hna.2.1 0 15 (by omega)]; exact h15))) ?_
      intro Hd ok20 hp21
      have hR0 := hp21
      rw [wI_up, e5c] at hR0
      have hR : RfP (wI Hc 5 (53 + (H.1 5 40).toNat) ((c : Int))) Hd T n (lwT T n p (c, H.1 5)) := by
        by_cases hb : (lwB T n p).1 = 0
        · rw [if_pos hb] at hR0
          have z1 := (pnW_z (show pnW T n 18 (pt T n 0 100 (0, tkE T n p)).1 (pt T n 0 100 (0, tkE T n p)).2 = 0 from hb)).1
          rw [hrb z1] at hR0
          have e : lwT T n p (c, H.1 5) = pX T n 1300 3 0 (lwB T n p).2 (c, lwQ T n p c (H.1 5)) := if_pos hb
          rw [e, lwQ]
          exact hR0
        · rw [if_neg hb] at hR0
          have e : lwT T n p (c, H.1 5) = (lwB T n p, (c, lwQ T n p c (H.1 5))) := if_neg hb
          rw [e]
          exact RfP_bad hR0 hb
      have okd_ := ok20.1 0 15
      refine x_aload_n (pc := 87) dX11_readLaw_87 (List.Mem.tail _ (List.Mem.head _)) ?_
      refine z_getR (pc := 88) (k := 5) (r := 5) dX11_readLaw_88 lf_X11_27 sh_0 rfl rf_0_5 ?_
      refine z_bipush (pc := 91) dX11_readLaw_91 bp_65 ?_
      refine x_iload_n (pc := 93) dX11_readLaw_93 (List.Mem.head _) ?_
      refine z_iadd (pc := 94) dX11_readLaw_94 ?_
      refine x_aload_n (pc := 95) dX11_readLaw_95 (List.Mem.tail _ (List.Mem.head _)) ?_
      have rd22 := ok20.1 0 15
      refine z_getI (pc := 96) (k := 15) (v := Hd.1 0 15) dX11_readLaw_96 lf_X11_176 sh_0 rfl rfl ?_
      refine z_iast (pc := 99) (j := 65 + (H.1 5 40).toNat) (v := (Hd.1 0 15)) dX11_readLaw_99 sh_5 (by omega) (by omega) (by decide) ?_
      have ok23 := okI ok20 5 (65 + (H.1 5 40).toNat) (v := (Hd.1 0 15)) (by omega) (by omega)
      refine x_aload_n (pc := 100) dX11_readLaw_100 (List.Mem.tail _ (List.Mem.head _)) ?_
      refine z_bipush (pc := 101) dX11_readLaw_101 bp_31 ?_
      refine z_callVv (pc := 103) (i := mX11_needs) (S := []) [.int (zN (31))] dX11_readLaw_103 ml_X11_160 ok_X11_needs rfl sh_0 rfl rfl (Nat.le_of_ble_eq_true rfl) (c_X11_needs (d := d + 27) (a := 31) (hn := hn) (ha := (by omega)) (ok := ok23) (hT := hT) (hS := (TkS_5 hR.1 _ _))) ?_
      intro He ok25 hp26
      obtain ⟨hSe, hFe⟩ := hp26
      refine x_aload_n (pc := 106) dX11_readLaw_106 (List.Mem.tail _ (List.Mem.head _)) ?_
      refine z_getR (pc := 107) (k := 5) (r := 5) dX11_readLaw_107 lf_X11_27 sh_0 rfl rf_0_5 ?_
      refine z_bipush (pc := 110) dX11_readLaw_110 bp_40 ?_
      refine x_dup2 (pc := 112) dX11_readLaw_112 rfl rfl ?_
      refine z_iald (pc := 113) (j := 40) (v := (H.1 5 40)) dX11_readLaw_113 sh_5 rfl (Nat.le_of_ble_eq_true rfl) (by decide) (by rw [FrT_5 hFe, wI1k (by omega), hR.2.2.2.1 40 (by omega), wI1k (by omega), e5c, upA_ne (by omega)]) ?_
      refine z_iconst (pc := 114) dX11_readLaw_114 ?_
      refine z_iadd (pc := 115) dX11_readLaw_115 ?_
      refine z_iast (pc := 116) (j := 40) (v := (((H.1 5 40)) + 1)) dX11_readLaw_116 sh_5 rfl (Nat.le_of_ble_eq_true rfl) (by decide) ?_
      have ok27 := okI ok25 5 40 (v := (((H.1 5 40)) + 1)) (by omega) (by omega)
      refine z_vreturn (pc := 117) dX11_readLaw_117 rfl ok27 ?_
      rw [hlw]
      refine ⟨TkS_5 hSe _ _, fun z => ?_, FrJ_w (FrJ_tr (FrJ_w (FrJ_tr (FrJ_w (FrJ_tr (FrJ_w (FrJ_tr (FrJ_T hna.2) (FrJ_T hFb)) _ _) (FrJ_T hFc)) _ _) (FrJ_L hR.2.2)) _ _) (FrJ_T hFe)) _ _⟩
      have zt := (pnW_z (show pnW T n 31 (lwT T n p (c, H.1 5)).1.1 (lwT T n p (c, H.1 5)).1.2 = 0 from z)).1
      have hq := hR.2.1 zt
      refine ⟨?_, ?_⟩
      · rw [wI1c (by omega), hFe.1 0 15 (by omega), wI1c (by omega)]; exact hq.1
      · rw [wI_up, FrT_5 hFe, wI_up, hq.2, hq.1]
    · skip
      refine x_aload_n (pc := 31) dX11_readLaw_31 (List.Mem.tail _ (List.Mem.head _)) ?_
      refine z_iconst (pc := 32) dX11_readLaw_32 ?_
      refine z_callVv (pc := 33) (i := mX11_fails) (S := []) [.int (zN (4))] dX11_readLaw_33 ml_X11_148 ok_X11_fails rfl sh_0 rfl rfl (Nat.le_of_ble_eq_true rfl) (c_X11_fails (d := d + 30) (a := 4) (a1 := (by omega)) (a2 := (by omega)) (ok := ok3)) ?_
      intro H3 ok29 hp30
      have hfl := fl_TkS (by omega) hS hp30
      have eg : pfP T n 0 p = tkA T n p := if_pos rfl
      rw [eg] at hfl
      have ef : pfW T n 4 0 p = 4 := (if_pos rfl).trans (if_neg (by omega))
      rw [ef] at hfl
      have hS3 := hfl.1
      have hlx : (lwL T n p (c, H.1 5)) = ((4, tkA T n p), (c, H.1 5)) := (if_neg (fun z => z hk)).trans (if_pos (by show H.1 5 40 = 12; omega))
      have hfin : TkS H3 T n (lwL T n p (c, H.1 5)).1.1 (lwL T n p (c, H.1 5)).1.2 ∧ ((lwL T n p (c, H.1 5)).1.1 = 0 → H3.1 0 15 = ((lwL T n p (c, H.1 5)).2.1 : Int) ∧ H3.1 5 = (lwL T n p (c, H.1 5)).2.2) ∧ FrJ H H3 := by
        rw [hlx]
        exact ⟨hS3, fun z => absurd z (show (4 : Int) ≠ 0 by decide), FrJ_T hfl.2.1⟩
      refine x_aload_n (pc := 36) dX11_readLaw_36 (List.Mem.tail _ (List.Mem.head _)) ?_
      refine z_getI (pc := 37) (k := 12) (v := 4) dX11_readLaw_37 lf_X11_133 sh_0 rfl (TkS_12 hS3) ?_
      refine z_if_eq (pc := 40) (tgt := 44) dX11_readLaw_40 (by decide) (by decide) (by decide) (fun h => absurd h (by decide)) (fun _ => ?_)
      refine z_vreturn (pc := 43) dX11_readLaw_43 rfl ok29 ?_
      exact hfin
  · skip
    have hk : tkK T n p ≠ 17 := fun z => hc4 ⟨t12, by omega⟩
    refine z_if_ne (pc := 14) (tgt := 25) dX11_readLaw_14 (by decide) (by decide) (by decide) (fun h => absurd h (by decide)) (fun _ => ?_)
    refine x_aload_n (pc := 17) dX11_readLaw_17 (List.Mem.tail _ (List.Mem.head _)) ?_
    refine z_iconst (pc := 18) dX11_readLaw_18 ?_
    refine z_callVv (pc := 19) (i := mX11_fails) (S := []) [.int (zN (2))] dX11_readLaw_19 ml_X11_148 ok_X11_fails rfl sh_0 rfl rfl (Nat.le_of_ble_eq_true rfl) (c_X11_fails (d := d + 30) (a := 2) (a1 := (by omega)) (a2 := (by omega)) (ok := ok3)) ?_
    intro H2 ok34 hp35
    have hfl := fl_TkS (by omega) hS hp35
    have eg : pfP T n 0 p = tkA T n p := if_pos rfl
    rw [eg] at hfl
    obtain ⟨w9, hw9⟩ : ∃ w9, w9 = pfW T n 2 0 p := ⟨_, rfl⟩
    rw [← hw9] at hfl
    have hS2 := hfl.1
    have wb9 := hS2.2.2.2.1
    have hw0 : w9 ≠ 0 := by have e : pfW T n 2 0 p = if tkK T n p = 35 then 1 else 2 := if_pos rfl; rw [hw9, e]; split <;> omega
    have hlx : (lwL T n p (c, H.1 5)) = ((w9, tkA T n p), (c, H.1 5)) := by rw [hw9]; exact if_pos hk
    have hfin : TkS H2 T n (lwL T n p (c, H.1 5)).1.1 (lwL T n p (c, H.1 5)).1.2 ∧ ((lwL T n p (c, H.1 5)).1.1 = 0 → H2.1 0 15 = ((lwL T n p (c, H.1 5)).2.1 : Int) ∧ H2.1 5 = (lwL T n p (c, H.1 5)).2.2) ∧ FrJ H H2 := by
      rw [hlx]
      exact ⟨hS2, fun z => absurd z hw0, FrJ_T hfl.2.1⟩
    refine x_goto (pc := 22) (tgt := 36) dX11_readLaw_22 (by decide) ?_
    refine x_aload_n (pc := 36) dX11_readLaw_36 (List.Mem.tail _ (List.Mem.head _)) ?_
    refine z_getI (pc := 37) (k := 12) (v := w9) dX11_readLaw_37 lf_X11_133 sh_0 rfl (TkS_12 hS2) ?_
    refine z_if_eq (pc := 40) (tgt := 44) dX11_readLaw_40 (by decide) (by omega) (by omega) (fun hb36 => ?_) (fun hb36 => ?_)
    · skip
      exact absurd hb36 hw0
    · skip
      refine z_vreturn (pc := 43) dX11_readLaw_43 rfl ok34 ?_
      exact hfin
