/-! GROUP H12: a TEST of THE LAW in the class. -/
/-- the class's steps (in the reader's law, at 55) are the reference's -/
def RepOp (H : ZH) (c : Nat) (q : Nat → Int) : Prop := H.1 55 4 = (c : Int) ∧ ∀ i, i < c → H.1 58 i = (wordOf (q (77 + 2 * i)) : Int) * 1000 + q (78 + 2 * i)
def FrQ (H H1 : ZH) : Prop := (∀ cc k, ¬ (cc = 28 ∧ (k = 2 ∨ k = 3 ∨ (6 ≤ k ∧ k ≤ 10))) → ¬ (cc = 55 ∧ k = 4) → cc ≠ 58 → H1.1 cc k = H.1 cc k) ∧ H1.2 = H.2
theorem FrQ_rf (H : ZH) : FrQ H H := ⟨fun _ _ _ _ _ => rfl, rfl⟩
theorem FrQ_K {H H1 : ZH} (a : FcK H H1) : FrQ H H1 := ⟨fun cc k h _ _ => a.1 cc k h, a.2⟩
theorem FrQ_C {H H1 : ZH} (a : FcC H H1) : FrQ H H1 := FrQ_K (FcK_C a)
theorem FrQ_tr {H H1 H2 : ZH} (a : FrQ H H1) (b : FrQ H1 H2) : FrQ H H2 := ⟨fun cc k g h i => (b.1 cc k g h i).trans (a.1 cc k g h i), b.2.trans a.2⟩
theorem RepOp_K {H H1 : ZH} {c : Nat} {q : Nat → Int} (a : FcK H H1) (r : RepOp H c q) : RepOp H1 c q := ⟨(a.1 55 4 (by omega)).trans r.1, fun i hi => (a.1 58 i (by omega)).trans (r.2 i hi)⟩
def RcP (H H1 : ZH) (T : Nat → Int) (n : Nat) (r : Int) (o : Ox) : Prop := ClO H1 T n r o.1.1 o.1.2 ∧ (o.1.1 = 0 → RepOp H1 o.2.1 o.2.2) ∧ FrQ H H1
theorem RcP_tr {H H1 H2 : ZH} {T : Nat → Int} {n : Nat} {r : Int} {o : Ox} (a : FrQ H H1) (b : RcP H1 H2 T n r o) : RcP H H2 T n r o := ⟨b.1, b.2.1, FrQ_tr a b.2.2⟩
theorem ec_post {H H1 : ZH} {T : Nat → Int} {n p c : Nat} {q : Nat → Int} {W k v : Int} (hS : ClS H T n p) (ro : RepOp H c q) (hW : W = (wordOf k : Int)) (hE : H1 = wI (wI H 58 (H.1 55 4).toNat (W * 1000 + v)) 55 4 (H.1 55 4 + 1)) : ClS H1 T n p ∧ RepOp H1 (c + 1) (em k v (c, q)).2 ∧ FrQ H H1 := by
  rw [show (H.1 55 4).toNat = c by have := ro.1; omega, ro.1] at hE
  subst hE
  refine ⟨ClS_w (ClS_w hS (by omega)) (by omega), ⟨?_, fun i hi => ?_⟩, ⟨fun cc j g h g2 => ?_, rfl⟩⟩
  · rw [wI1]; omega
  · show _ = (wordOf (upA (upA q (77 + 2 * c) k) (78 + 2 * c) v (77 + 2 * i)) : Int) * 1000 + upA (upA q (77 + 2 * c) k) (78 + 2 * c) v (78 + 2 * i)
    rw [wI1c (by omega)]
    by_cases z : i = c
    · rw [z, wI1, upA_ne (by omega), upA_at, upA_at, hW]
    · rw [wI1k (by omega), upA_ne (by omega), upA_ne (by omega), upA_ne (by omega), upA_ne (by omega)]
      exact ro.2 i (by omega)
  · rw [wIg, if_neg h, wI1c g2]
theorem cwd_g : ∀ k : Fin 29, (cwd (k : Nat) ≤ 15 ↔ ((k : Nat) = 4 ∨ (5 ≤ (k : Nat) ∧ (k : Nat) ≤ 12) ∨ (22 ≤ (k : Nat) ∧ (k : Nat) ≤ 28))) ∧ ((8 ≤ cwd (k : Nat) ∧ cwd (k : Nat) ≤ 11) ↔ ((k : Nat) = 4 ∨ (22 ≤ (k : Nat) ∧ (k : Nat) ≤ 24))) ∧ (cwd (k : Nat) ≤ 15 → cwd (k : Nat) = (wordOf (k : Nat) : Int)) := by decide +kernel
theorem cwd_h {K : Int} (h : 0 ≤ K ∧ K ≤ 28) : (cwd K ≤ 15 ↔ (K = 4 ∨ (5 ≤ K ∧ K ≤ 12) ∨ (22 ≤ K ∧ K ≤ 28))) ∧ ((8 ≤ cwd K ∧ cwd K ≤ 11) ↔ (K = 4 ∨ (22 ≤ K ∧ K ≤ 24))) ∧ (cwd K ≤ 15 → cwd K = (wordOf K : Int)) := by
  obtain ⟨m, rfl⟩ := Int.eq_ofNat_of_zero_le h.1
  have z : (cwd (m : Nat) ≤ 15 ↔ (m = 4 ∨ (5 ≤ m ∧ m ≤ 12) ∨ (22 ≤ m ∧ m ≤ 28))) ∧ ((8 ≤ cwd (m : Nat) ∧ cwd (m : Nat) ≤ 11) ↔ (m = 4 ∨ (22 ≤ m ∧ m ≤ 24))) ∧ (cwd (m : Nat) ≤ 15 → cwd (m : Nat) = (wordOf (m : Nat) : Int)) := cwd_g ⟨m, by omega⟩
  refine ⟨⟨fun y => ?_, fun y => ?_⟩, ⟨fun y => ?_, fun y => ?_⟩, fun y => z.2.2 y⟩
  · have y2 := z.1.1 y
    have y3 : m = 4 ∨ (5 ≤ m ∧ m ≤ 12) ∨ (22 ≤ m ∧ m ≤ 28) := y2
    omega
  · exact z.1.2 (show m = 4 ∨ (5 ≤ m ∧ m ≤ 12) ∨ (22 ≤ m ∧ m ≤ 28) by omega)
  · have y2 := z.2.1.1 y
    have y3 : m = 4 ∨ (22 ≤ m ∧ m ≤ 24) := y2
    omega
  · exact z.2.1.2 (show m = 4 ∨ (22 ≤ m ∧ m ≤ 24) by omega)
def cb (b : Int) : Bool := decide (b = 1)
def mo (a : Int) : Nat := if a = 1 then 2 else 1
theorem cb_0 : cb 0 = false := by decide
theorem cb_1 : cb 1 = true := by decide
theorem mo_0 : mo 0 = 1 := by decide
theorem mo_1 : mo 1 = 2 := by decide
theorem pX_m {T : Nat → Int} {n f p dd : Nat} {s : Sx} {a : Int} (h : a = 0 ∨ a = 1) : pX T n (f + 1) (mo a) dd p s = cnt T n 20 (cb a) (pX T n f 0 dd p s) (pX T n f 2 dd) := by
  rcases h with h | h <;> subst h
  · rw [cb_0, mo_0]; exact pX_1
  · rw [cb_1, mo_1]; exact pX_2
/-- the steps, one more where the word was ahead -/
def cbs (b : Int) (op : Int) (s : Sx) : Sx := if cb b then em op 0 s else s
theorem cbs_0 {op : Int} {s : Sx} : cbs 0 op s = s := by
  unfold cbs
  rw [cb_0]
  rfl
theorem cbs_1 {op : Int} {s : Sx} : cbs 1 op s = em op 0 s := by
  unfold cbs
  rw [cb_1]
  rfl

theorem c_X3_readFact_s {d : Nat} {H : ZH} (ok : okZ H) {T q : Nat → Int} {n p c dd f : Nat} (hn : n ≤ 400) (hcp : 2 * c ≤ p) (hdd : dd ≤ 8) (hf : 3 * (n - p) + 1 ≤ f) (hS : ClS H T n p) (ro : RepOp H c q) (ihF : dd < 8 → ∀ {H : ZH} (ok : okZ H) {p c f : Nat} {q : Nat → Int} (hcp : 2 * c ≤ p) (hf : 3 * (n - p) + 1 ≤ f) (hS : ClS H T n p) (ro : RepOp H c q), EvC zX (d + 3) mX3_readFact [.ref 28, .int (zN ((dd : Int) + 1))] (eh H) (zPi (fun (r : Int) (H1 : ZH) => RcP H H1 T n r (pX T n f 0 (dd + 1) p (c, q))))) (ihT : dd < 8 → ∀ {H : ZH} (ok : okZ H) {p c f : Nat} {q : Nat → Int} (hcp : 2 * c ≤ p) (hf : 3 * (n - p) + 3 ≤ f) (hS : ClS H T n p) (ro : RepOp H c q), EvC zX (d + 3) mX3_readTest [.ref 28, .int (zN ((dd : Int) + 1))] (eh H) (zPi (fun (r : Int) (H1 : ZH) => RcP H H1 T n r (pX T n f 3 (dd + 1) p (c, q))))) : EvC zX (d + 4) mX3_readFact [.ref 28, .int (zN ((dd : Int)))] (eh H) (zPi (fun (r : Int) (H1 : ZH) => RcP H H1 T n r (pX T n f 0 dd p (c, q)))) := by
  show _ ∧ Ev zX mX3_readFact (EvC zX (d + 3)) (zPi (fun (r : Int) (H1 : ZH) => RcP H H1 T n r (pX T n f 0 dd p (c, q)))) 0 [(0, .ref 28), (1, .int (zN ((dd : Int))))] [] (eh H)
  refine ⟨Nat.le_of_ble_eq_true rfl, ?_⟩
  have kb := ClS_K hS
  have tb := tk_bd T hS.1
  obtain ⟨f2, hfe⟩ : ∃ f2, f = f2 + 1 := ⟨f - 1, by omega⟩
  have i32 := iss_k (k := 32) (s := 40) hS (by omega)
  have i21 := isw_k (k := 21) hS (by omega)
  rw [show cwd 21 = 16 by decide] at i21
  have ct := ctK_2 kb
  rw [← ClS_7 hS] at ct
  have k9 : tkK T n p ≤ 29 → H.1 28 9 = cwd (tkK T n p) := fun z => by rw [ClS_9 hS (by omega), ctV_w z]
  have jn81 : (tkK T n p = 21 → dd < 8) → (tkK T n p ≠ 32) → Ev zX mX3_readFact (EvC zX (d + 3)) (zPi (fun (r : Int) (H1 : ZH) => RcP H H1 T n r (pX T n f 0 dd p (c, q)))) 81 [(0, .ref 28), (1, .int (zN ((dd : Int)))), (2, .int (zN (0)))] [] (eh H) := by
    intro hj1 hj2
    refine x_aload_n (pc := 81) dX3_readFact_81 (List.Mem.head _) ?_
    refine z_bipush (pc := 82) dX3_readFact_82 bp_16 ?_
    refine z_callVbp (pc := 84) (i := mX3_isWord) (S := []) [.int (zN (16))] dX3_readFact_84 ml_X3_55 ok_X3_isWord rfl sh_28 rfl (Or.inr rfl) (Nat.le_of_ble_eq_true rfl) (c_X3_isWord (d := d + 2) (w := 16) (w1 := (by omega)) (w2 := (by omega)) (ok := ok)) (fun hc3 ok2 => ?_) (fun hc3 ok2 => ?_)
    · skip
      have h21 : tkK T n p = 21 := i21.1 hc3
      have hlt := hj1 h21
      have tw := tk_w T hS.1 (by omega)
      refine z_if_eq (pc := 87) (tgt := 123) dX3_readFact_87 (by decide) (by decide) (by decide) (fun h => absurd h (by decide)) (fun _ => ?_)
      refine x_aload_n (pc := 90) dX3_readFact_90 (List.Mem.head _) ?_
      refine z_callVv (pc := 91) (i := mX3_advance) (S := []) [] dX3_readFact_91 ml_X3_95 ok_X3_advance rfl sh_28 rfl rfl (Nat.le_of_ble_eq_true rfl) (c_X3_advance (d := d + 1) (T := T) (n := n) (b := (tkE T n p)) (hn := hn) (hb := ((tk_bd T hS.1).2.2.1)) (ok := ok2) (y4 := (hS.2.1)) (h5 := (hS.2.2.1)) (h6 := (hS.2.2.2.2.2.1)) (htp := hS.2.2.2.1) (g2 := (hS.2.2.2.2.2.2.2.2.1)) (g3 := (hS.2.2.2.2.2.2.2.2.2))) ?_
      intro Ha ok6 hp7
      have hadv := hp7
      refine x_aload_n (pc := 94) dX3_readFact_94 (List.Mem.head _) ?_
      refine x_iload_n (pc := 95) dX3_readFact_95 (List.Mem.tail _ (List.Mem.head _)) ?_
      refine z_iconst (pc := 96) dX3_readFact_96 ?_
      refine z_iadd (pc := 97) dX3_readFact_97 ?_
      refine z_callVi (pc := 98) (i := mX3_readFact) (S := []) [.int (zN (((dd : Int) + 1)))] dX3_readFact_98 ml_X3_149 ok_X3_readFact rfl sh_28 rfl (Or.inr rfl) (Nat.le_of_ble_eq_true rfl) ((ihF hlt) (p := (tkE T n p)) (c := c) (f := f2) (q := q) (hcp := (by omega)) (hf := (by omega)) (ok := ok6) (hS := hadv.1) (ro := (RepOp_K (FcK_C hadv.2) ro))) ?_
      intro r8 H2 r8a r8b ok9 hp10
      obtain ⟨hR1, hR2, hR3⟩ := hp10
      obtain ⟨o, ho⟩ : ∃ o, o = pX T n f2 0 (dd + 1) (tkE T n p) (c, q) := ⟨_, rfl⟩
      rw [← ho] at hR1 hR2
      have hRF := FrQ_tr (FrQ_C hadv.2) hR3
      have hln : o.1.1 = 0 → tkE T n p + 2 ≤ o.1.2 ∧ o.1.2 ≤ n ∧ 2 * o.2.1 + tkE T n p ≤ o.1.2 + 2 * c ∧ c ≤ o.2.1 := fun z => by have y := pX_l (T := T) (n := n) (f := f2) (m := 0) (dd := dd + 1) (p := tkE T n p) (s := (c, q)) tb.2.2.1 (by omega) (by rw [← ho]; exact z); rw [← ho] at y; exact y
      refine z_if_eq (pc := 101) (tgt := 121) dX3_readFact_101 (by decide) (by omega) (by omega) (fun hb11 => ?_) (fun hb11 => ?_)
      · skip
        have hz := ClO_f hR1 hb11
        have hfin : RcP H H2 T n 0 (pX T n (f2 + 1) 0 dd p (c, q)) := by
          rw [pX_0n (T := T) (n := n) (f := f2) (p := p) (dd := dd) (s := (c, q)) h21 (by omega), ← ho]
          exact ⟨ClO_0 hz, fun z => absurd z hz.1, hRF⟩
        refine z_iconst (pc := 121) dX3_readFact_121 ?_
        refine z_ireturn (pc := 122) dX3_readFact_122 rfl (Or.inr ⟨rfl, by omega⟩) ok9 (by decide) (by decide) ?_
        rw [hfe]
        exact hfin
      · skip
        have hz := ClO_t hR1 hb11
        have hro := hR2 hz.1
        have hl := hln hz.1
        refine x_aload_n (pc := 104) dX3_readFact_104 (List.Mem.head _) ?_
        refine z_getR (pc := 105) (k := 1) (r := 55) dX3_readFact_105 lf_X3_21 sh_28 rfl rf_28_1 ?_
        refine z_bipush (pc := 108) dX3_readFact_108 bp_16 ?_
        refine z_iconst (pc := 110) dX3_readFact_110 ?_
        refine z_callVi (pc := 111) (i := mX1_addStep) (S := []) [.int (zN (16)), .int (zN (0))] dX3_readFact_111 ml_X3_152 ok_X1_addStep rfl sh_55 rfl (Or.inr rfl) (Nat.le_of_ble_eq_true rfl) (c_X1_addStep (d := d + 2) (w := 16) (v := 0) (hw := (by omega)) (hv := (by omega)) (ok := ok9) (hz := (by rw [hro.1]; omega))) ?_
        intro r12 H3 r12a r12b ok13 hp14
        have hr1 := hp14.1
        have he := ec_post (k := 21) hz.2 hro (by decide) hp14.2
        have hfin : RcP H H3 T n 1 (pX T n (f2 + 1) 0 dd p (c, q)) := by
          rw [pX_0n (T := T) (n := n) (f := f2) (p := p) (dd := dd) (s := (c, q)) h21 (by omega), ← ho]
          exact ⟨⟨fun _ => ⟨rfl, he.1⟩, fun z => absurd hz.1 z⟩, fun _ => he.2.1, FrQ_tr hRF he.2.2⟩
        refine z_if_eq (pc := 114) (tgt := 121) dX3_readFact_114 (by decide) (by omega) (by omega) (fun hb15 => absurd hb15 (by omega)) (fun hb15 => ?_)
        refine z_iconst (pc := 117) dX3_readFact_117 ?_
        refine x_goto (pc := 118) (tgt := 122) dX3_readFact_118 (by decide) ?_
        refine z_ireturn (pc := 122) dX3_readFact_122 rfl (Or.inr ⟨rfl, by omega⟩) ok13 (by decide) (by decide) ?_
        rw [hfe]
        exact hfin
    · skip
      have h21 : tkK T n p ≠ 21 := fun z => hc3 (i21.2 z)
      refine z_if_eq (pc := 87) (tgt := 123) dX3_readFact_87 (by decide) (by decide) (by decide) (fun _ => ?_) (fun h => absurd h (by decide))
      refine x_aload_n (pc := 123) dX3_readFact_123 (List.Mem.head _) ?_
      have rd17 := ok2.1 28 7
      refine z_getI (pc := 124) (k := 7) (v := H.1 28 7) dX3_readFact_124 lf_X3_40 sh_28 rfl rfl ?_
      refine z_iconst (pc := 127) dX3_readFact_127 ?_
      refine z_icmp_ne (pc := 128) (tgt := 147) dX3_readFact_128 (by decide) (by omega) (by omega) (by decide) (by decide) (fun hb18 => ?_) (fun hb18 => ?_)
      · skip
        have kx : ¬ tkK T n p ≤ 29 := fun z => hb18 (ct.1.2 z)
        refine x_aload_n (pc := 147) dX3_readFact_147 (List.Mem.head _) ?_
        refine z_callVi (pc := 148) (i := mX3_misfit) (S := []) [] dX3_readFact_148 ml_X3_101 ok_X3_misfit rfl sh_28 rfl (Or.inr rfl) (Nat.le_of_ble_eq_true rfl) (c_X3_misfit (d := d + 1) (ok := ok2)) ?_
        intro r19 H22 r19a r19b ok20 hp21
        have hm := ms_ClO hS hp21
        have hfx : fcS T n p (c, q) = ((pfW T n 2 0 p, tkA T n p), (c, q)) := (if_neg (by omega)).trans (if_neg (by omega))
        have pfp : pfP T n 0 p = tkA T n p := if_pos rfl
        have pfn : pfW T n 2 0 p ≠ 0 := by have e : pfW T n 2 0 p = if tkK T n p = 35 then 1 else 2 := if_pos rfl; rw [e]; split <;> omega
        refine z_ireturn (pc := 151) dX3_readFact_151 rfl (Or.inr ⟨rfl, by omega⟩) ok20 (by omega) (by omega) ?_
        rw [hfe, pX_0s (T := T) (n := n) (f := f2) (p := p) (dd := dd) (s := (c, q)) (by omega), hfx]
        exact ⟨by rw [← pfp]; exact hm.1, fun z => absurd z pfn, FrQ_K hm.2⟩
      · skip
        have kx := ct.1.1 (by omega)
        have k9x := k9 kx
        refine x_aload_n (pc := 131) dX3_readFact_131 (List.Mem.head _) ?_
        have rd23 := ok2.1 28 9
        refine z_getI (pc := 132) (k := 9) (v := H.1 28 9) dX3_readFact_132 lf_X3_98 sh_28 rfl rfl ?_
        refine z_if_lt (pc := 135) (tgt := 147) dX3_readFact_135 (by decide) (by omega) (by omega) (fun hb24 => ?_) (fun hb24 => ?_)
        · skip
          have kx9 : tkK T n p = 29 := by
            by_cases z : tkK T n p = 29
            · exact z
            · exfalso
              have y := cwd_p (K := tkK T n p) (by omega)
              omega
          refine x_aload_n (pc := 147) dX3_readFact_147 (List.Mem.head _) ?_
          refine z_callVi (pc := 148) (i := mX3_misfit) (S := []) [] dX3_readFact_148 ml_X3_101 ok_X3_misfit rfl sh_28 rfl (Or.inr rfl) (Nat.le_of_ble_eq_true rfl) (c_X3_misfit (d := d + 1) (ok := ok2)) ?_
          intro r25 H28 r25a r25b ok26 hp27
          have hm := ms_ClO hS hp27
          have hfx : fcS T n p (c, q) = ((pfW T n 2 0 p, tkA T n p), (c, q)) := (if_neg (by omega)).trans (if_neg (by omega))
          have pfp : pfP T n 0 p = tkA T n p := if_pos rfl
          have pfn : pfW T n 2 0 p ≠ 0 := by have e : pfW T n 2 0 p = if tkK T n p = 35 then 1 else 2 := if_pos rfl; rw [e]; split <;> omega
          refine z_ireturn (pc := 151) dX3_readFact_151 rfl (Or.inr ⟨rfl, by omega⟩) ok26 (by omega) (by omega) ?_
          rw [hfe, pX_0s (T := T) (n := n) (f := f2) (p := p) (dd := dd) (s := (c, q)) (by omega), hfx]
          exact ⟨by rw [← pfp]; exact hm.1, fun z => absurd z pfn, FrQ_K hm.2⟩
        · skip
          have kx8 : tkK T n p ≤ 28 := by
            by_cases z : tkK T n p = 29
            · rw [z, show cwd 29 = -1 by decide] at k9x; omega
            · omega
          have ch := cwd_h (K := tkK T n p) ⟨kb.1, kx8⟩
          refine x_aload_n (pc := 138) dX3_readFact_138 (List.Mem.head _) ?_
          have rd29 := ok2.1 28 9
          refine z_getI (pc := 139) (k := 9) (v := H.1 28 9) dX3_readFact_139 lf_X3_98 sh_28 rfl rfl ?_
          refine z_bipush (pc := 142) dX3_readFact_142 bp_15 ?_
          refine z_icmp_le (pc := 144) (tgt := 152) dX3_readFact_144 (by decide) (by omega) (by omega) (by decide) (by decide) (fun hb30 => ?_) (fun hb30 => ?_)
          · skip
            have c15 : cwd (tkK T n p) ≤ 15 := by omega
            have kf := ch.1.1 c15
            have wo := ch.2.2 c15
            have cp := cwd_p (K := tkK T n p) ⟨kb.1, kx8⟩
            refine x_aload_n (pc := 152) dX3_readFact_152 (List.Mem.head _) ?_
            refine z_getI (pc := 153) (k := 9) (v := (cwd (tkK T n p))) dX3_readFact_153 lf_X3_98 sh_28 rfl k9x ?_
            refine x_istore_n (pc := 156) dX3_readFact_156 (Nat.le_of_ble_eq_true rfl) ?_
            show Ev _ _ _ _ _ [(3, .int (zN (((cwd (tkK T n p)))))), (0, .ref 28), (1, .int (zN ((dd : Int)))), (2, .int (zN (0)))] _ _
            refine x_aload_n (pc := 157) dX3_readFact_157 (List.Mem.tail _ (List.Mem.head _)) ?_
            refine z_callVv (pc := 158) (i := mX3_advance) (S := []) [] dX3_readFact_158 ml_X3_95 ok_X3_advance rfl sh_28 rfl rfl (Nat.le_of_ble_eq_true rfl) (c_X3_advance (d := d + 1) (T := T) (n := n) (b := (tkE T n p)) (hn := hn) (hb := ((tk_bd T hS.1).2.2.1)) (ok := ok2) (y4 := (hS.2.1)) (h5 := (hS.2.2.1)) (h6 := (hS.2.2.2.2.2.1)) (htp := hS.2.2.2.1) (g2 := (hS.2.2.2.2.2.2.2.2.1)) (g3 := (hS.2.2.2.2.2.2.2.2.2))) ?_
            intro Ha ok32 hp33
            have hadv := hp33
            refine x_iload_n (pc := 161) dX3_readFact_161 (List.Mem.head _) ?_
            refine z_bipush (pc := 162) dX3_readFact_162 bp_8 ?_
            refine z_icmp_lt (pc := 164) (tgt := 173) dX3_readFact_164 (by decide) (by omega) (by omega) (by decide) (by decide) (fun hb34 => ?_) (fun hb34 => ?_)
            · skip
              have hf0 : ¬ (tkK T n p = 4 ∨ (22 ≤ tkK T n p ∧ tkK T n p ≤ 24)) := fun z => by have y := ch.2.1.2 z; omega
              have hfx : fcS T n p (c, q) = ((0, tkE T n p), em (tkK T n p) 0 (c, q)) := (if_neg hf0).trans (if_pos (by omega))
              have roa := RepOp_K (FcK_C hadv.2) ro
              refine x_aload_n (pc := 173) dX3_readFact_173 (List.Mem.tail _ (List.Mem.head _)) ?_
              refine z_getR (pc := 174) (k := 1) (r := 55) dX3_readFact_174 lf_X3_21 sh_28 rfl rf_28_1 ?_
              refine x_iload_n (pc := 177) dX3_readFact_177 (List.Mem.head _) ?_
              refine z_iconst (pc := 178) dX3_readFact_178 ?_
              refine z_callVi (pc := 179) (i := mX1_addStep) (S := []) [.int (zN (((cwd (tkK T n p))))), .int (zN (0))] dX3_readFact_179 ml_X3_152 ok_X1_addStep rfl sh_55 rfl (Or.inr rfl) (Nat.le_of_ble_eq_true rfl) (c_X1_addStep (d := d + 2) (w := (((cwd (tkK T n p))))) (v := 0) (hw := (by omega)) (hv := (by omega)) (ok := ok32) (hz := (by rw [roa.1]; have := hS.1; omega))) ?_
              intro r35 H3 r35a r35b ok36 hp37
              have he := ec_post (k := tkK T n p) hadv.1 roa wo hp37.2
              refine z_ireturn (pc := 182) dX3_readFact_182 rfl (Or.inr ⟨rfl, by omega⟩) ok36 (by omega) (by omega) ?_
              rw [hfe, pX_0s (T := T) (n := n) (f := f2) (p := p) (dd := dd) (s := (c, q)) (by omega), hfx]
              exact ⟨⟨fun _ => ⟨by omega, he.1⟩, fun z => absurd rfl z⟩, fun _ => he.2.1, FrQ_tr (FrQ_C hadv.2) he.2.2⟩
            · skip
              refine x_iload_n (pc := 167) dX3_readFact_167 (List.Mem.head _) ?_
              refine z_bipush (pc := 168) dX3_readFact_168 bp_11 ?_
              refine z_icmp_le (pc := 170) (tgt := 183) dX3_readFact_170 (by decide) (by omega) (by omega) (by decide) (by decide) (fun hb38 => ?_) (fun hb38 => ?_)
              · skip
                have hf0 : tkK T n p = 4 ∨ (22 ≤ tkK T n p ∧ tkK T n p ≤ 24) := ch.2.1.1 (by omega)
                have hfx : fcS T n p (c, q) = (pt T n 0 999 (0, tkE T n p), em (tkK T n p) (tkN T n (tkE T n p)) (c, q)) := if_pos hf0
                have roa := RepOp_K (FcK_C hadv.2) ro
                refine x_aload_n (pc := 183) dX3_readFact_183 (List.Mem.tail _ (List.Mem.head _)) ?_
                refine z_iconst (pc := 184) dX3_readFact_184 ?_
                refine z_sipush (pc := 185) dX3_readFact_185 sp_999 ?_
                refine z_callVi (pc := 188) (i := mX3_takeNumber) (S := []) [.int (zN (0)), .int (zN (999))] dX3_readFact_188 ml_X3_66 ok_X3_takeNumber rfl sh_28 rfl (Or.inr rfl) (Nat.le_of_ble_eq_true rfl) (c_X3_takeNumber (d := d) (lo := 0) (hi := 999) (hn := hn) (lo1 := (by omega)) (lo2 := (by omega)) (hi1 := (by omega)) (hi2 := (by omega)) (ok := ok32) (hS := hadv.1)) ?_
                intro r39 Hb r39a r39b ok40 hp41
                obtain ⟨hc3, hv3, hk3⟩ := hp41
                have okb_ := ok40
                refine z_if_eq (pc := 191) (tgt := 213) dX3_readFact_191 (by decide) (by omega) (by omega) (fun hb42 => ?_) (fun hb42 => ?_)
                · skip
                  have hz3 := ClO_f hc3 hb42
                  have hfin : RcP H Hb T n 0 (pX T n (f2 + 1) 0 dd p (c, q)) := by
                    rw [pX_0s (T := T) (n := n) (f := f2) (p := p) (dd := dd) (s := (c, q)) (by omega), hfx]
                    exact ⟨ClO_0 hz3, fun z => absurd z hz3.1, FrQ_tr (FrQ_C hadv.2) (FrQ_K hk3)⟩
                  refine z_iconst (pc := 213) dX3_readFact_213 ?_
                  refine z_ireturn (pc := 214) dX3_readFact_214 rfl (Or.inr ⟨rfl, by omega⟩) ok40 (by decide) (by decide) ?_
                  rw [hfe]
                  exact hfin
                · skip
                  have hz3 := ClO_t hc3 hb42
                  have hb3 := (pt_z hz3.1).2.2.1
                  have rob := RepOp_K hk3 roa
                  refine x_aload_n (pc := 194) dX3_readFact_194 (List.Mem.tail _ (List.Mem.head _)) ?_
                  refine z_getR (pc := 195) (k := 1) (r := 55) dX3_readFact_195 lf_X3_21 sh_28 rfl rf_28_1 ?_
                  refine x_iload_n (pc := 198) dX3_readFact_198 (List.Mem.head _) ?_
                  refine x_aload_n (pc := 199) dX3_readFact_199 (List.Mem.tail _ (List.Mem.head _)) ?_
                  refine z_getI (pc := 200) (k := 10) (v := (tkN T n (tkE T n p))) dX3_readFact_200 lf_X3_70 sh_28 rfl (hv3 hz3.1) ?_
                  refine z_callVi (pc := 203) (i := mX1_addStep) (S := []) [.int (zN (((cwd (tkK T n p))))), .int (zN (((tkN T n (tkE T n p)))))] dX3_readFact_203 ml_X3_152 ok_X1_addStep rfl sh_55 rfl (Or.inr rfl) (Nat.le_of_ble_eq_true rfl) (c_X1_addStep (d := d + 2) (w := (((cwd (tkK T n p))))) (v := (((tkN T n (tkE T n p))))) (hw := (by omega)) (hv := (by omega)) (ok := ok40) (hz := (by rw [rob.1]; have := hS.1; omega))) ?_
                  intro r43 H3 r43a r43b ok44 hp45
                  have hr1 := hp45.1
                  have he := ec_post (k := tkK T n p) hz3.2 rob wo hp45.2
                  have hfin : RcP H H3 T n 1 (pX T n (f2 + 1) 0 dd p (c, q)) := by
                    rw [pX_0s (T := T) (n := n) (f := f2) (p := p) (dd := dd) (s := (c, q)) (by omega), hfx]
                    exact ⟨⟨fun _ => ⟨rfl, he.1⟩, fun z => absurd hz3.1 z⟩, fun _ => he.2.1, FrQ_tr (FrQ_tr (FrQ_C hadv.2) (FrQ_K hk3)) he.2.2⟩
                  refine z_if_eq (pc := 206) (tgt := 213) dX3_readFact_206 (by decide) (by omega) (by omega) (fun hb46 => absurd hb46 (by omega)) (fun hb46 => ?_)
                  refine z_iconst (pc := 209) dX3_readFact_209 ?_
                  refine x_goto (pc := 210) (tgt := 214) dX3_readFact_210 (by decide) ?_
                  refine z_ireturn (pc := 214) dX3_readFact_214 rfl (Or.inr ⟨rfl, by omega⟩) ok44 (by decide) (by decide) ?_
                  rw [hfe]
                  exact hfin
              · skip
                have hf0 : ¬ (tkK T n p = 4 ∨ (22 ≤ tkK T n p ∧ tkK T n p ≤ 24)) := fun z => by have y := ch.2.1.2 z; omega
                have hfx : fcS T n p (c, q) = ((0, tkE T n p), em (tkK T n p) 0 (c, q)) := (if_neg hf0).trans (if_pos (by omega))
                have roa := RepOp_K (FcK_C hadv.2) ro
                refine x_aload_n (pc := 173) dX3_readFact_173 (List.Mem.tail _ (List.Mem.head _)) ?_
                refine z_getR (pc := 174) (k := 1) (r := 55) dX3_readFact_174 lf_X3_21 sh_28 rfl rf_28_1 ?_
                refine x_iload_n (pc := 177) dX3_readFact_177 (List.Mem.head _) ?_
                refine z_iconst (pc := 178) dX3_readFact_178 ?_
                refine z_callVi (pc := 179) (i := mX1_addStep) (S := []) [.int (zN (((cwd (tkK T n p))))), .int (zN (0))] dX3_readFact_179 ml_X3_152 ok_X1_addStep rfl sh_55 rfl (Or.inr rfl) (Nat.le_of_ble_eq_true rfl) (c_X1_addStep (d := d + 2) (w := (((cwd (tkK T n p))))) (v := 0) (hw := (by omega)) (hv := (by omega)) (ok := ok32) (hz := (by rw [roa.1]; have := hS.1; omega))) ?_
                intro r47 H3 r47a r47b ok48 hp49
                have he := ec_post (k := tkK T n p) hadv.1 roa wo hp49.2
                refine z_ireturn (pc := 182) dX3_readFact_182 rfl (Or.inr ⟨rfl, by omega⟩) ok48 (by omega) (by omega) ?_
                rw [hfe, pX_0s (T := T) (n := n) (f := f2) (p := p) (dd := dd) (s := (c, q)) (by omega), hfx]
                exact ⟨⟨fun _ => ⟨by omega, he.1⟩, fun z => absurd rfl z⟩, fun _ => he.2.1, FrQ_tr (FrQ_C hadv.2) he.2.2⟩
          · skip
            have kf : ¬ (tkK T n p = 4 ∨ (5 ≤ tkK T n p ∧ tkK T n p ≤ 12) ∨ (22 ≤ tkK T n p ∧ tkK T n p ≤ 28)) := fun z => by have y := ch.1.2 z; omega
            refine x_aload_n (pc := 147) dX3_readFact_147 (List.Mem.head _) ?_
            refine z_callVi (pc := 148) (i := mX3_misfit) (S := []) [] dX3_readFact_148 ml_X3_101 ok_X3_misfit rfl sh_28 rfl (Or.inr rfl) (Nat.le_of_ble_eq_true rfl) (c_X3_misfit (d := d + 1) (ok := ok2)) ?_
            intro r50 H53 r50a r50b ok51 hp52
            have hm := ms_ClO hS hp52
            have hfx : fcS T n p (c, q) = ((pfW T n 2 0 p, tkA T n p), (c, q)) := (if_neg (by omega)).trans (if_neg (by omega))
            have pfp : pfP T n 0 p = tkA T n p := if_pos rfl
            have pfn : pfW T n 2 0 p ≠ 0 := by have e : pfW T n 2 0 p = if tkK T n p = 35 then 1 else 2 := if_pos rfl; rw [e]; split <;> omega
            refine z_ireturn (pc := 151) dX3_readFact_151 rfl (Or.inr ⟨rfl, by omega⟩) ok51 (by omega) (by omega) ?_
            rw [hfe, pX_0s (T := T) (n := n) (f := f2) (p := p) (dd := dd) (s := (c, q)) (by omega), hfx]
            exact ⟨by rw [← pfp]; exact hm.1, fun z => absurd z pfn, FrQ_K hm.2⟩
  have jn21 : (tkK T n p ≠ 32) → Ev zX mX3_readFact (EvC zX (d + 3)) (zPi (fun (r : Int) (H1 : ZH) => RcP H H1 T n r (pX T n f 0 dd p (c, q)))) 21 [(0, .ref 28), (1, .int (zN ((dd : Int))))] [] (eh H) := by
    intro hj3
    refine z_iconst (pc := 21) dX3_readFact_21 ?_
    refine x_istore_n (pc := 22) dX3_readFact_22 (Nat.le_of_ble_eq_true rfl) ?_
    show Ev _ _ _ _ _ [(2, .int (zN (0))), (0, .ref 28), (1, .int (zN ((dd : Int))))] _ _
    refine x_iload_n (pc := 23) dX3_readFact_23 (List.Mem.head _) ?_
    refine z_if_ne (pc := 24) (tgt := 36) dX3_readFact_24 (by decide) (by decide) (by decide) (fun h => absurd h (by decide)) (fun _ => ?_)
    refine x_aload_n (pc := 27) dX3_readFact_27 (List.Mem.tail _ (List.Mem.head _)) ?_
    refine z_bipush (pc := 28) dX3_readFact_28 bp_16 ?_
    refine z_callVbp (pc := 30) (i := mX3_isWord) (S := []) [.int (zN (16))] dX3_readFact_30 ml_X3_55 ok_X3_isWord rfl sh_28 rfl (Or.inr rfl) (Nat.le_of_ble_eq_true rfl) (c_X3_isWord (d := d + 2) (w := 16) (w1 := (by omega)) (w2 := (by omega)) (ok := ok)) (fun hc57 ok56 => ?_) (fun hc57 ok56 => ?_)
    · skip
      have h21 : tkK T n p = 21 := i21.1 hc57
      refine z_if_eq (pc := 33) (tgt := 48) dX3_readFact_33 (by decide) (by decide) (by decide) (fun h => absurd h (by decide)) (fun _ => ?_)
      refine x_iload_n (pc := 36) dX3_readFact_36 (List.Mem.tail _ (List.Mem.tail _ (List.Mem.head _))) ?_
      refine z_bipush (pc := 37) dX3_readFact_37 bp_8 ?_
      refine z_icmp_lt (pc := 39) (tgt := 48) dX3_readFact_39 (by decide) (by omega) (by omega) (by decide) (by decide) (fun hb59 => ?_) (fun hb59 => ?_)
      · skip
        refine x_iload_n (pc := 48) dX3_readFact_48 (List.Mem.head _) ?_
        refine z_if_eq (pc := 49) (tgt := 81) dX3_readFact_49 (by decide) (by decide) (by decide) (fun _ => ?_) (fun h => absurd h (by decide))
        refine x_weaken (L1 := [(0, .ref 28), (1, .int (zN ((dd : Int)))), (2, .int (zN (0)))]) (List.forall_mem_cons.mpr ⟨(List.Mem.tail _ (List.Mem.head _)), (List.forall_mem_cons.mpr ⟨(List.Mem.tail _ (List.Mem.tail _ (List.Mem.head _))), (List.forall_mem_cons.mpr ⟨(List.Mem.head _), (fun _ h => absurd h List.not_mem_nil)⟩)⟩)⟩) ?_
        exact jn81  (by omega) (by omega)
      · skip
        have e8 : dd = 8 := by omega
        subst e8
        refine x_aload_n (pc := 42) dX3_readFact_42 (List.Mem.tail _ (List.Mem.head _)) ?_
        refine z_iconst (pc := 43) dX3_readFact_43 ?_
        refine z_callVi (pc := 44) (i := mX3_wrong) (S := []) [.int (zN (5))] dX3_readFact_44 ml_X3_60 ok_X3_wrong rfl sh_28 rfl (Or.inr rfl) (Nat.le_of_ble_eq_true rfl) (c_X3_wrong (d := d + 2) (k := 5) (k1 := (by omega)) (k2 := (by omega)) (ok := ok56)) ?_
        intro r61 H64 r61a r61b ok62 hp63
        have hw := wr_ClO (by omega) hS (by omega) hp63
        have e1 : pfW T n 5 0 p = 5 := (if_pos rfl).trans (if_neg (by omega))
        have e2 : pfP T n 0 p = tkA T n p := if_pos rfl
        rw [e1, e2] at hw
        refine z_ireturn (pc := 47) dX3_readFact_47 rfl (Or.inr ⟨rfl, by omega⟩) ok62 (by omega) (by omega) ?_
        rw [hfe, pX_0d (T := T) (n := n) (f := f2) (p := p) (s := (c, q)) (by omega)]
        exact ⟨hw.1, fun z => absurd z (show (5 : Int) ≠ 0 by decide), FrQ_K hw.2⟩
    · skip
      have h21 : tkK T n p ≠ 21 := fun z => hc57 (i21.2 z)
      refine z_if_eq (pc := 33) (tgt := 48) dX3_readFact_33 (by decide) (by decide) (by decide) (fun _ => ?_) (fun h => absurd h (by decide))
      refine x_iload_n (pc := 48) dX3_readFact_48 (List.Mem.head _) ?_
      refine z_if_eq (pc := 49) (tgt := 81) dX3_readFact_49 (by decide) (by decide) (by decide) (fun _ => ?_) (fun h => absurd h (by decide))
      refine x_weaken (L1 := [(0, .ref 28), (1, .int (zN ((dd : Int)))), (2, .int (zN (0)))]) (List.forall_mem_cons.mpr ⟨(List.Mem.tail _ (List.Mem.head _)), (List.forall_mem_cons.mpr ⟨(List.Mem.tail _ (List.Mem.tail _ (List.Mem.head _))), (List.forall_mem_cons.mpr ⟨(List.Mem.head _), (fun _ h => absurd h List.not_mem_nil)⟩)⟩)⟩) ?_
      exact jn81  (by omega) (by omega)
  refine x_aload_n (pc := 0) dX3_readFact_0 (List.Mem.head _) ?_
  have rd67 := ok.1 28 7
  refine z_getI (pc := 1) (k := 7) (v := H.1 28 7) dX3_readFact_1 lf_X3_40 sh_28 rfl rfl ?_
  refine z_iconst (pc := 4) dX3_readFact_4 ?_
  refine z_icmp_ne (pc := 5) (tgt := 21) dX3_readFact_5 (by decide) (by omega) (by omega) (by decide) (by decide) (fun hb68 => ?_) (fun hb68 => ?_)
  · skip
    have hj3 : tkK T n p ≠ 32 := fun z => by have y := (i32.2 z).1; omega
    refine x_weaken (L1 := [(0, .ref 28), (1, .int (zN ((dd : Int))))]) (List.forall_mem_cons.mpr ⟨(List.Mem.head _), (List.forall_mem_cons.mpr ⟨(List.Mem.tail _ (List.Mem.head _)), (fun _ h => absurd h List.not_mem_nil)⟩)⟩) ?_
    exact jn21  (hj3)
  · skip
    refine x_aload_n (pc := 8) dX3_readFact_8 (List.Mem.head _) ?_
    have rd69 := ok.1 28 9
    refine z_getI (pc := 9) (k := 9) (v := H.1 28 9) dX3_readFact_9 lf_X3_98 sh_28 rfl rfl ?_
    refine z_bipush (pc := 12) dX3_readFact_12 bp_40 ?_
    refine z_icmp_ne (pc := 14) (tgt := 21) dX3_readFact_14 (by decide) (by omega) (by omega) (by decide) (by decide) (fun hb70 => ?_) (fun hb70 => ?_)
    · skip
      have hj3 : tkK T n p ≠ 32 := fun z => by have y := (i32.2 z).2; omega
      refine x_weaken (L1 := [(0, .ref 28), (1, .int (zN ((dd : Int))))]) (List.forall_mem_cons.mpr ⟨(List.Mem.head _), (List.forall_mem_cons.mpr ⟨(List.Mem.tail _ (List.Mem.head _)), (fun _ h => absurd h List.not_mem_nil)⟩)⟩) ?_
      exact jn21  (hj3)
    · skip
      have h32 : tkK T n p = 32 := i32.1 ⟨by omega, by omega⟩
      refine z_iconst (pc := 17) dX3_readFact_17 ?_
      refine x_goto (pc := 18) (tgt := 22) dX3_readFact_18 (by decide) ?_
      refine x_istore_n (pc := 22) dX3_readFact_22 (Nat.le_of_ble_eq_true rfl) ?_
      show Ev _ _ _ _ _ [(2, .int (zN (1))), (0, .ref 28), (1, .int (zN ((dd : Int))))] _ _
      refine x_iload_n (pc := 23) dX3_readFact_23 (List.Mem.head _) ?_
      refine z_if_ne (pc := 24) (tgt := 36) dX3_readFact_24 (by decide) (by decide) (by decide) (fun _ => ?_) (fun h => absurd h (by decide))
      refine x_iload_n (pc := 36) dX3_readFact_36 (List.Mem.tail _ (List.Mem.tail _ (List.Mem.head _))) ?_
      refine z_bipush (pc := 37) dX3_readFact_37 bp_8 ?_
      refine z_icmp_lt (pc := 39) (tgt := 48) dX3_readFact_39 (by decide) (by omega) (by omega) (by decide) (by decide) (fun hb72 => ?_) (fun hb72 => ?_)
      · skip
        refine x_iload_n (pc := 48) dX3_readFact_48 (List.Mem.head _) ?_
        refine z_if_eq (pc := 49) (tgt := 81) dX3_readFact_49 (by decide) (by decide) (by decide) (fun h => absurd h (by decide)) (fun _ => ?_)
        refine x_aload_n (pc := 52) dX3_readFact_52 (List.Mem.tail _ (List.Mem.head _)) ?_
        refine z_callVv (pc := 53) (i := mX3_advance) (S := []) [] dX3_readFact_53 ml_X3_95 ok_X3_advance rfl sh_28 rfl rfl (Nat.le_of_ble_eq_true rfl) (c_X3_advance (d := d + 1) (T := T) (n := n) (b := (tkE T n p)) (hn := hn) (hb := ((tk_bd T hS.1).2.2.1)) (ok := ok) (y4 := (hS.2.1)) (h5 := (hS.2.2.1)) (h6 := (hS.2.2.2.2.2.1)) (htp := hS.2.2.2.1) (g2 := (hS.2.2.2.2.2.2.2.2.1)) (g3 := (hS.2.2.2.2.2.2.2.2.2))) ?_
        intro Ha ok75 hp76
        have hadv := hp76
        refine x_aload_n (pc := 56) dX3_readFact_56 (List.Mem.tail _ (List.Mem.head _)) ?_
        refine x_iload_n (pc := 57) dX3_readFact_57 (List.Mem.tail _ (List.Mem.tail _ (List.Mem.head _))) ?_
        refine z_iconst (pc := 58) dX3_readFact_58 ?_
        refine z_iadd (pc := 59) dX3_readFact_59 ?_
        refine z_callVi (pc := 60) (i := mX3_readTest) (S := []) [.int (zN (((dd : Int) + 1)))] dX3_readFact_60 ml_X3_73 ok_X3_readTest rfl sh_28 rfl (Or.inr rfl) (Nat.le_of_ble_eq_true rfl) ((ihT (show dd < 8 by omega)) (p := (tkE T n p)) (c := c) (f := f2) (q := q) (hcp := (by omega)) (hf := (by omega)) (ok := ok75) (hS := hadv.1) (ro := (RepOp_K (FcK_C hadv.2) ro))) ?_
        intro r77 H2 r77a r77b ok78 hp79
        obtain ⟨hR1, hR2, hR3⟩ := hp79
        obtain ⟨o, ho⟩ : ∃ o, o = pX T n f2 3 (dd + 1) (tkE T n p) (c, q) := ⟨_, rfl⟩
        rw [← ho] at hR1 hR2
        have hRF := FrQ_tr (FrQ_C hadv.2) hR3
        have hln : o.1.1 = 0 → tkE T n p + 2 ≤ o.1.2 ∧ o.1.2 ≤ n ∧ 2 * o.2.1 + tkE T n p ≤ o.1.2 + 2 * c ∧ c ≤ o.2.1 := fun z => by have y := pX_l (T := T) (n := n) (f := f2) (m := 3) (dd := dd + 1) (p := tkE T n p) (s := (c, q)) tb.2.2.1 (by omega) (by rw [← ho]; exact z); rw [← ho] at y; exact y
        refine z_if_eq (pc := 63) (tgt := 79) dX3_readFact_63 (by decide) (by omega) (by omega) (fun hb80 => ?_) (fun hb80 => ?_)
        · skip
          have hz := ClO_f hR1 hb80
          have hfin : RcP H H2 T n 0 (pX T n (f2 + 1) 0 dd p (c, q)) := by
            rw [pX_0o (T := T) (n := n) (f := f2) (p := p) (dd := dd) (s := (c, q)) h32 (by omega), ← ho, pn_nz hz.1]
            exact ⟨ClO_0 hz, fun z => absurd z hz.1, hRF⟩
          refine z_iconst (pc := 79) dX3_readFact_79 ?_
          refine z_ireturn (pc := 80) dX3_readFact_80 rfl (Or.inr ⟨rfl, by omega⟩) ok78 (by decide) (by decide) ?_
          rw [hfe]
          exact hfin
        · skip
          have hz := ClO_t hR1 hb80
          refine x_aload_n (pc := 66) dX3_readFact_66 (List.Mem.tail _ (List.Mem.head _)) ?_
          refine z_bipush (pc := 67) dX3_readFact_67 bp_41 ?_
          refine z_callVi (pc := 69) (i := mX3_takeSign) (S := []) [.int (zN (41))] dX3_readFact_69 ml_X3_47 ok_X3_takeSign rfl sh_28 rfl (Or.inr rfl) (Nat.le_of_ble_eq_true rfl) (c_X3_takeSign (d := d) (k := 33) (s := 41) (hn := hn) (hks := (by omega)) (ok := ok78) (hS := hz.2)) ?_
          intro r81 H3 r81a r81b ok82 hp83
          obtain ⟨hc3, hk3⟩ := hp83
          have ec3 : pn T n 33 o.1 = _ := pn_of hz.1
          have hro := hR2 hz.1
          refine z_if_eq (pc := 72) (tgt := 79) dX3_readFact_72 (by decide) (by omega) (by omega) (fun hb84 => ?_) (fun hb84 => ?_)
          · skip
            have hz3 := ClO_f hc3 hb84
            have hfin : RcP H H3 T n 0 (pX T n (f2 + 1) 0 dd p (c, q)) := by
              rw [pX_0o (T := T) (n := n) (f := f2) (p := p) (dd := dd) (s := (c, q)) h32 (by omega), ← ho, ec3]
              exact ⟨ClO_0 hz3, fun z => absurd z hz3.1, FrQ_tr hRF (FrQ_K hk3)⟩
            refine z_iconst (pc := 79) dX3_readFact_79 ?_
            refine z_ireturn (pc := 80) dX3_readFact_80 rfl (Or.inr ⟨rfl, by omega⟩) ok82 (by decide) (by decide) ?_
            rw [hfe]
            exact hfin
          · skip
            have hz3 := ClO_t hc3 hb84
            have hfin : RcP H H3 T n 1 (pX T n (f2 + 1) 0 dd p (c, q)) := by
              rw [pX_0o (T := T) (n := n) (f := f2) (p := p) (dd := dd) (s := (c, q)) h32 (by omega), ← ho, ec3]
              exact ⟨⟨fun _ => ⟨rfl, hz3.2⟩, fun z => absurd hz3.1 z⟩, fun _ => RepOp_K hk3 hro, FrQ_tr hRF (FrQ_K hk3)⟩
            refine z_iconst (pc := 75) dX3_readFact_75 ?_
            refine x_goto (pc := 76) (tgt := 80) dX3_readFact_76 (by decide) ?_
            refine z_ireturn (pc := 80) dX3_readFact_80 rfl (Or.inr ⟨rfl, by omega⟩) ok82 (by decide) (by decide) ?_
            rw [hfe]
            exact hfin
      · skip
        have e8 : dd = 8 := by omega
        subst e8
        refine x_aload_n (pc := 42) dX3_readFact_42 (List.Mem.tail _ (List.Mem.head _)) ?_
        refine z_iconst (pc := 43) dX3_readFact_43 ?_
        refine z_callVi (pc := 44) (i := mX3_wrong) (S := []) [.int (zN (5))] dX3_readFact_44 ml_X3_60 ok_X3_wrong rfl sh_28 rfl (Or.inr rfl) (Nat.le_of_ble_eq_true rfl) (c_X3_wrong (d := d + 2) (k := 5) (k1 := (by omega)) (k2 := (by omega)) (ok := ok)) ?_
        intro r85 H88 r85a r85b ok86 hp87
        have hw := wr_ClO (by omega) hS (by omega) hp87
        have e1 : pfW T n 5 0 p = 5 := (if_pos rfl).trans (if_neg (by omega))
        have e2 : pfP T n 0 p = tkA T n p := if_pos rfl
        rw [e1, e2] at hw
        refine z_ireturn (pc := 47) dX3_readFact_47 rfl (Or.inr ⟨rfl, by omega⟩) ok86 (by omega) (by omega) ?_
        rw [hfe, pX_0d (T := T) (n := n) (f := f2) (p := p) (s := (c, q)) (by omega)]
        exact ⟨hw.1, fun z => absurd z (show (5 : Int) ≠ 0 by decide), FrQ_K hw.2⟩

theorem c_X3_readTest_s {d : Nat} {H : ZH} (ok : okZ H) {T q : Nat → Int} {n p c dd f : Nat} (hn : n ≤ 400) (hcp : 2 * c ≤ p) (hdd : dd ≤ 8) (hf : 3 * (n - p) + 3 ≤ f) (hS : ClS H T n p) (ro : RepOp H c q) (ihF : ∀ {H : ZH} (ok : okZ H) {p c f : Nat} {q : Nat → Int} (hcp : 2 * c ≤ p) (hf : 3 * (n - p) + 1 ≤ f) (hS : ClS H T n p) (ro : RepOp H c q), EvC zX (d + 4) mX3_readFact [.ref 28, .int (zN ((dd : Int)))] (eh H) (zPi (fun (r : Int) (H1 : ZH) => RcP H H1 T n r (pX T n f 0 (dd) p (c, q))))) : EvC zX (d + 5) mX3_readTest [.ref 28, .int (zN ((dd : Int)))] (eh H) (zPi (fun (r : Int) (H1 : ZH) => RcP H H1 T n r (pX T n f 3 dd p (c, q)))) := by
  show _ ∧ Ev zX mX3_readTest (EvC zX (d + 4)) (zPi (fun (r : Int) (H1 : ZH) => RcP H H1 T n r (pX T n f 3 dd p (c, q)))) 0 [(0, .ref 28), (1, .int (zN ((dd : Int))))] [] (eh H)
  refine ⟨Nat.le_of_ble_eq_true rfl, ?_⟩
  obtain ⟨f0, hfe⟩ : ∃ f0, f = f0 + 1 := ⟨f - 1, by omega⟩
  refine z_iconst (pc := 0) dX3_readTest_0 ?_
  refine x_istore_n (pc := 1) dX3_readTest_1 (Nat.le_of_ble_eq_true rfl) ?_
  show Ev _ _ _ _ _ [(2, .int (zN (0))), (0, .ref 28), (1, .int (zN ((dd : Int))))] _ _
  refine z_iconst (pc := 2) dX3_readTest_2 ?_
  refine x_istore_n (pc := 3) dX3_readTest_3 (Nat.le_of_ble_eq_true rfl) ?_
  show Ev _ _ _ _ _ [(3, .int (zN (0))), (2, .int (zN (0))), (0, .ref 28), (1, .int (zN ((dd : Int))))] _ _
  refine z_iconst (pc := 4) dX3_readTest_4 ?_
  refine x_istore (pc := 5) dX3_readTest_5 (Nat.le_of_ble_eq_true rfl) ?_
  show Ev _ _ _ _ _ [(4, .int (zN (0))), (3, .int (zN (0))), (2, .int (zN (0))), (0, .ref 28), (1, .int (zN ((dd : Int))))] _ _
  have lp7 : ∀ (nF : Nat) (i : Nat) (bo : Int) (ba : Int) (p1 : Nat) (c1 : Nat) (q1 : Nat → Int) (f1 : Nat) (g1 : Nat) (Hl : ZH), okZ Hl → (bo = 0 ∨ bo = 1) → (ba = 0 ∨ ba = 1) → (ClS Hl T n p1) → (RepOp Hl c1 q1) → (2 * ((c1 : Int) + bo + ba) ≤ p1) → (i ≤ p1) → (3 * (n - p1) + 2 ≤ f1) → (3 * (n - p1) ≤ g1) → (pX T n (f0 + 1) 3 dd p (c, q) = cnt T n 19 (cb bo) (pX T n f1 (mo ba) dd p1 (c1, q1)) (pX T n g1 4 dd)) → (FrQ H Hl) → n - p1 < nF → Ev zX mX3_readTest (EvC zX (d + 4)) (zPi (fun (r : Int) (H1 : ZH) => RcP H H1 T n r (pX T n f 3 dd p (c, q)))) 7 [(0, .ref 28), (1, .int (zN ((dd : Int)))), (2, .int (zN (bo))), (3, .int (zN (ba))), (4, .int (zN ((i : Int))))] [] (eh Hl) := by
    intro nF
    induction nF with
    | zero => intro i bo ba p1 c1 q1 f1 g1 Hl okl7 hbo hba hS1 ro1 hcp1 hi1 hf1 hg1 het hfq hm; exact absurd hm (Nat.not_lt_zero _)
    | succ nF ih7 =>
      intro i bo ba p1 c1 q1 f1 g1 Hl okl7 hbo hba hS1 ro1 hcp1 hi1 hf1 hg1 het hfq hm
      have tb1 := tk_bd T hS1.1
      have h28_5 : Hl.1 28 5 = (n : Int) := hS1.2.2.1
      refine x_iload (pc := 7) dX3_readTest_7 (List.Mem.tail _ (List.Mem.tail _ (List.Mem.tail _ (List.Mem.tail _ (List.Mem.head _))))) ?_
      refine x_aload_n (pc := 9) dX3_readTest_9 (List.Mem.head _) ?_
      refine z_getI (pc := 10) (k := 5) (v := (n : Int)) dX3_readTest_10 lf_X3_86 sh_28 rfl h28_5 ?_
      refine z_icmp_gt (pc := 13) (tgt := 90) dX3_readTest_13 (by decide) (by omega) (by omega) (by omega) (by omega) (fun hb1 => ?_) (fun hb1 => ?_)
      · skip
        exact absurd hb1 (by have := hS1.1; omega)
      · skip
        obtain ⟨f3, rfl⟩ : ∃ f3, f1 = f3 + 1 := ⟨f1 - 1, by omega⟩
        refine x_aload_n (pc := 16) dX3_readTest_16 (List.Mem.head _) ?_
        refine x_iload_n (pc := 17) dX3_readTest_17 (List.Mem.tail _ (List.Mem.head _)) ?_
        refine z_callVi (pc := 18) (i := mX3_readFact) (S := []) [.int (zN ((dd : Int)))] dX3_readTest_18 ml_X3_149 ok_X3_readFact rfl sh_28 rfl (Or.inr rfl) (Nat.le_of_ble_eq_true rfl) (ihF (p := p1) (c := c1) (f := f3) (q := q1) (hcp := (by omega)) (hf := (by omega)) (ok := okl7) (hS := hS1) (ro := ro1)) ?_
        intro r2 H2 r2a r2b ok3 hp4
        obtain ⟨hR1, hR2, hR3⟩ := hp4
        obtain ⟨o, ho⟩ : ∃ o, o = pX T n f3 0 dd p1 (c1, q1) := ⟨_, rfl⟩
        rw [← ho] at hR1 hR2
        have hRF := FrQ_tr hfq hR3
        have het2 : pX T n (f0 + 1) 3 dd p (c, q) = cnt T n 19 (cb bo) (cnt T n 20 (cb ba) o (pX T n f3 2 dd)) (pX T n g1 4 dd) := by rw [het, pX_m hba, ← ho]
        have hln : o.1.1 = 0 → p1 + 2 ≤ o.1.2 ∧ o.1.2 ≤ n ∧ 2 * o.2.1 + p1 ≤ o.1.2 + 2 * c1 ∧ c1 ≤ o.2.1 := fun z => by have y := pX_l (T := T) (n := n) (f := f3) (m := 0) (dd := dd) (p := p1) (s := (c1, q1)) hS1.1 (by omega) (by rw [← ho]; exact z); rw [← ho] at y; exact y
        refine z_if_ne (pc := 21) (tgt := 26) dX3_readTest_21 (by decide) (by omega) (by omega) (fun hb5 => ?_) (fun hb5 => ?_)
        · skip
          have hz := ClO_t hR1 hb5
          have hro := hR2 hz.1
          have hl := hln hz.1
          have tbo := tk_bd T hl.2.1
          have jn41 : ∀ (c2 : Nat) (q2 : Nat → Int) (Hm : ZH), okZ Hm → (ClS Hm T n o.1.2) → (RepOp Hm c2 q2) → ((c2, q2) = cbs ba 20 o.2) → (2 * ((c2 : Int) + bo) ≤ o.1.2) → (FrQ H Hm) → Ev zX mX3_readTest (EvC zX (d + 4)) (zPi (fun (r : Int) (H1 : ZH) => RcP H H1 T n r (pX T n f 3 dd p (c, q)))) 41 [(0, .ref 28), (1, .int (zN ((dd : Int)))), (2, .int (zN (bo))), (3, .int (zN (ba))), (4, .int (zN ((i : Int))))] [] (eh Hm) := by
            intro c2 q2 Hm okj41 hSm rom hs2 hcm hfm
            refine x_aload_n (pc := 41) dX3_readTest_41 (List.Mem.head _) ?_
            refine z_bipush (pc := 42) dX3_readTest_42 bp_17 ?_
            refine z_callVbp (pc := 44) (i := mX3_isWord) (S := []) [.int (zN (17))] dX3_readTest_44 ml_X3_55 ok_X3_isWord rfl sh_28 rfl (Or.inr rfl) (Nat.le_of_ble_eq_true rfl) (c_X3_isWord (d := d + 3) (w := 17) (w1 := (by omega)) (w2 := (by omega)) (ok := okj41)) (fun hc8 ok7 => ?_) (fun hc8 ok7 => ?_)
            · skip
              have hk2 : tkK T n o.1.2 = 20 := (isw_k (k := 20) hSm (by omega)).1 (by rw [show cwd 20 = 17 by decide]; exact hc8)
              have tw := tk_w T hl.2.1 (by omega)
              have htot : pX T n (f0 + 1) 3 dd p (c, q) = cnt T n 19 (cb bo) (pX T n f3 2 dd (tkE T n o.1.2) (c2, q2)) (pX T n g1 4 dd) := by rw [het2, cnt_go hz.1 hk2, hs2]; rfl
              refine x_istore_n (pc := 47) dX3_readTest_47 (Nat.le_of_ble_eq_true rfl) ?_
              show Ev _ _ _ _ _ [(3, .int (zN (1))), (0, .ref 28), (1, .int (zN ((dd : Int)))), (2, .int (zN (bo))), (4, .int (zN ((i : Int))))] _ _
              refine x_iload_n (pc := 48) dX3_readTest_48 (List.Mem.head _) ?_
              refine z_if_ne (pc := 49) (tgt := 80) dX3_readTest_49 (by decide) (by decide) (by decide) (fun _ => ?_) (fun h => absurd h (by decide))
              have hS8 : ClS Hm T n o.1.2 := by first | exact hSn | exact hSm
              refine x_aload_n (pc := 80) dX3_readTest_80 (List.Mem.tail _ (List.Mem.head _)) ?_
              refine z_callVv (pc := 81) (i := mX3_advance) (S := []) [] dX3_readTest_81 ml_X3_95 ok_X3_advance rfl sh_28 rfl rfl (Nat.le_of_ble_eq_true rfl) (c_X3_advance (d := d + 2) (T := T) (n := n) (b := (tkE T n o.1.2)) (hn := hn) (hb := ((tk_bd T hS8.1).2.2.1)) (ok := ok7) (y4 := (hS8.2.1)) (h5 := (hS8.2.2.1)) (h6 := (hS8.2.2.2.2.2.1)) (htp := hS8.2.2.2.1) (g2 := (hS8.2.2.2.2.2.2.2.2.1)) (g3 := (hS8.2.2.2.2.2.2.2.2.2))) ?_
              intro Ha ok11 hp12
              have hadv := hp12
              refine z_iinc (pc := 84) dX3_readTest_84 (List.Mem.tail _ (List.Mem.tail _ (List.Mem.tail _ (List.Mem.tail _ (List.Mem.head _))))) (Nat.le_of_ble_eq_true rfl) ?_
              show Ev _ _ _ _ _ [(4, .int (zN ((i : Int) + 1))), (3, .int (zN (1))), (0, .ref 28), (1, .int (zN ((dd : Int)))), (2, .int (zN (bo)))] _ _
              refine x_goto (pc := 87) (tgt := 7) dX3_readTest_87 (by decide) ?_
              refine x_weaken (L1 := [(0, .ref 28), (1, .int (zN ((dd : Int)))), (2, .int (zN (bo))), (3, .int (zN (1))), (4, .int (zN ((((i + 1) : Nat) : Int))))]) (List.forall_mem_cons.mpr ⟨(List.Mem.tail _ (List.Mem.tail _ (List.Mem.head _))), (List.forall_mem_cons.mpr ⟨(List.Mem.tail _ (List.Mem.tail _ (List.Mem.tail _ (List.Mem.head _)))), (List.forall_mem_cons.mpr ⟨(List.Mem.tail _ (List.Mem.tail _ (List.Mem.tail _ (List.Mem.tail _ (List.Mem.head _))))), (List.forall_mem_cons.mpr ⟨(List.Mem.tail _ (List.Mem.head _)), (List.forall_mem_cons.mpr ⟨(mem_ci (by omega) (List.Mem.head _)), (fun _ h => absurd h List.not_mem_nil)⟩)⟩)⟩)⟩)⟩) ?_
              exact ih7 ((i + 1)) (bo) (1) ((tkE T n o.1.2)) (c2) (q2) (f3) (g1) Ha ok11 (by omega) (by omega) (hadv.1) (by first | exact RepOp_K (FcK_C hadv.2) rom | exact RepOp_K (FcK_C hadv.2) ron) (by omega) (by omega) (by omega) (by omega) (by first | (rw [cb_1, mo_0, htot]; exact pX_4) | (rw [mo_1, htot]; done)) (by first | exact FrQ_tr hfm (FrQ_C hadv.2) | exact FrQ_tr hfn (FrQ_C hadv.2)) (by omega)
            · skip
              have hk2 : tkK T n o.1.2 ≠ 20 := fun z => hc8 (by have y := (isw_k (k := 20) hSm (by omega)).2 z; rw [show cwd 20 = 17 by decide] at y; exact y)
              have het3 : pX T n (f0 + 1) 3 dd p (c, q) = cnt T n 19 (cb bo) (o.1, (c2, q2)) (pX T n g1 4 dd) := by rw [het2, cnt_end hz.1 hk2, hs2]; rfl
              refine x_istore_n (pc := 47) dX3_readTest_47 (Nat.le_of_ble_eq_true rfl) ?_
              show Ev _ _ _ _ _ [(3, .int (zN (0))), (0, .ref 28), (1, .int (zN ((dd : Int)))), (2, .int (zN (bo))), (4, .int (zN ((i : Int))))] _ _
              refine x_iload_n (pc := 48) dX3_readTest_48 (List.Mem.head _) ?_
              refine z_if_ne (pc := 49) (tgt := 80) dX3_readTest_49 (by decide) (by decide) (by decide) (fun h => absurd h (by decide)) (fun _ => ?_)
              have jn67 : ∀ (c3 : Nat) (q3 : Nat → Int) (Hk : ZH), okZ Hk → (ClS Hk T n o.1.2) → (RepOp Hk c3 q3) → ((c3, q3) = cbs bo 19 (c2, q2)) → (2 * (c3 : Int) ≤ o.1.2) → (FrQ H Hk) → Ev zX mX3_readTest (EvC zX (d + 4)) (zPi (fun (r : Int) (H1 : ZH) => RcP H H1 T n r (pX T n f 3 dd p (c, q)))) 67 [(0, .ref 28), (1, .int (zN ((dd : Int)))), (2, .int (zN (bo))), (3, .int (zN (0))), (4, .int (zN ((i : Int))))] [] (eh Hk) := by
                intro c3 q3 Hk okj67 hSn ron hs3 hcn hfn
                refine x_aload_n (pc := 67) dX3_readTest_67 (List.Mem.head _) ?_
                refine z_bipush (pc := 68) dX3_readTest_68 bp_18 ?_
                refine z_callVbp (pc := 70) (i := mX3_isWord) (S := []) [.int (zN (18))] dX3_readTest_70 ml_X3_55 ok_X3_isWord rfl sh_28 rfl (Or.inr rfl) (Nat.le_of_ble_eq_true rfl) (c_X3_isWord (d := d + 3) (w := 18) (w1 := (by omega)) (w2 := (by omega)) (ok := okj67)) (fun hc16 ok15 => ?_) (fun hc16 ok15 => ?_)
                · skip
                  have hk3 : tkK T n o.1.2 = 19 := (isw_k (k := 19) hSn (by omega)).1 (by rw [show cwd 19 = 18 by decide]; exact hc16)
                  have tw := tk_w T hl.2.1 (by omega)
                  obtain ⟨f4, rfl⟩ : ∃ f4, g1 = f4 + 1 := ⟨g1 - 1, by omega⟩
                  have htot : pX T n (f0 + 1) 3 dd p (c, q) = pX T n (f4 + 1) 4 dd (tkE T n o.1.2) (c3, q3) := by rw [het3, cnt_go (o := (o.1, (c2, q2))) hz.1 hk3, hs3]; rfl
                  refine x_istore_n (pc := 73) dX3_readTest_73 (Nat.le_of_ble_eq_true rfl) ?_
                  show Ev _ _ _ _ _ [(2, .int (zN (1))), (0, .ref 28), (1, .int (zN ((dd : Int)))), (3, .int (zN (0))), (4, .int (zN ((i : Int))))] _ _
                  refine x_iload_n (pc := 74) dX3_readTest_74 (List.Mem.head _) ?_
                  refine z_if_ne (pc := 75) (tgt := 80) dX3_readTest_75 (by decide) (by decide) (by decide) (fun _ => ?_) (fun h => absurd h (by decide))
                  have hS8 : ClS Hk T n o.1.2 := by first | exact hSn | exact hSm
                  refine x_aload_n (pc := 80) dX3_readTest_80 (List.Mem.tail _ (List.Mem.head _)) ?_
                  refine z_callVv (pc := 81) (i := mX3_advance) (S := []) [] dX3_readTest_81 ml_X3_95 ok_X3_advance rfl sh_28 rfl rfl (Nat.le_of_ble_eq_true rfl) (c_X3_advance (d := d + 2) (T := T) (n := n) (b := (tkE T n o.1.2)) (hn := hn) (hb := ((tk_bd T hS8.1).2.2.1)) (ok := ok15) (y4 := (hS8.2.1)) (h5 := (hS8.2.2.1)) (h6 := (hS8.2.2.2.2.2.1)) (htp := hS8.2.2.2.1) (g2 := (hS8.2.2.2.2.2.2.2.2.1)) (g3 := (hS8.2.2.2.2.2.2.2.2.2))) ?_
                  intro Ha ok19 hp20
                  have hadv := hp20
                  refine z_iinc (pc := 84) dX3_readTest_84 (List.Mem.tail _ (List.Mem.tail _ (List.Mem.tail _ (List.Mem.tail _ (List.Mem.head _))))) (Nat.le_of_ble_eq_true rfl) ?_
                  show Ev _ _ _ _ _ [(4, .int (zN ((i : Int) + 1))), (2, .int (zN (1))), (0, .ref 28), (1, .int (zN ((dd : Int)))), (3, .int (zN (0)))] _ _
                  refine x_goto (pc := 87) (tgt := 7) dX3_readTest_87 (by decide) ?_
                  refine x_weaken (L1 := [(0, .ref 28), (1, .int (zN ((dd : Int)))), (2, .int (zN (1))), (3, .int (zN (0))), (4, .int (zN ((((i + 1) : Nat) : Int))))]) (List.forall_mem_cons.mpr ⟨(List.Mem.tail _ (List.Mem.tail _ (List.Mem.head _))), (List.forall_mem_cons.mpr ⟨(List.Mem.tail _ (List.Mem.tail _ (List.Mem.tail _ (List.Mem.head _)))), (List.forall_mem_cons.mpr ⟨(List.Mem.tail _ (List.Mem.head _)), (List.forall_mem_cons.mpr ⟨(List.Mem.tail _ (List.Mem.tail _ (List.Mem.tail _ (List.Mem.tail _ (List.Mem.head _))))), (List.forall_mem_cons.mpr ⟨(mem_ci (by omega) (List.Mem.head _)), (fun _ h => absurd h List.not_mem_nil)⟩)⟩)⟩)⟩)⟩) ?_
                  exact ih7 ((i + 1)) (1) (0) ((tkE T n o.1.2)) (c3) (q3) (f4) (f4) Ha ok19 (by omega) (by omega) (hadv.1) (by first | exact RepOp_K (FcK_C hadv.2) rom | exact RepOp_K (FcK_C hadv.2) ron) (by omega) (by omega) (by omega) (by omega) (by first | (rw [cb_1, mo_0, htot]; exact pX_4) | (rw [mo_1, htot]; done)) (by first | exact FrQ_tr hfm (FrQ_C hadv.2) | exact FrQ_tr hfn (FrQ_C hadv.2)) (by omega)
                · skip
                  have hk3 : tkK T n o.1.2 ≠ 19 := fun z => hc16 (by have y := (isw_k (k := 19) hSn (by omega)).2 z; rw [show cwd 19 = 18 by decide] at y; exact y)
                  have het4 : pX T n (f0 + 1) 3 dd p (c, q) = (o.1, (c3, q3)) := by rw [het3, cnt_end (o := (o.1, (c2, q2))) hz.1 hk3, hs3]; rfl
                  have hfin : RcP H Hk T n 1 (pX T n (f0 + 1) 3 dd p (c, q)) := by
                    rw [het4]
                    exact ⟨⟨fun _ => ⟨rfl, hSn⟩, fun z => absurd hz.1 z⟩, fun _ => ron, hfn⟩
                  refine x_istore_n (pc := 73) dX3_readTest_73 (Nat.le_of_ble_eq_true rfl) ?_
                  show Ev _ _ _ _ _ [(2, .int (zN (0))), (0, .ref 28), (1, .int (zN ((dd : Int)))), (3, .int (zN (0))), (4, .int (zN ((i : Int))))] _ _
                  refine x_iload_n (pc := 74) dX3_readTest_74 (List.Mem.head _) ?_
                  refine z_if_ne (pc := 75) (tgt := 80) dX3_readTest_75 (by decide) (by decide) (by decide) (fun h => absurd h (by decide)) (fun _ => ?_)
                  refine z_iconst (pc := 78) dX3_readTest_78 ?_
                  refine z_ireturn (pc := 79) dX3_readTest_79 rfl (Or.inr ⟨rfl, by omega⟩) ok15 (by decide) (by decide) ?_
                  rw [hfe]
                  exact hfin
              refine x_iload_n (pc := 52) dX3_readTest_52 (List.Mem.tail _ (List.Mem.tail _ (List.Mem.tail _ (List.Mem.head _)))) ?_
              refine z_if_eq (pc := 53) (tgt := 67) dX3_readTest_53 (by decide) (by omega) (by omega) (fun hb22 => ?_) (fun hb22 => ?_)
              · skip
                refine x_weaken (L1 := [(0, .ref 28), (1, .int (zN ((dd : Int)))), (2, .int (zN (bo))), (3, .int (zN (0))), (4, .int (zN ((i : Int))))]) (List.forall_mem_cons.mpr ⟨(List.Mem.tail _ (List.Mem.head _)), (List.forall_mem_cons.mpr ⟨(List.Mem.tail _ (List.Mem.tail _ (List.Mem.head _))), (List.forall_mem_cons.mpr ⟨(List.Mem.tail _ (List.Mem.tail _ (List.Mem.tail _ (List.Mem.head _)))), (List.forall_mem_cons.mpr ⟨(List.Mem.head _), (List.forall_mem_cons.mpr ⟨(List.Mem.tail _ (List.Mem.tail _ (List.Mem.tail _ (List.Mem.tail _ (List.Mem.head _))))), (fun _ h => absurd h List.not_mem_nil)⟩)⟩)⟩)⟩)⟩) ?_
                exact jn67 (c2) (q2) Hm ok7 (by first | exact he4.1 | exact hSm) (by first | exact he4.2.1 | exact rom) (by first | (rw [show bo = 1 by omega]; exact (cbs_1 (op := 19) (s := (c2, q2))).symm) | (rw [show bo = 0 by omega]; exact (cbs_0 (op := 19) (s := (c2, q2))).symm)) (by omega) (by first | exact FrQ_tr hfm he4.2.2 | exact hfm)
              · skip
                refine x_aload_n (pc := 56) dX3_readTest_56 (List.Mem.tail _ (List.Mem.head _)) ?_
                refine z_getR (pc := 57) (k := 1) (r := 55) dX3_readTest_57 lf_X3_21 sh_28 rfl rf_28_1 ?_
                refine z_bipush (pc := 60) dX3_readTest_60 bp_18 ?_
                refine z_iconst (pc := 62) dX3_readTest_62 ?_
                refine z_callVi (pc := 63) (i := mX1_addStep) (S := []) [.int (zN (18)), .int (zN (0))] dX3_readTest_63 ml_X3_152 ok_X1_addStep rfl sh_55 rfl (Or.inr rfl) (Nat.le_of_ble_eq_true rfl) (c_X1_addStep (d := d + 3) (w := 18) (v := 0) (hw := (by omega)) (hv := (by omega)) (ok := ok7) (hz := (by rw [rom.1]; omega))) ?_
                intro r23 H4 r23a r23b ok24 hp25
                have he4 := ec_post (k := 19) hSm rom (by decide) hp25.2
                refine x_pop (pc := 66) dX3_readTest_66 rfl ?_
                refine x_weaken (L1 := [(0, .ref 28), (1, .int (zN ((dd : Int)))), (2, .int (zN (bo))), (3, .int (zN (0))), (4, .int (zN ((i : Int))))]) (List.forall_mem_cons.mpr ⟨(List.Mem.tail _ (List.Mem.head _)), (List.forall_mem_cons.mpr ⟨(List.Mem.tail _ (List.Mem.tail _ (List.Mem.head _))), (List.forall_mem_cons.mpr ⟨(List.Mem.tail _ (List.Mem.tail _ (List.Mem.tail _ (List.Mem.head _)))), (List.forall_mem_cons.mpr ⟨(List.Mem.head _), (List.forall_mem_cons.mpr ⟨(List.Mem.tail _ (List.Mem.tail _ (List.Mem.tail _ (List.Mem.tail _ (List.Mem.head _))))), (fun _ h => absurd h List.not_mem_nil)⟩)⟩)⟩)⟩)⟩) ?_
                exact jn67 ((c2 + 1)) ((em 19 0 (c2, q2)).2) H4 ok24 (by first | exact he4.1 | exact hSm) (by first | exact he4.2.1 | exact rom) (by first | (rw [show bo = 1 by omega]; exact (cbs_1 (op := 19) (s := (c2, q2))).symm) | (rw [show bo = 0 by omega]; exact (cbs_0 (op := 19) (s := (c2, q2))).symm)) (by omega) (by first | exact FrQ_tr hfm he4.2.2 | exact hfm)
          refine x_iload_n (pc := 26) dX3_readTest_26 (List.Mem.tail _ (List.Mem.tail _ (List.Mem.tail _ (List.Mem.head _)))) ?_
          refine z_if_eq (pc := 27) (tgt := 41) dX3_readTest_27 (by decide) (by omega) (by omega) (fun hb26 => ?_) (fun hb26 => ?_)
          · skip
            refine x_weaken (L1 := [(0, .ref 28), (1, .int (zN ((dd : Int)))), (2, .int (zN (bo))), (3, .int (zN (ba))), (4, .int (zN ((i : Int))))]) (List.forall_mem_cons.mpr ⟨(List.Mem.head _), (List.forall_mem_cons.mpr ⟨(List.Mem.tail _ (List.Mem.head _)), (List.forall_mem_cons.mpr ⟨(List.Mem.tail _ (List.Mem.tail _ (List.Mem.head _))), (List.forall_mem_cons.mpr ⟨(List.Mem.tail _ (List.Mem.tail _ (List.Mem.tail _ (List.Mem.head _)))), (List.forall_mem_cons.mpr ⟨(List.Mem.tail _ (List.Mem.tail _ (List.Mem.tail _ (List.Mem.tail _ (List.Mem.head _))))), (fun _ h => absurd h List.not_mem_nil)⟩)⟩)⟩)⟩)⟩) ?_
            exact jn41 (o.2.1) (o.2.2) H2 ok3 (by first | exact he.1 | exact hz.2) (by first | exact he.2.1 | exact hro) (by first | (rw [show ba = 1 by omega]; exact (cbs_1 (op := 20) (s := o.2)).symm) | (rw [show ba = 0 by omega]; exact (cbs_0 (op := 20) (s := o.2)).symm)) (by omega) (by first | exact FrQ_tr hRF he.2.2 | exact hRF)
          · skip
            refine x_aload_n (pc := 30) dX3_readTest_30 (List.Mem.head _) ?_
            refine z_getR (pc := 31) (k := 1) (r := 55) dX3_readTest_31 lf_X3_21 sh_28 rfl rf_28_1 ?_
            refine z_bipush (pc := 34) dX3_readTest_34 bp_17 ?_
            refine z_iconst (pc := 36) dX3_readTest_36 ?_
            refine z_callVi (pc := 37) (i := mX1_addStep) (S := []) [.int (zN (17)), .int (zN (0))] dX3_readTest_37 ml_X3_152 ok_X1_addStep rfl sh_55 rfl (Or.inr rfl) (Nat.le_of_ble_eq_true rfl) (c_X1_addStep (d := d + 3) (w := 17) (v := 0) (hw := (by omega)) (hv := (by omega)) (ok := ok3) (hz := (by rw [hro.1]; omega))) ?_
            intro r27 H3 r27a r27b ok28 hp29
            have he := ec_post (k := 20) hz.2 hro (by decide) hp29.2
            refine x_pop (pc := 40) dX3_readTest_40 rfl ?_
            refine x_weaken (L1 := [(0, .ref 28), (1, .int (zN ((dd : Int)))), (2, .int (zN (bo))), (3, .int (zN (ba))), (4, .int (zN ((i : Int))))]) (List.forall_mem_cons.mpr ⟨(List.Mem.head _), (List.forall_mem_cons.mpr ⟨(List.Mem.tail _ (List.Mem.head _)), (List.forall_mem_cons.mpr ⟨(List.Mem.tail _ (List.Mem.tail _ (List.Mem.head _))), (List.forall_mem_cons.mpr ⟨(List.Mem.tail _ (List.Mem.tail _ (List.Mem.tail _ (List.Mem.head _)))), (List.forall_mem_cons.mpr ⟨(List.Mem.tail _ (List.Mem.tail _ (List.Mem.tail _ (List.Mem.tail _ (List.Mem.head _))))), (fun _ h => absurd h List.not_mem_nil)⟩)⟩)⟩)⟩)⟩) ?_
            exact jn41 ((o.2.1 + 1)) ((em 20 0 o.2).2) H3 ok28 (by first | exact he.1 | exact hz.2) (by first | exact he.2.1 | exact hro) (by first | (rw [show ba = 1 by omega]; exact (cbs_1 (op := 20) (s := o.2)).symm) | (rw [show ba = 0 by omega]; exact (cbs_0 (op := 20) (s := o.2)).symm)) (by omega) (by first | exact FrQ_tr hRF he.2.2 | exact hRF)
        · skip
          have hz := ClO_f hR1 (by omega)
          have hfin : RcP H H2 T n 0 (pX T n (f0 + 1) 3 dd p (c, q)) := by
            rw [het2, cnt_bad (o := o) hz.1, cnt_bad hz.1]
            exact ⟨ClO_0 hz, fun z => absurd z hz.1, hRF⟩
          refine z_iconst (pc := 24) dX3_readTest_24 ?_
          refine z_ireturn (pc := 25) dX3_readTest_25 rfl (Or.inr ⟨rfl, by omega⟩) ok3 (by decide) (by decide) ?_
          rw [hfe]
          exact hfin
  refine x_weaken (L1 := [(0, .ref 28), (1, .int (zN ((dd : Int)))), (2, .int (zN (0))), (3, .int (zN (0))), (4, .int (zN (((0 : Nat) : Int))))]) (List.forall_mem_cons.mpr ⟨(List.Mem.tail _ (List.Mem.tail _ (List.Mem.tail _ (List.Mem.head _)))), (List.forall_mem_cons.mpr ⟨(List.Mem.tail _ (List.Mem.tail _ (List.Mem.tail _ (List.Mem.tail _ (List.Mem.head _))))), (List.forall_mem_cons.mpr ⟨(List.Mem.tail _ (List.Mem.tail _ (List.Mem.head _))), (List.forall_mem_cons.mpr ⟨(List.Mem.tail _ (List.Mem.head _)), (List.forall_mem_cons.mpr ⟨(mem_ci (by omega) (List.Mem.head _)), (fun _ h => absurd h List.not_mem_nil)⟩)⟩)⟩)⟩)⟩) ?_
  exact lp7 (n - p + 1) (0) (0) (0) (p) (c) (q) (f0) (f0) H ok (Or.inl rfl) (Or.inl rfl) (hS) (ro) (by omega) (by omega) (by omega) (by omega) (by rw [cb_0, mo_0]; exact pX_3) (FrQ_rf H) (Nat.lt_succ_self _)

theorem rc_all (r : Nat) : (∀ {d : Nat} {H : ZH} (ok : okZ H) {T q : Nat → Int} {n p c dd f : Nat} (hn : n ≤ 400) (hcp : 2 * c ≤ p) (hdd : dd + r = 8) (hf : 3 * (n - p) + 1 ≤ f) (hS : ClS H T n p) (ro : RepOp H c q), EvC zX (d + 2 * r + 4) mX3_readFact [.ref 28, .int (zN ((dd : Int)))] (eh H) (zPi (fun (r : Int) (H1 : ZH) => RcP H H1 T n r (pX T n f 0 dd p (c, q))))) ∧ (∀ {d : Nat} {H : ZH} (ok : okZ H) {T q : Nat → Int} {n p c dd f : Nat} (hn : n ≤ 400) (hcp : 2 * c ≤ p) (hdd : dd + r = 8) (hf : 3 * (n - p) + 3 ≤ f) (hS : ClS H T n p) (ro : RepOp H c q), EvC zX (d + 2 * r + 5) mX3_readTest [.ref 28, .int (zN ((dd : Int)))] (eh H) (zPi (fun (r : Int) (H1 : ZH) => RcP H H1 T n r (pX T n f 3 dd p (c, q))))) := by
  have up : ∀ r : Nat, (∀ {d : Nat} {H : ZH} (ok : okZ H) {T q : Nat → Int} {n p c dd f : Nat} (hn : n ≤ 400) (hcp : 2 * c ≤ p) (hdd : dd + r = 8) (hf : 3 * (n - p) + 1 ≤ f) (hS : ClS H T n p) (ro : RepOp H c q), EvC zX (d + 2 * r + 4) mX3_readFact [.ref 28, .int (zN ((dd : Int)))] (eh H) (zPi (fun (r : Int) (H1 : ZH) => RcP H H1 T n r (pX T n f 0 dd p (c, q))))) → (∀ {d : Nat} {H : ZH} (ok : okZ H) {T q : Nat → Int} {n p c dd f : Nat} (hn : n ≤ 400) (hcp : 2 * c ≤ p) (hdd : dd + r = 8) (hf : 3 * (n - p) + 3 ≤ f) (hS : ClS H T n p) (ro : RepOp H c q), EvC zX (d + 2 * r + 5) mX3_readTest [.ref 28, .int (zN ((dd : Int)))] (eh H) (zPi (fun (r : Int) (H1 : ZH) => RcP H H1 T n r (pX T n f 3 dd p (c, q))))) := by
    intro r hF d H ok T q n p c dd f hn hcp hdd hf hS ro
    exact c_X3_readTest_s (d := d + 2 * r) ok hn hcp (by omega) hf hS ro (fun {H} ok {p} {c} {f} {q} hcp hf hS ro => hF (d := d) ok hn hcp hdd hf hS ro)
  induction r with
  | zero =>
    have hF : ∀ {d : Nat} {H : ZH} (ok : okZ H) {T q : Nat → Int} {n p c dd f : Nat} (hn : n ≤ 400) (hcp : 2 * c ≤ p) (hdd : dd + 0 = 8) (hf : 3 * (n - p) + 1 ≤ f) (hS : ClS H T n p) (ro : RepOp H c q), EvC zX (d + 2 * 0 + 4) mX3_readFact [.ref 28, .int (zN ((dd : Int)))] (eh H) (zPi (fun (r : Int) (H1 : ZH) => RcP H H1 T n r (pX T n f 0 dd p (c, q)))) := by
      intro d H ok T q n p c dd f hn hcp hdd hf hS ro
      exact c_X3_readFact_s (d := d + 2 * 0) ok hn hcp (by omega) hf hS ro (fun h => absurd h (by omega)) (fun h => absurd h (by omega))
    exact ⟨hF, up 0 hF⟩
  | succ r ih =>
    have hF : ∀ {d : Nat} {H : ZH} (ok : okZ H) {T q : Nat → Int} {n p c dd f : Nat} (hn : n ≤ 400) (hcp : 2 * c ≤ p) (hdd : dd + (r + 1) = 8) (hf : 3 * (n - p) + 1 ≤ f) (hS : ClS H T n p) (ro : RepOp H c q), EvC zX (d + 2 * (r + 1) + 4) mX3_readFact [.ref 28, .int (zN ((dd : Int)))] (eh H) (zPi (fun (r : Int) (H1 : ZH) => RcP H H1 T n r (pX T n f 0 dd p (c, q)))) := by
      intro d H ok T q n p c dd f hn hcp hdd hf hS ro
      exact c_X3_readFact_s (d := d + 2 * (r + 1)) ok hn hcp (by omega) hf hS ro (fun h {H} ok {p} {c} {f} {q} hcp hf hS ro => by
        have z := ih.1 (d := d + 1) ok hn hcp (dd := dd + 1) (by omega) hf hS ro
        rw [show d + 2 * (r + 1) + 3 = d + 1 + 2 * r + 4 by omega, show (dd : Int) + 1 = ((dd + 1 : Nat) : Int) by omega]
        exact z) (fun h {H} ok {p} {c} {f} {q} hcp hf hS ro => by
        have z := ih.2 (d := d) ok hn hcp (dd := dd + 1) (by omega) hf hS ro
        rw [show d + 2 * (r + 1) + 3 = d + 2 * r + 5 by omega, show (dd : Int) + 1 = ((dd + 1 : Nat) : Int) by omega]
        exact z)
    exact ⟨hF, up (r + 1) hF⟩
theorem c_X3_readTest {d : Nat} {H : ZH} (ok : okZ H) {T q : Nat → Int} {n p c f : Nat} (hn : n ≤ 400) (hcp : 2 * c ≤ p) (hf : 3 * (n - p) + 3 ≤ f) (hS : ClS H T n p) (ro : RepOp H c q) : EvC zX (d + 21) mX3_readTest [.ref 28, .int (zN (0))] (eh H) (zPi (fun (r : Int) (H1 : ZH) => RcP H H1 T n r (pX T n f 3 0 p (c, q)))) := (rc_all 8).2 (d := d) ok hn hcp (dd := 0) (by omega) hf hS ro
