/-! GROUP G28: the class's tree is weighed. -/
theorem TrS_cg {H H1 : ZH} {t : Nat} {q : Nat → Int} {T R : ((Nat → Int) → Int → Int) → Int} (h : TrS H t q T R) (e2 : ∀ cc k, t ≤ cc → cc ≤ t + 2 → H1.2 cc k = H.2 cc k) (e1 : H1.1 t 6 = H.1 t 6) : TrS H1 t q T R := by
  obtain ⟨b1, b2, b3, b4, b5, b6⟩ := h
  refine ⟨fun k hk => by rw [e2 t (1 + k) (by omega) (by omega)]; exact b1 k hk, fun c hc => by rw [e2 (t + 1) c (by omega) (by omega)]; exact b2 c hc, fun c hc => by rw [e2 (t + 2) c (by omega) (by omega)]; exact b3 c hc, by rw [e1]; exact b4, fun v hv => b5 v (by rw [← e1]; exact hv), by rw [e2 t 0 (by omega) (by omega)]; exact b6⟩
theorem chs_leaf {H : ZH} {A M : Nat → Int} {wo : Int} {X : (Nat → Int) × Int × List Bool} (ws1 : 0 ≤ A 1 ∧ A 1 ≤ 8) (h : ChS H A wo M X) (h37 : M 37 ≠ 0) : X.1 = M ∧ X.2.1 = H.2 111 5 * 100 ^ ((A 1).toNat - (H.1 111 4).toNat) ∧ (0 ≤ X.2.1 ∧ X.2.1 ≤ 10000000000000000) ∧ (0 ≤ H.1 111 4 ∧ H.1 111 4 ≤ A 1) ∧ H.1 111 3 = ((X.2.2.length : Nat) : Int) ∧ EncF (H.1 112) 0 X.2.2 ∧ X.2.2.length ≤ 8 ∧ WFT A M := by
  obtain ⟨f, w, p, pre, a1, a2, a3, a4, a5, a6, a7, a8, a9, a10, a11, a12⟩ := h
  have hp := vlf_e h37 a4
  subst hp
  rw [lff_e h37] at a3
  subst a3
  rw [List.append_nil] at a8 ⊢
  have z : ([] : List Bool).length = 0 := rfl
  have p1 := p100_bd (n := pre.length) (by omega)
  have p2 := p100_bd (n := (A 1).toNat - pre.length) (by omega)
  have p3 := p100_bd (n := (A 1).toNat) (by omega)
  have e3 : (100 : Int) ^ pre.length * 100 ^ ((A 1).toNat - pre.length) = 100 ^ (A 1).toNat := by rw [← Int.pow_add]; congr 1; omega
  have m1 : H.2 111 5 * 100 ^ ((A 1).toNat - pre.length) ≤ 100 ^ pre.length * 100 ^ ((A 1).toNat - pre.length) := Int.mul_le_mul_of_nonneg_right a12 (by omega)
  have m0 : 0 ≤ H.2 111 5 * 100 ^ ((A 1).toNat - pre.length) := Int.mul_nonneg (by omega) (by omega)
  refine ⟨rfl, ?_, ⟨?_, ?_⟩, by omega, by rw [a7, z]; rfl, a8, (show pre.length ≤ 8 by omega), a1⟩
  · show w = _
    rw [a10, a6, Int.toNat_natCast]
  · show 0 ≤ w; omega
  · show w ≤ _; omega
theorem chs_0 {Hb : ZH} {A : Nat → Int} {wo : Int} {p : List Bool} (ws : WFS A) (hv : vlf A wo 5000 (bgn A Z0 (-1) 0) p) (h0 : Hb.1 111 0 = 0) (h4 : Hb.1 111 4 = 0) (h3 : Hb.1 111 3 = ((p.length : Nat) : Int)) (he : EncF (Hb.1 112) 0 p) (h5 : Hb.2 111 5 = 1) : ChS Hb A wo (bgn A Z0 (-1) 0) (lff A wo 5000 (bgn A Z0 (-1) 0) (100 ^ (A 1).toNat) p) := by
  have wt : WFT A (bgn A Z0 (-1) 0) := WFT_rn (bgn_rn ws) ws.2.1.1
  refine ⟨5000, 100 ^ (A 1).toNat, p, [], wt, rk_bgn ws, rfl, hv, h0, h4, by rw [h3]; show _ = ((0 + p.length : Nat) : Int); omega, he, by have := und_le A (bgn A Z0 (-1) 0); show 0 + _ ≤ _; omega, ?_, by rw [h5]; decide, by rw [h5]; show (1 : Int) ≤ 100 ^ 0; decide⟩
  rw [h5, Int.one_mul]
  rfl
/-- the tree at t is that of q -/
def TrD (H : ZH) (t : Nat) (q : Nat → Int) (wo : Int) : Prop := TrS H t q (TS q wo (-1)) (fun _ => 0)
/-- half way through the leaves -/
def WgI (H : ZH) (t : Nat) (q : Nat → Int) (wo m : Int) (L : Nat) (p : List Bool) : Prop := (m = 1 ∧ vlf q wo 5000 (bgn q Z0 (-1) 0) p ∧ H.1 111 3 = ((p.length : Nat) : Int) ∧ EncF (H.1 112) 0 p ∧ TrS H t q (TS q wo (-1)) (fun g => rmf q wo g 5000 (bgn q Z0 (-1) 0) (100 ^ (q 1).toNat) p) ∧ (L : Int) + rmf q wo g1 5000 (bgn q Z0 (-1) 0) (100 ^ (q 1).toNat) p = TS q wo (-1) g1) ∨ (m = 0 ∧ TrD H t q wo)
theorem gL_ok (A : Nat → Int) (v : Int) : ∀ M w, WFT A M → (0 : Int) ≤ w → 0 ≤ gL v M w := by
  intro M w _ _
  unfold gL
  split <;> decide
theorem wg_L {H : ZH} {t : Nat} {q : Nat → Int} {wo m : Int} {L : Nat} {p : List Bool} (ws : WFS q) (h : WgI H t q wo m L p) (hm : m ≠ 0) : L < 256 := by
  have wt : WFT q (bgn q Z0 (-1) 0) := WFT_rn (bgn_rn ws) ws.2.1.1
  have p3 := p100_bd (n := (q 1).toNat) (by have := ws.2.1; omega)
  rcases h with ⟨_, _, _, _, _, e⟩ | ⟨z, _⟩
  · have a := (tsf_cnt (wo := wo) ws.2.1 ws.1 5000 _ (100 ^ (q 1).toNat) wt).2
    have b := rmf_ge (wo := wo) (g := g1) (c := 1) ws.2.1 ws.1 (by decide) (fun _ _ _ _ => Int.le_refl _) (fun f N w h _ => (tsf_cnt ws.2.1 ws.1 f N w h).1) 5000 _ (100 ^ (q 1).toNat) p wt (by omega)
    have c : 2 ^ und q (bgn q Z0 (-1) 0) ≤ 2 ^ 8 := Nat.pow_le_pow_right (by decide) (by have := und_le q (bgn q Z0 (-1) 0); have := ws.2.1; omega)
    have d : TS q wo (-1) g1 = tsf q wo g1 5000 (bgn q Z0 (-1) 0) (100 ^ (q 1).toNat) := rfl
    omega
  · exact absurd z hm
/-- the sums so far are not too great -/
theorem wg_acc {H : ZH} {t : Nat} {q : Nat → Int} {wo : Int} {p : List Bool} (ws : WFS q) (h : TrS H t q (TS q wo (-1)) (fun g => rmf q wo g 5000 (bgn q Z0 (-1) 0) (100 ^ (q 1).toNat) p)) : (∀ k, k < 6 → 0 ≤ H.2 t k ∧ H.2 t k ≤ 4000000000000000000) ∧ ∀ c : Nat, (c : Int) < q 1 → (0 ≤ H.2 (t + 1) c ∧ H.2 (t + 1) c ≤ 4000000000000000000) ∧ 0 ≤ H.2 (t + 2) c ∧ H.2 (t + 2) c ≤ 4000000000000000000 := by
  have wt : WFT q (bgn q Z0 (-1) 0) := WFT_rn (bgn_rn ws) ws.2.1.1
  have p3 := p100_bd (n := (q 1).toNat) (by have := ws.2.1; omega)
  have key : ∀ g, Gok q g → 0 ≤ rmf q wo g 5000 (bgn q Z0 (-1) 0) (100 ^ (q 1).toNat) p := fun g hg => rmf_ge (wo := wo) (g := g) (c := 0) ws.2.1 ws.1 (Int.le_refl _) (fun M w a b => (hg M w a b).1) (fun f N w a b => (tsf_bd ws.2.1 ws.1 hg f N w a b).1) 5000 _ (100 ^ (q 1).toNat) p wt (by omega)
  obtain ⟨b1, b2, b3, b4, b5, b6⟩ := h
  refine ⟨fun k hk => ?_, fun c hc => ⟨?_, ?_⟩⟩
  · cases k with
    | zero => rw [b6]; omega
    | succ k =>
      have x := b1 k (by omega)
      have y := key (gK k) (gK_ok q k)
      have z := TS_bd (wo := wo) (wc := -1) ws (gK_ok q k)
      rw [show 1 + k = k + 1 by omega] at x
      have x2 : H.2 t (k + 1) + rmf q wo (gK k) 5000 (bgn q Z0 (-1) 0) (100 ^ (q 1).toNat) p = TS q wo (-1) (gK k) := x.2
      omega
  · have x := b2 c hc
    have y := key (gB c) (gB_ok q c)
    have z := TS_bd (wo := wo) (wc := -1) ws (gB_ok q c)
    have x2 : H.2 (t + 1) c + rmf q wo (gB c) 5000 (bgn q Z0 (-1) 0) (100 ^ (q 1).toNat) p = TS q wo (-1) (gB c) := x.2
    omega
  · have x := b3 c hc
    have y := key (gS c) (gS_ok q c)
    have z := TS_bd (wo := wo) (wc := -1) ws (gS_ok q c)
    have x2 : H.2 (t + 2) c + rmf q wo (gS c) 5000 (bgn q Z0 (-1) 0) (100 ^ (q 1).toNat) p = TS q wo (-1) (gS c) := x.2
    omega
/-- one leaf more -/
theorem wg_step {Ha H3 H4 : ZH} {t : Nat} {q M : Nat → Int} {wo r : Int} {L : Nat} {p : List Bool} (ht : 113 ≤ t) (hp : TrS Ha t q (TS q wo (-1)) (fun g => rmf q wo g 5000 (bgn q Z0 (-1) 0) (100 ^ (q 1).toNat) p)) (hL : (L : Int) + rmf q wo g1 5000 (bgn q Z0 (-1) 0) (100 ^ (q 1).toNat) p = TS q wo (-1) g1) (hM : (lff q wo 5000 (bgn q Z0 (-1) 0) (100 ^ (q 1).toNat) p).1 = M) (hw : 0 ≤ (lff q wo 5000 (bgn q Z0 (-1) 0) (100 ^ (q 1).toNat) p).2.1) (wt : WFT q M) (ha : AddT Ha H3 t q M (lff q wo 5000 (bgn q Z0 (-1) 0) (100 ^ (q 1).toNat) p).2.1) (hf : FrW H3 H4) (hr : (trn (lff q wo 5000 (bgn q Z0 (-1) 0) (100 ^ (q 1).toNat) p).2.2 = none ∧ r = 0) ∨ ∃ m, trn (lff q wo 5000 (bgn q Z0 (-1) 0) (100 ^ (q 1).toNat) p).2.2 = some m ∧ r = 1 ∧ H4.1 111 3 = ((m.length : Nat) : Int) ∧ EncF (H4.1 112) 0 m ∧ m.length ≤ 8) : ∃ p2, WgI H4 t q wo r (L + 1) p2 := by
  have nx := fun g => rmf_next (A := q) (wo := wo) (g := g) 5000 (bgn q Z0 (-1) 0) (100 ^ (q 1).toNat) p
  rw [hM] at nx
  have s1 := TrS_add (R1 := fun g => rsx q wo g 5000 (bgn q Z0 (-1) 0) (100 ^ (q 1).toNat) (lff q wo 5000 (bgn q Z0 (-1) 0) (100 ^ (q 1).toNat) p).2.2) hp ha (fun g => (nx g).1) wt hw
  have s2 := TrS_cg (H1 := H4) s1 (fun cc k _ _ => by rw [hf.2.2]) (by rw [hf.1 t (by omega) (by omega)])
  rcases hr with ⟨e, er⟩ | ⟨m, e, er, e3, e4, e5⟩
  · refine ⟨[], Or.inr ⟨er, ?_⟩⟩
    have z : (fun g => rsx q wo g 5000 (bgn q Z0 (-1) 0) (100 ^ (q 1).toNat) (lff q wo 5000 (bgn q Z0 (-1) 0) (100 ^ (q 1).toNat) p).2.2) = fun _ => 0 := funext (fun g => rsx_n e)
    rw [z] at s2
    exact s2
  · have z : (fun g => rsx q wo g 5000 (bgn q Z0 (-1) 0) (100 ^ (q 1).toNat) (lff q wo 5000 (bgn q Z0 (-1) 0) (100 ^ (q 1).toNat) p).2.2) = fun g => rmf q wo g 5000 (bgn q Z0 (-1) 0) (100 ^ (q 1).toNat) m := funext (fun g => rsx_s e)
    rw [z] at s2
    refine ⟨m, Or.inl ⟨er, (nx g1).2 m e, e3, e4, s2, ?_⟩⟩
    have y := (nx g1).1
    rw [rsx_s e, show g1 M (lff q wo 5000 (bgn q Z0 (-1) 0) (100 ^ (q 1).toNat) p).2.1 = 1 from rfl] at y
    omega
theorem FrTr_K {H Ha Hb : ZH} {t : Nat} (ht : 113 ≤ t) (h : FrTr H Ha t) (hk : FrK Ha Hb) : FrTr H Hb t := ⟨fun cc k a b => (hk.1 cc k a).trans (h.1 cc k a b), fun cc k a b c d => (hk.2 cc k a).trans (h.2 cc k a b c d)⟩

theorem c_X9_weigh {d : Nat} {H : ZH} (ok : okZ H) {t s : Nat} {q : Nat → Int} {k : Int} (k1 : -2147483648 ≤ k) (k2 : k ≤ 2147483647) (ht : isTr t) (hs : isSc s) (ws : WFS q) (rs : RepSc H s q) (rl : RepLw H q) (wl : WFL q) : EvC zX (d + 6) mX9_weigh [.ref t, .ref 104, .ref s, .int (zN (k))] (eh H) (zPv (fun (H1 : ZH) => TrD H1 t q k ∧ FrTr H H1 t)) := by
  show _ ∧ Ev zX mX9_weigh (EvC zX (d + 5)) (zPv (fun (H1 : ZH) => TrD H1 t q k ∧ FrTr H H1 t)) 0 [(0, .ref t), (1, .ref 104), (2, .ref s), (3, .int (zN (k)))] [] (eh H)
  refine ⟨Nat.le_of_ble_eq_true rfl, ?_⟩
  have hsr := isSc_r hs
  have htr := isTr_r ht
  have wsx := ws
  obtain ⟨ws0, ws1, wsC, ws34, ws35, ws36, ws37, ws38, ws39⟩ := wsx
  have rs1 := rs.2.1
  refine x_aload_n (pc := 0) dX9_weigh_0 (List.Mem.head _) ?_
  refine x_aload_n (pc := 1) dX9_weigh_1 (List.Mem.tail _ (List.Mem.tail _ (List.Mem.head _))) ?_
  refine z_getI (pc := 2) (k := 1) (v := (q 1)) dX9_weigh_2 lf_X9_18 (sh_Sc0 hs) rfl rs1 ?_
  refine z_callVv (pc := 5) (i := mX9_clear) (S := []) [.int (zN (((q 1))))] dX9_weigh_5 ml_X9_24 ok_X9_clear rfl (sh_Tr0 ht) rfl rfl (Nat.le_of_ble_eq_true rfl) (c_X9_clear (d := d + 3) (t := t) (n := (((q 1)))) (hn := (by omega)) (ok := ok) (ht := ht)) ?_
  intro Hc ok2 hp3
  obtain ⟨c1, c0, c6, cc0, cf1, cf2⟩ := hp3
  refine x_aload_n (pc := 8) dX9_weigh_8 (List.Mem.tail _ (List.Mem.head _)) ?_
  refine z_getR (pc := 9) (k := 0) (r := 111) dX9_weigh_9 lf_X9_28 sh_104 rfl rf_104_0 ?_
  refine z_callVvp (pc := 12) (i := mX0_goAllWays) (S := []) [] dX9_weigh_12 ml_X9_34 ok_X0_goAllWays rfl sh_111 rfl rfl (Nat.le_of_ble_eq_true rfl) (c_X0_goAllWays (d := d + 4) (ok := ok2)) (fun ok5 => ?_)
  have wt0 : WFT q (bgn q Z0 (-1) 0) := WFT_rn (bgn_rn ws) ws1.1
  have cq : ∀ c : Nat, (c : Int) < q 1 → Hc.2 (t + 1) c = 0 ∧ Hc.2 (t + 2) c = 0 := fun c hc => cc0 c (by omega)
  have tr0 : TrS Hc t q (TS q k (-1)) (fun g => rmf q k g 5000 (bgn q Z0 (-1) 0) (100 ^ (q 1).toNat) []) := by
    refine ⟨fun j hj => ?_, fun c hc => ?_, fun c hc => ?_, by rw [c6]; decide, fun v _ => rmf_nil 5000 _ _, c0⟩
    · rw [c1 (1 + j) (by omega) (by omega)]; exact ⟨Int.le_refl _, (Int.zero_add _).trans (rmf_nil 5000 _ _)⟩
    · rw [(cq c hc).1]; exact ⟨Int.le_refl _, (Int.zero_add _).trans (rmf_nil 5000 _ _)⟩
    · rw [(cq c hc).2]; exact ⟨Int.le_refl _, (Int.zero_add _).trans (rmf_nil 5000 _ _)⟩
  have wg0 : WgI (wI (wI Hc 111 0 (0)) 111 3 (0)) t q k 1 0 [] := Or.inl ⟨rfl, vlf_nil _ _, by rw [wI1]; rfl, trivial, TrS_cg tr0 (fun cc j a b => rfl) (by rw [wI1c (by omega), wI1c (by omega)]), (Int.zero_add _).trans (rmf_nil 5000 _ _)⟩
  refine z_iconst (pc := 15) dX9_weigh_15 ?_
  refine x_istore (pc := 16) dX9_weigh_16 (Nat.le_of_ble_eq_true rfl) ?_
  show Ev _ _ _ _ _ [(4, .int (zN (1))), (0, .ref t), (1, .ref 104), (2, .ref s), (3, .int (zN (k)))] _ _
  refine z_iconst (pc := 18) dX9_weigh_18 ?_
  refine x_istore (pc := 19) dX9_weigh_19 (Nat.le_of_ble_eq_true rfl) ?_
  show Ev _ _ _ _ _ [(5, .int (zN (0))), (4, .int (zN (1))), (0, .ref t), (1, .ref 104), (2, .ref s), (3, .int (zN (k)))] _ _
  have lp21 : ∀ (nF : Nat) (m : Int) (L : Nat) (p : List Bool) (Hm : ZH), okZ Hm → (L ≤ 256) → (Hm.1 111 0 = 0) → (FrTr H Hm t) → (WgI Hm t q k m L p) → 256 - L < nF → Ev zX mX9_weigh (EvC zX (d + 5)) (zPv (fun (H1 : ZH) => TrD H1 t q k ∧ FrTr H H1 t)) 21 [(0, .ref t), (1, .ref 104), (2, .ref s), (3, .int (zN (k))), (4, .int (zN (m))), (5, .int (zN ((L : Int))))] [] (eh Hm) := by
    intro nF
    induction nF with
    | zero => intro m L p Hm okl21 hL h0 fr wg hm; exact absurd hm (Nat.not_lt_zero _)
    | succ nF ih21 =>
      intro m L p Hm okl21 hL h0 fr wg hm
      have mb : m = 1 ∨ m = 0 := wg.elim (fun z => Or.inl z.1) (fun z => Or.inr z.1)
      have rsm : RepSc Hm s q := RepSc_e (fun cc a b => funext (fun j => fr.1 cc j (by omega) (by omega))) rs
      have rlm : RepLw Hm q := RepLw_e (fun cc a => funext (fun j => fr.1 cc j (by omega) (by omega))) rl
      refine x_iload (pc := 21) dX9_weigh_21 (List.Mem.tail _ (List.Mem.tail _ (List.Mem.tail _ (List.Mem.tail _ (List.Mem.head _))))) ?_
      refine z_if_eq (pc := 23) (tgt := 87) dX9_weigh_23 (by decide) (by omega) (by omega) (fun hb6 => ?_) (fun hb6 => ?_)
      · skip
        refine z_vreturn (pc := 87) dX9_weigh_87 rfl okl21 ?_
        refine ⟨?_, fr⟩
        rcases wg with ⟨z, _⟩ | ⟨_, z⟩
        · exact absurd z (by omega)
        · exact z
      · skip
        have hm0 : m ≠ 0 := hb6
        refine x_iload (pc := 26) dX9_weigh_26 (List.Mem.tail _ (List.Mem.tail _ (List.Mem.tail _ (List.Mem.tail _ (List.Mem.tail _ (List.Mem.head _)))))) ?_
        refine z_sipush (pc := 28) dX9_weigh_28 sp_256 ?_
        refine z_icmp_ge (pc := 31) (tgt := 87) dX9_weigh_31 (by decide) (by omega) (by omega) (by decide) (by decide) (fun hb7 => ?_) (fun hb7 => ?_)
        · skip
          exact absurd (wg_L ws wg hm0) (by omega)
        · skip
          have hLt := wg_L ws wg hm0
          obtain ⟨vm, vp, v3, v4, trm, vL⟩ := wg.resolve_right (fun z => hm0 z.1)
          refine x_aload_n (pc := 34) dX9_weigh_34 (List.Mem.tail _ (List.Mem.head _)) ?_
          refine x_aload_n (pc := 35) dX9_weigh_35 (List.Mem.tail _ (List.Mem.tail _ (List.Mem.head _))) ?_
          refine x_iload_n (pc := 36) dX9_weigh_36 (List.Mem.tail _ (List.Mem.tail _ (List.Mem.tail _ (List.Mem.head _)))) ?_
          refine z_callVv (pc := 37) (i := mX4_begin) (S := []) [.ref s, .int (zN (k))] dX9_weigh_37 ml_X9_39 ok_X4_begin rfl sh_104 rfl rfl (Nat.le_of_ble_eq_true rfl) (c_X4_begin (d := d + 3) (s := s) (q := q) (k := k) (k1 := (by omega)) (k2 := (by omega)) (ok := okl21) (hs := hs) (ws := ws) (rs := rsm)) ?_
          intro Hb ok9 hp10
          obtain ⟨frb, b1, b3, bR, bP, b4, b5, b6, b7⟩ := hp10
          have ch0 : ChS Hb q k (bgn q Z0 (-1) 0) (lff q k 5000 (bgn q Z0 (-1) 0) (100 ^ (q 1).toNat) p) := chs_0 ws vp ((b6 0 (by omega)).trans h0) b4 ((b6 3 (by omega)).trans v3) (by rw [show Hb.1 112 = Hm.1 112 from funext b7]; exact v4) b5
          have ri0 := bR Z0 0
          refine z_iconst (pc := 40) dX9_weigh_40 ?_
          refine x_istore (pc := 41) dX9_weigh_41 (Nat.le_of_ble_eq_true rfl) ?_
          show Ev _ _ _ _ _ [(6, .int (zN (0))), (0, .ref t), (1, .ref 104), (2, .ref s), (3, .int (zN (k))), (4, .int (zN (m))), (5, .int (zN ((L : Int))))] _ _
          have lp43 : ∀ (nF : Nat) (u : Nat) (M : Nat → Int) (Hr : ZH), okZ Hr → (u ≤ 99) → (FrK Hb Hr) → (RepRd Hr q M) → (∀ j, j < 10 → Hr.1 104 j = Hb.1 104 j) → (Perm8 (Hr.1 109) (q 1).toNat) → (ChS Hr q k M (lff q k 5000 (bgn q Z0 (-1) 0) (100 ^ (q 1).toNat) p)) → (M 41 = 0) → (M 36 = (u : Int)) → 99 - u < nF → Ev zX mX9_weigh (EvC zX (d + 5)) (zPv (fun (H1 : ZH) => TrD H1 t q k ∧ FrTr H H1 t)) 43 [(0, .ref t), (1, .ref 104), (2, .ref s), (3, .int (zN (k))), (4, .int (zN (m))), (5, .int (zN ((L : Int)))), (6, .int (zN ((u : Int))))] [] (eh Hr) := by
            intro nF
            induction nF with
            | zero => intro u M Hr okl43 hu frk rdm f104 pm ch m41 m36 hm; exact absurd hm (Nat.not_lt_zero _)
            | succ nF ih43 =>
              intro u M Hr okl43 hu frk rdm f104 pm ch m41 m36 hm
              have f3r : Hr.1 104 3 = k := (f104 3 (by omega)).trans b3
              have frr : FrTr H Hr t := FrTr_K (by omega) (FrTr_K (by omega) fr frb) frk
              have rsr : RepSc Hr s q := RepSc_e (fun cc a b => funext (fun j => frr.1 cc j (by omega) (by omega))) rs
              have rlr : RepLw Hr q := RepLw_e (fun cc a => funext (fun j => frr.1 cc j (by omega) (by omega))) rl
              have wtm : WFT q M := by
                obtain ⟨_, _, _, _, z, _⟩ := ch
                exact z
              have r37 := wtm.1.2.2.2.2.2.2.1
              have ch00 : Hr.1 111 0 = 0 := by
                obtain ⟨_, _, _, _, _, _, _, _, z, _⟩ := ch
                exact z
              have trr := TrS_cg (H1 := Hr) trm (fun cc j a b => (frk.2 cc j (by omega)).trans (frb.2 cc j (by omega))) ((frk.1 t 6 (by omega)).trans (frb.1 t 6 (by omega)))
              refine x_iload (pc := 43) dX9_weigh_43 (List.Mem.tail _ (List.Mem.tail _ (List.Mem.tail _ (List.Mem.tail _ (List.Mem.tail _ (List.Mem.tail _ (List.Mem.head _))))))) ?_
              refine z_bipush (pc := 45) dX9_weigh_45 bp_99 ?_
              refine z_icmp_ge (pc := 47) (tgt := 67) dX9_weigh_47 (by decide) (by omega) (by omega) (by decide) (by decide) (fun hb11 => ?_) (fun hb11 => ?_)
              · skip
                have h37 : M 37 ≠ 0 := by
                  intro z
                  have := wtm.2.1.2.2.2.2.2 z
                  omega
                obtain ⟨lf1, lf2, lf3, lf4, lf5, lf6, lf7, lf8⟩ := chs_leaf ws1 ch h37
                refine x_aload_n (pc := 67) dX9_weigh_67 (List.Mem.head _) ?_
                refine x_aload_n (pc := 68) dX9_weigh_68 (List.Mem.tail _ (List.Mem.head _)) ?_
                refine z_callVv (pc := 69) (i := mX9_add) (S := []) [.ref 104] dX9_weigh_69 ml_X9_49 ok_X9_add rfl (sh_Tr0 ht) rfl rfl (Nat.le_of_ble_eq_true rfl) (c_X9_add (d := d + 4) (t := t) (s := s) (q := q) (N := M) (w := (lff q k 5000 (bgn q Z0 (-1) 0) (100 ^ (q 1).toNat) p).2.1) (ok := okl43) (ht := ht) (hs := hs) (hsc := ((f104 1 (by omega)).trans b1)) (ws := ws) (rs := rsr) (wn := wtm.1) (rd := rdm) (he := (by have := wtm.1.2.2.2.2.2.2.1; omega)) (hak := lf4) (hw := lf2) (hwb := lf3) (acc := (wg_acc ws trr)) (hlg := trr.2.2.2.1)) ?_
                intro Ha ok13 hp14
                have ada := hp14
                have a111 : Ha.1 111 = Hr.1 111 := funext (fun j => ada.2.2.2.2.2.1 111 j (by omega))
                have a112 : Ha.1 112 = Hr.1 112 := funext (fun j => ada.2.2.2.2.2.1 112 j (by omega))
                refine x_aload_n (pc := 72) dX9_weigh_72 (List.Mem.tail _ (List.Mem.head _)) ?_
                refine z_getR (pc := 73) (k := 0) (r := 111) dX9_weigh_73 lf_X9_28 sh_104 rfl rf_104_0 ?_
                refine z_callVi (pc := 76) (i := mX0_turn) (S := []) [] dX9_weigh_76 ml_X9_53 ok_X0_turn rfl sh_111 rfl (Or.inr rfl) (Nat.le_of_ble_eq_true rfl) (c_X0_turn (d := d + 4) (l := (lff q k 5000 (bgn q Z0 (-1) 0) (100 ^ (q 1).toNat) p).2.2) (ok := ok13) (hm0 := (by rw [a111]; exact lf5)) (he := (by rw [a112]; exact lf6)) (h8 := lf7)) ?_
                intro r15 Hd r15a r15b ok16 hp17
                obtain ⟨fw, hor⟩ := hp17
                obtain ⟨p2, wg2⟩ := wg_step (p := p) (r := r15) (by omega) trr vL lf1 lf3.1 lf8 ada fw hor
                have h02 : Hd.1 111 0 = 0 := by rw [fw.2.1 0 (by omega), a111]; exact ch00
                have fr2 : FrTr H Hd t := ⟨fun cc j a b => by rw [fw.1 cc (by omega) (by omega), ada.2.2.2.2.2.1 cc j b]; exact frr.1 cc j a b, fun cc j a b c d => by rw [fw.2.2, ada.2.2.2.2.2.2 cc j b c d]; exact frr.2 cc j a b c d⟩
                refine x_istore (pc := 79) dX9_weigh_79 (Nat.le_of_ble_eq_true rfl) ?_
                show Ev _ _ _ _ _ [(4, .int (zN (r15))), (0, .ref t), (1, .ref 104), (2, .ref s), (3, .int (zN (k))), (5, .int (zN ((L : Int)))), (6, .int (zN ((u : Int))))] _ _
                refine z_iinc (pc := 81) dX9_weigh_81 (List.Mem.tail _ (List.Mem.tail _ (List.Mem.tail _ (List.Mem.tail _ (List.Mem.tail _ (List.Mem.head _)))))) (Nat.le_of_ble_eq_true rfl) ?_
                show Ev _ _ _ _ _ [(5, .int (zN ((L : Int) + 1))), (4, .int (zN (r15))), (0, .ref t), (1, .ref 104), (2, .ref s), (3, .int (zN (k))), (6, .int (zN ((u : Int))))] _ _
                refine x_goto (pc := 84) (tgt := 21) dX9_weigh_84 (by decide) ?_
                refine x_weaken (L1 := [(0, .ref t), (1, .ref 104), (2, .ref s), (3, .int (zN (k))), (4, .int (zN (r15))), (5, .int (zN ((((L + 1) : Nat) : Int))))]) (List.forall_mem_cons.mpr ⟨(List.Mem.tail _ (List.Mem.tail _ (List.Mem.head _))), (List.forall_mem_cons.mpr ⟨(List.Mem.tail _ (List.Mem.tail _ (List.Mem.tail _ (List.Mem.head _)))), (List.forall_mem_cons.mpr ⟨(List.Mem.tail _ (List.Mem.tail _ (List.Mem.tail _ (List.Mem.tail _ (List.Mem.head _))))), (List.forall_mem_cons.mpr ⟨(List.Mem.tail _ (List.Mem.tail _ (List.Mem.tail _ (List.Mem.tail _ (List.Mem.tail _ (List.Mem.head _)))))), (List.forall_mem_cons.mpr ⟨(List.Mem.tail _ (List.Mem.head _)), (List.forall_mem_cons.mpr ⟨(mem_ci (by omega) (List.Mem.head _)), (fun _ h => absurd h List.not_mem_nil)⟩)⟩)⟩)⟩)⟩)⟩) ?_
                exact ih21 (r15) ((L + 1)) (p2) Hd ok16 (by omega) (h02) (fr2) (wg2) (by omega)
              · skip
                refine x_aload_n (pc := 50) dX9_weigh_50 (List.Mem.tail _ (List.Mem.head _)) ?_
                refine z_getI (pc := 51) (k := 15) (v := (M 37)) dX9_weigh_51 lf_X9_43 sh_104 rfl rdm.2.2.2.2.2.2.1 ?_
                refine z_if_ne (pc := 54) (tgt := 67) dX9_weigh_54 (by decide) (by omega) (by omega) (fun hb18 => ?_) (fun hb18 => ?_)
                · skip
                  have h37 : M 37 ≠ 0 := by
                    intro z
                    have := wtm.2.1.2.2.2.2.2 z
                    omega
                  obtain ⟨lf1, lf2, lf3, lf4, lf5, lf6, lf7, lf8⟩ := chs_leaf ws1 ch h37
                  refine x_aload_n (pc := 67) dX9_weigh_67 (List.Mem.head _) ?_
                  refine x_aload_n (pc := 68) dX9_weigh_68 (List.Mem.tail _ (List.Mem.head _)) ?_
                  refine z_callVv (pc := 69) (i := mX9_add) (S := []) [.ref 104] dX9_weigh_69 ml_X9_49 ok_X9_add rfl (sh_Tr0 ht) rfl rfl (Nat.le_of_ble_eq_true rfl) (c_X9_add (d := d + 4) (t := t) (s := s) (q := q) (N := M) (w := (lff q k 5000 (bgn q Z0 (-1) 0) (100 ^ (q 1).toNat) p).2.1) (ok := okl43) (ht := ht) (hs := hs) (hsc := ((f104 1 (by omega)).trans b1)) (ws := ws) (rs := rsr) (wn := wtm.1) (rd := rdm) (he := (by have := wtm.1.2.2.2.2.2.2.1; omega)) (hak := lf4) (hw := lf2) (hwb := lf3) (acc := (wg_acc ws trr)) (hlg := trr.2.2.2.1)) ?_
                  intro Ha ok20 hp21
                  have ada := hp21
                  have a111 : Ha.1 111 = Hr.1 111 := funext (fun j => ada.2.2.2.2.2.1 111 j (by omega))
                  have a112 : Ha.1 112 = Hr.1 112 := funext (fun j => ada.2.2.2.2.2.1 112 j (by omega))
                  refine x_aload_n (pc := 72) dX9_weigh_72 (List.Mem.tail _ (List.Mem.head _)) ?_
                  refine z_getR (pc := 73) (k := 0) (r := 111) dX9_weigh_73 lf_X9_28 sh_104 rfl rf_104_0 ?_
                  refine z_callVi (pc := 76) (i := mX0_turn) (S := []) [] dX9_weigh_76 ml_X9_53 ok_X0_turn rfl sh_111 rfl (Or.inr rfl) (Nat.le_of_ble_eq_true rfl) (c_X0_turn (d := d + 4) (l := (lff q k 5000 (bgn q Z0 (-1) 0) (100 ^ (q 1).toNat) p).2.2) (ok := ok20) (hm0 := (by rw [a111]; exact lf5)) (he := (by rw [a112]; exact lf6)) (h8 := lf7)) ?_
                  intro r22 Hd r22a r22b ok23 hp24
                  obtain ⟨fw, hor⟩ := hp24
                  obtain ⟨p2, wg2⟩ := wg_step (p := p) (r := r22) (by omega) trr vL lf1 lf3.1 lf8 ada fw hor
                  have h02 : Hd.1 111 0 = 0 := by rw [fw.2.1 0 (by omega), a111]; exact ch00
                  have fr2 : FrTr H Hd t := ⟨fun cc j a b => by rw [fw.1 cc (by omega) (by omega), ada.2.2.2.2.2.1 cc j b]; exact frr.1 cc j a b, fun cc j a b c d => by rw [fw.2.2, ada.2.2.2.2.2.2 cc j b c d]; exact frr.2 cc j a b c d⟩
                  refine x_istore (pc := 79) dX9_weigh_79 (Nat.le_of_ble_eq_true rfl) ?_
                  show Ev _ _ _ _ _ [(4, .int (zN (r22))), (0, .ref t), (1, .ref 104), (2, .ref s), (3, .int (zN (k))), (5, .int (zN ((L : Int)))), (6, .int (zN ((u : Int))))] _ _
                  refine z_iinc (pc := 81) dX9_weigh_81 (List.Mem.tail _ (List.Mem.tail _ (List.Mem.tail _ (List.Mem.tail _ (List.Mem.tail _ (List.Mem.head _)))))) (Nat.le_of_ble_eq_true rfl) ?_
                  show Ev _ _ _ _ _ [(5, .int (zN ((L : Int) + 1))), (4, .int (zN (r22))), (0, .ref t), (1, .ref 104), (2, .ref s), (3, .int (zN (k))), (6, .int (zN ((u : Int))))] _ _
                  refine x_goto (pc := 84) (tgt := 21) dX9_weigh_84 (by decide) ?_
                  refine x_weaken (L1 := [(0, .ref t), (1, .ref 104), (2, .ref s), (3, .int (zN (k))), (4, .int (zN (r22))), (5, .int (zN ((((L + 1) : Nat) : Int))))]) (List.forall_mem_cons.mpr ⟨(List.Mem.tail _ (List.Mem.tail _ (List.Mem.head _))), (List.forall_mem_cons.mpr ⟨(List.Mem.tail _ (List.Mem.tail _ (List.Mem.tail _ (List.Mem.head _)))), (List.forall_mem_cons.mpr ⟨(List.Mem.tail _ (List.Mem.tail _ (List.Mem.tail _ (List.Mem.tail _ (List.Mem.head _))))), (List.forall_mem_cons.mpr ⟨(List.Mem.tail _ (List.Mem.tail _ (List.Mem.tail _ (List.Mem.tail _ (List.Mem.tail _ (List.Mem.head _)))))), (List.forall_mem_cons.mpr ⟨(List.Mem.tail _ (List.Mem.head _)), (List.forall_mem_cons.mpr ⟨(mem_ci (by omega) (List.Mem.head _)), (fun _ h => absurd h List.not_mem_nil)⟩)⟩)⟩)⟩)⟩)⟩) ?_
                  exact ih21 (r22) ((L + 1)) (p2) Hd ok23 (by omega) (h02) (fr2) (wg2) (by omega)
                · skip
                  refine x_aload_n (pc := 57) dX9_weigh_57 (List.Mem.tail _ (List.Mem.head _)) ?_
                  refine z_callVv (pc := 58) (i := mX4_tick) (S := []) [] dX9_weigh_58 ml_X9_46 ok_X4_tick rfl sh_104 rfl rfl (Nat.le_of_ble_eq_true rfl) (c_X4_tick_w (d := d) (s := s) (q := q) (N := M) (X := (lff q k 5000 (bgn q Z0 (-1) 0) (100 ^ (q 1).toNat) p)) (ok := okl43) (hs := hs) (hsc := ((f104 1 (by omega)).trans b1)) (ws := ws) (rs := rsr) (wn := wtm.1) (rd := rdm) (rl := rlr) (wl := wl) (wx := wtm.2.1) (he := (by omega)) (pm := pm) (e41 := m41) (chs := (by rw [f3r]; exact ch))) ?_
                  intro H3 ok26 hp27
                  obtain ⟨N2, fr2, rd2, f42, pm2, ch20, z41, z36⟩ := hp27
                  rw [f3r] at ch20
                  have ch2 := ch20
                  refine z_iinc (pc := 61) dX9_weigh_61 (List.Mem.tail _ (List.Mem.tail _ (List.Mem.tail _ (List.Mem.tail _ (List.Mem.tail _ (List.Mem.tail _ (List.Mem.head _))))))) (Nat.le_of_ble_eq_true rfl) ?_
                  show Ev _ _ _ _ _ [(6, .int (zN ((u : Int) + 1))), (0, .ref t), (1, .ref 104), (2, .ref s), (3, .int (zN (k))), (4, .int (zN (m))), (5, .int (zN ((L : Int))))] _ _
                  refine x_goto (pc := 64) (tgt := 43) dX9_weigh_64 (by decide) ?_
                  refine x_weaken (L1 := [(0, .ref t), (1, .ref 104), (2, .ref s), (3, .int (zN (k))), (4, .int (zN (m))), (5, .int (zN ((L : Int)))), (6, .int (zN ((((u + 1) : Nat) : Int))))]) (List.forall_mem_cons.mpr ⟨(List.Mem.tail _ (List.Mem.head _)), (List.forall_mem_cons.mpr ⟨(List.Mem.tail _ (List.Mem.tail _ (List.Mem.head _))), (List.forall_mem_cons.mpr ⟨(List.Mem.tail _ (List.Mem.tail _ (List.Mem.tail _ (List.Mem.head _)))), (List.forall_mem_cons.mpr ⟨(List.Mem.tail _ (List.Mem.tail _ (List.Mem.tail _ (List.Mem.tail _ (List.Mem.head _))))), (List.forall_mem_cons.mpr ⟨(List.Mem.tail _ (List.Mem.tail _ (List.Mem.tail _ (List.Mem.tail _ (List.Mem.tail _ (List.Mem.head _)))))), (List.forall_mem_cons.mpr ⟨(List.Mem.tail _ (List.Mem.tail _ (List.Mem.tail _ (List.Mem.tail _ (List.Mem.tail _ (List.Mem.tail _ (List.Mem.head _))))))), (List.forall_mem_cons.mpr ⟨(mem_ci (by omega) (List.Mem.head _)), (fun _ h => absurd h List.not_mem_nil)⟩)⟩)⟩)⟩)⟩)⟩)⟩) ?_
                  exact ih43 ((u + 1)) (N2) H3 ok26 (by omega) (FrK_tr frk fr2) (rd2) (fun j hj => (f42 j hj).trans (f104 j hj)) (pm2) (ch2) (z41) (by rw [z36, m36]; omega) (by omega)
          refine x_weaken (L1 := [(0, .ref t), (1, .ref 104), (2, .ref s), (3, .int (zN (k))), (4, .int (zN (m))), (5, .int (zN ((L : Int)))), (6, .int (zN (((0 : Nat) : Int))))]) (List.forall_mem_cons.mpr ⟨(List.Mem.tail _ (List.Mem.head _)), (List.forall_mem_cons.mpr ⟨(List.Mem.tail _ (List.Mem.tail _ (List.Mem.head _))), (List.forall_mem_cons.mpr ⟨(List.Mem.tail _ (List.Mem.tail _ (List.Mem.tail _ (List.Mem.head _)))), (List.forall_mem_cons.mpr ⟨(List.Mem.tail _ (List.Mem.tail _ (List.Mem.tail _ (List.Mem.tail _ (List.Mem.head _))))), (List.forall_mem_cons.mpr ⟨(List.Mem.tail _ (List.Mem.tail _ (List.Mem.tail _ (List.Mem.tail _ (List.Mem.tail _ (List.Mem.head _)))))), (List.forall_mem_cons.mpr ⟨(List.Mem.tail _ (List.Mem.tail _ (List.Mem.tail _ (List.Mem.tail _ (List.Mem.tail _ (List.Mem.tail _ (List.Mem.head _))))))), (List.forall_mem_cons.mpr ⟨(mem_ci (by omega) (List.Mem.head _)), (fun _ h => absurd h List.not_mem_nil)⟩)⟩)⟩)⟩)⟩)⟩)⟩) ?_
          exact lp43 (99 - 0 + 1) (0) ((bgn q Z0 (-1) 0)) Hb ok9 (by omega) (FrK_0 Hb) (ri0) (fun _ _ => rfl) (bP) (ch0) ((bgn_rn (o := Z0) (wc := -1) (sd := 0) ws).2.2.1) ((bgn_f (A := q) (o := Z0) (wc := -1) (sd := 0) ws1).2.2 36 (by omega) (by omega)) (Nat.lt_succ_self _)
  refine x_weaken (L1 := [(0, .ref t), (1, .ref 104), (2, .ref s), (3, .int (zN (k))), (4, .int (zN (1))), (5, .int (zN (((0 : Nat) : Int))))]) (List.forall_mem_cons.mpr ⟨(List.Mem.tail _ (List.Mem.tail _ (List.Mem.head _))), (List.forall_mem_cons.mpr ⟨(List.Mem.tail _ (List.Mem.tail _ (List.Mem.tail _ (List.Mem.head _)))), (List.forall_mem_cons.mpr ⟨(List.Mem.tail _ (List.Mem.tail _ (List.Mem.tail _ (List.Mem.tail _ (List.Mem.head _))))), (List.forall_mem_cons.mpr ⟨(List.Mem.tail _ (List.Mem.tail _ (List.Mem.tail _ (List.Mem.tail _ (List.Mem.tail _ (List.Mem.head _)))))), (List.forall_mem_cons.mpr ⟨(List.Mem.tail _ (List.Mem.head _)), (List.forall_mem_cons.mpr ⟨(mem_ci (by omega) (List.Mem.head _)), (fun _ h => absurd h List.not_mem_nil)⟩)⟩)⟩)⟩)⟩)⟩) ?_
  exact lp21 (256 - 0 + 1) (1) (0) (([] : List Bool)) (wI (wI Hc 111 0 (0)) 111 3 (0)) ok5 (by omega) (by rw [wI1k (by omega), wI1]) (⟨fun cc j a b => by rw [wI1c (by omega), wI1c (by omega)]; exact cf1 cc j b, fun cc j a b c d => cf2 cc j b c d⟩) (wg0) (Nat.lt_succ_self _)
