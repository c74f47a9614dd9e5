/-! GROUP G29: the class's calls of odds. -/
theorem trd_k {H : ZH} {t : Nat} {q : Nat → Int} {wo : Int} (h : TrD H t q wo) (k : Nat) (hk : k < 5) : H.2 t (1 + k) = TS q wo (-1) (gK k) := by
  have z := (h.1 k hk).2
  exact (Int.add_zero _).symm.trans z
theorem trd_b {H : ZH} {t : Nat} {q : Nat → Int} {wo : Int} (h : TrD H t q wo) (c : Nat) (hc : (c : Int) < q 1) : H.2 (t + 1) c = TS q wo (-1) (gB c) := (Int.add_zero _).symm.trans (h.2.1 c hc).2
theorem trd_s {H : ZH} {t : Nat} {q : Nat → Int} {wo : Int} (h : TrD H t q wo) (c : Nat) (hc : (c : Int) < q 1) : H.2 (t + 2) c = TS q wo (-1) (gS c) := (Int.add_zero _).symm.trans (h.2.2.1 c hc).2
theorem trd_0 {H : ZH} {t : Nat} {q : Nat → Int} {wo : Int} (h : TrD H t q wo) : H.2 t 0 = 100 ^ (q 1).toNat := h.2.2.2.2.2
/-- all but the other scene, the road, the trees and the note that the tree stands -/
def FrO (H H1 : ZH) : Prop := (∀ cc k, ¬ (50 ≤ cc ∧ cc ≤ 54) → ¬ (104 ≤ cc ∧ cc ≤ 112) → ¬ ((cc = 113 ∨ cc = 116) ∧ k = 6) → ¬ (cc = 20 ∧ k = 8) → H1.1 cc k = H.1 cc k) ∧ ∀ cc k, ¬ (cc = 111 ∧ k = 5) → ¬ (113 ≤ cc ∧ cc ≤ 118) → cc ≠ 23 → H1.2 cc k = H.2 cc k
/-- all but the other scene, the road, the other tree -/
def FrP (H H1 : ZH) : Prop := (∀ cc k, ¬ (50 ≤ cc ∧ cc ≤ 54) → ¬ (104 ≤ cc ∧ cc ≤ 112) → ¬ (cc = 116 ∧ k = 6) → H1.1 cc k = H.1 cc k) ∧ ∀ cc k, ¬ (cc = 111 ∧ k = 5) → ¬ (116 ≤ cc ∧ cc ≤ 118) → cc ≠ 23 → H1.2 cc k = H.2 cc k
theorem FrP_tr {a b c : ZH} (h1 : FrP a b) (h2 : FrP b c) : FrP a c := ⟨fun x y p q r => (h2.1 x y p q r).trans (h1.1 x y p q r), fun x y p q r => (h2.2 x y p q r).trans (h1.2 x y p q r)⟩
theorem FrO_tr {a b c : ZH} (h1 : FrO a b) (h2 : FrO b c) : FrO a c := ⟨fun x y p q r s => (h2.1 x y p q r s).trans (h1.1 x y p q r s), fun x y p q r => (h2.2 x y p q r).trans (h1.2 x y p q r)⟩
theorem FrO_P {a b c : ZH} (h1 : FrO a b) (h2 : FrP b c) : FrO a c := ⟨fun x y p q r s => (h2.1 x y p q (fun z => r ⟨Or.inr z.1, z.2⟩)).trans (h1.1 x y p q r s), fun x y p q r => (h2.2 x y p (fun z => q (by omega)) r).trans (h1.2 x y p q r)⟩
theorem FrP_tr116 {H H1 : ZH} (h : FrTr H H1 116) : FrP H H1 := ⟨fun cc k _ b c => h.1 cc k b c, fun cc k a b _ => h.2 cc k a (by omega) (by omega) (by omega)⟩
theorem FrP_take {H H1 : ZH} (h : TakeSc H H1 50 35) : FrP H H1 := ⟨fun cc k a _ _ => by rw [h.2.1 cc (by omega)], fun cc k _ _ _ => by rw [h.1]⟩
theorem FrP_50 {H : ZH} {k : Nat} {v : Int} : FrP H (wI H 50 k v) := ⟨fun cc j a _ _ => by rw [wI1c (by omega)], fun _ _ _ _ _ => rfl⟩
theorem take_rep {H H1 : ZH} {q : Nat → Int} (ws : WFS q) (h : TakeSc H H1 50 35) (r : RepSc H 35 q) : RepSc H1 50 q := by
  obtain ⟨_, _, ⟨t0, t1, t6, t7, t8, t9, t10, t11⟩, ta⟩ := h
  obtain ⟨r0, r1, rC, r34, r35, r36, r37, r38, r39⟩ := r
  have w1 := ws.2.1
  refine ⟨t0.trans r0, t1.trans r1, fun c hc => ?_, t6.trans r34, t7.trans r35, t8.trans r36, t9.trans r37, t10.trans r38, t11.trans r39⟩
  obtain ⟨a, b, c2, e⟩ := rC c hc
  exact ⟨(ta 1 c (by omega) (by omega) (by omega)).trans a, (ta 2 c (by omega) (by omega) (by omega)).trans b, (ta 3 c (by omega) (by omega) (by omega)).trans c2, (ta 4 c (by omega) (by omega) (by omega)).trans e⟩
/-- another number of the other scene -/
theorem rep_up {H : ZH} {q : Nat → Int} {i : Nat} {u v : Int} (ws : WFS q) (hi : 34 ≤ i ∧ i ≤ 37) (r : RepSc H 50 (upA q i u)) : RepSc (wI H 50 (i - 28) v) 50 (upA q i v) := by
  have w1 := ws.2.1
  have e : ∀ (x : Int) j, j ≠ i → upA q i x j = q j := fun x j h => upA_ne h
  obtain ⟨r0, r1, rC, r34, r35, r36, r37, r38, r39⟩ := r
  rw [e u 0 (by omega)] at r0
  rw [e u 1 (by omega)] at r1 rC
  rw [e u 38 (by omega)] at r38
  rw [e u 39 (by omega)] at r39
  refine ⟨?_, ?_, fun c hc => ?_, ?_, ?_, ?_, ?_, ?_, ?_⟩
  · rw [wI1k (by omega), e v 0 (by omega)]; exact r0
  · rw [wI1k (by omega), e v 1 (by omega)]; exact r1
  · rw [e v 1 (by omega)] at hc
    have z := rC c hc
    rw [e u (2 + c) (by omega), e u (10 + c) (by omega), e u (18 + c) (by omega), e u (26 + c) (by omega)] at z
    rw [wI1c (by omega), wI1c (by omega), wI1c (by omega), wI1c (by omega), e v (2 + c) (by omega), e v (10 + c) (by omega), e v (18 + c) (by omega), e v (26 + c) (by omega)]
    exact z
  · by_cases z : i = 34
    · subst z; rw [upA_at]; exact wI1 _ _ _ _
    · rw [wI1k (by omega), e v 34 (by omega)]; rw [e u 34 (by omega)] at r34; exact r34
  · by_cases z : i = 35
    · subst z; rw [upA_at]; exact wI1 _ _ _ _
    · rw [wI1k (by omega), e v 35 (by omega)]; rw [e u 35 (by omega)] at r35; exact r35
  · by_cases z : i = 36
    · subst z; rw [upA_at]; exact wI1 _ _ _ _
    · rw [wI1k (by omega), e v 36 (by omega)]; rw [e u 36 (by omega)] at r36; exact r36
  · by_cases z : i = 37
    · subst z; rw [upA_at]; exact wI1 _ _ _ _
    · rw [wI1k (by omega), e v 37 (by omega)]; rw [e u 37 (by omega)] at r37; exact r37
  · rw [wI1k (by omega), e v 38 (by omega)]; exact r38
  · rw [wI1k (by omega), e v 39 (by omega)]; exact r39
theorem lw_up {H : ZH} {q : Nat → Int} {i : Nat} {v : Int} (hi : i < 40) (r : RepLw H q) : RepLw H (upA q i v) := by
  have e : ∀ j, 40 ≤ j → upA q i v j = q j := fun j h => upA_ne (by omega)
  unfold RepLw at r ⊢
  rw [e 40 (by omega)]
  refine ⟨r.1, fun l hl => ?_⟩
  obtain ⟨a, b, c⟩ := r.2 l hl
  rw [e (41 + l) (by omega), e (65 + l) (by omega)]
  exact ⟨a, b, fun j hj => by rw [e (77 + 2 * j) (by omega), e (78 + 2 * j) (by omega)]; exact c j hj⟩
theorem lw_P {H H1 : ZH} {q : Nat → Int} (h : FrP H H1) (r : RepLw H q) : RepLw H1 q := by
  have e : ∀ cc k, ¬ (50 ≤ cc ∧ cc ≤ 54) → cc ≤ 62 → H1.1 cc k = H.1 cc k := fun cc k a b => h.1 cc k a (by omega) (by omega)
  refine ⟨by rw [e 59 0 (by omega) (by omega)]; exact r.1, fun l hl => ?_⟩
  obtain ⟨a, b, c⟩ := r.2 l hl
  exact ⟨by rw [e 60 l (by omega) (by omega)]; exact a, by rw [e 61 l (by omega) (by omega)]; exact b, fun i hi => by rw [e 62 i (by omega) (by omega)]; exact c i hi⟩
theorem sc_P {H H1 : ZH} {q : Nat → Int} (h : FrP H H1) (r : RepSc H 35 q) : RepSc H1 35 q := RepSc_e (fun cc a b => funext (fun j => h.1 cc j (by omega) (by omega) (by omega))) r
theorem trd_P {H H1 : ZH} {q : Nat → Int} {wo : Int} (h : FrP H H1) (r : TrD H 113 q wo) : TrD H1 113 q wo := TrS_cg r (fun cc k a b => h.2 cc k (by omega) (by omega) (by omega)) (h.1 113 6 (by omega) (by omega) (by omega))
/-- what weighing the tree leaves as it is -/
def WnP (H H1 : ZH) (q : Nat → Int) : Prop := TrD H1 113 q (-1) ∧ H1.1 20 8 ≠ 0 ∧ FrO H H1
theorem wn_sc {H H1 : ZH} {q q2 : Nat → Int} (h : FrO H H1) (r : RepSc H 35 q2) (l : RepLw H q) : RepSc H1 35 q2 ∧ RepLw H1 q := by
  refine ⟨RepSc_e (fun cc a b => funext (fun j => h.1 cc j (by omega) (by omega) (by omega) (by omega))) r, ?_⟩
  have e : ∀ cc k, 59 ≤ cc → cc ≤ 62 → H1.1 cc k = H.1 cc k := fun cc k a b => h.1 cc k (by omega) (by omega) (by omega) (by omega)
  refine ⟨by rw [e 59 0 (by omega) (by omega)]; exact l.1, fun i hi => ?_⟩
  obtain ⟨a, b, c⟩ := l.2 i hi
  exact ⟨by rw [e 60 i (by omega) (by omega)]; exact a, by rw [e 61 i (by omega) (by omega)]; exact b, fun j hj => by rw [e 62 j (by omega) (by omega)]; exact c j hj⟩
theorem bk_eq {n : Nat} {K most : Int} (hn : n ≤ 8) : (K ≤ (100 : Int) ^ n / 1000 * most + (100 : Int) ^ n % 1000 * most / 1000) ↔ (if (100 : Int) ^ n < 1000 then decide (K * 1000 ≤ most * 100 ^ n) else decide (K ≤ most * (100 ^ n / 1000))) = true := by
  rcases (show n = 0 ∨ n = 1 ∨ n = 2 ∨ n = 3 ∨ n = 4 ∨ n = 5 ∨ n = 6 ∨ n = 7 ∨ n = 8 by omega) with e | e | e | e | e | e | e | e | e <;> subst e
  · rw [show (100 : Int) ^ 0 = 1 from rfl, if_pos (by decide), decide_eq_true_iff]; omega
  · rw [show (100 : Int) ^ 1 = 100 from rfl, if_pos (by decide), decide_eq_true_iff]; omega
  · rw [show (100 : Int) ^ 2 = 10000 from rfl, if_neg (by decide), decide_eq_true_iff]; omega
  · rw [show (100 : Int) ^ 3 = 1000000 from rfl, if_neg (by decide), decide_eq_true_iff]; omega
  · rw [show (100 : Int) ^ 4 = 100000000 from rfl, if_neg (by decide), decide_eq_true_iff]; omega
  · rw [show (100 : Int) ^ 5 = 10000000000 from rfl, if_neg (by decide), decide_eq_true_iff]; omega
  · rw [show (100 : Int) ^ 6 = 1000000000000 from rfl, if_neg (by decide), decide_eq_true_iff]; omega
  · rw [show (100 : Int) ^ 7 = 100000000000000 from rfl, if_neg (by decide), decide_eq_true_iff]; omega
  · rw [show (100 : Int) ^ 8 = 10000000000000000 from rfl, if_neg (by decide), decide_eq_true_iff]; omega

theorem c_X10_weighNow {d : Nat} {H : ZH} (ok : okZ H)  (ws : WFS (H.1 2)) (rs : RepSc H 35 (H.1 2)) (rl : RepLw H (H.1 2)) (wl : WFL (H.1 2)) (tv : H.1 20 8 ≠ 0 → TrD H 113 (H.1 2) (-1)) : EvC zX (d + 7) mX10_weighNow [.ref 20] (eh H) (zPv (fun (H1 : ZH) => WnP H H1 (H.1 2))) := by
  show _ ∧ Ev zX mX10_weighNow (EvC zX (d + 6)) (zPv (fun (H1 : ZH) => WnP H H1 (H.1 2))) 0 [(0, .ref 20)] [] (eh H)
  refine ⟨Nat.le_of_ble_eq_true rfl, ?_⟩
  refine x_aload_n (pc := 0) dX10_weighNow_0 (List.Mem.head _) ?_
  have rd1 := ok.1 20 8
  refine z_getI (pc := 1) (k := 8) (v := H.1 20 8) dX10_weighNow_1 lf_X10_115 sh_20 rfl rfl ?_
  refine z_if_ne (pc := 4) (tgt := 31) dX10_weighNow_4 (by decide) (by omega) (by omega) (fun hb2 => ?_) (fun hb2 => ?_)
  · skip
    refine z_vreturn (pc := 31) dX10_weighNow_31 rfl ok ?_
    first | exact ⟨TrS_cg td (fun _ _ _ _ => rfl) (wI1c (by omega)), by rw [wI1]; decide, fun cc k a b c e => by rw [wIg, if_neg e]; exact ft.1 cc k b (fun z => c ⟨Or.inl z.1, z.2⟩), fun cc k a b c => ft.2 cc k a (by omega) (by omega) (by omega)⟩ | exact ⟨tv (by assumption), by assumption, fun _ _ _ _ _ _ => rfl, fun _ _ _ _ _ => rfl⟩
  · skip
    refine x_aload_n (pc := 7) dX10_weighNow_7 (List.Mem.head _) ?_
    refine z_getR (pc := 8) (k := 7) (r := 113) dX10_weighNow_8 lf_X10_55 sh_20 rfl rf_20_7 ?_
    refine x_aload_n (pc := 11) dX10_weighNow_11 (List.Mem.head _) ?_
    refine z_getR (pc := 12) (k := 6) (r := 104) dX10_weighNow_12 lf_X10_48 sh_20 rfl rf_20_6 ?_
    refine x_aload_n (pc := 15) dX10_weighNow_15 (List.Mem.head _) ?_
    refine z_getR (pc := 16) (k := 3) (r := 98) dX10_weighNow_16 lf_X10_23 sh_20 rfl rf_20_3 ?_
    refine z_getR (pc := 19) (k := 0) (r := 35) dX10_weighNow_19 lf_X10_37 sh_98 rfl rf_98_0 ?_
    refine z_iconst (pc := 22) dX10_weighNow_22 ?_
    refine z_callVv (pc := 23) (i := mX9_weigh) (S := []) [.ref 104, .ref 35, .int (zN ((-1)))] dX10_weighNow_23 ml_X10_236 ok_X9_weigh rfl sh_113 rfl rfl (Nat.le_of_ble_eq_true rfl) (c_X9_weigh (d := d) (t := 113) (s := 35) (q := (H.1 2)) (k := ((-1))) (k1 := (by omega)) (k2 := (by omega)) (ok := ok) (ht := isTr_113) (hs := isSc_35) (ws := ws) (rs := rs) (rl := rl) (wl := wl)) ?_
    intro Hw ok4 hp5
    obtain ⟨td, ft⟩ := hp5
    refine x_aload_n (pc := 26) dX10_weighNow_26 (List.Mem.head _) ?_
    refine z_iconst (pc := 27) dX10_weighNow_27 ?_
    refine z_putZ (pc := 28) (k := 8) dX10_weighNow_28 lp_X10_115 sh_20 rfl (by omega) ?_
    have ok6 := okI ok4 20 8 (v := 1) (by decide) (by decide)
    refine z_vreturn (pc := 31) dX10_weighNow_31 rfl ok6 ?_
    first | exact ⟨TrS_cg td (fun _ _ _ _ => rfl) (wI1c (by omega)), by rw [wI1]; decide, fun cc k a b c e => by rw [wIg, if_neg e]; exact ft.1 cc k b (fun z => c ⟨Or.inl z.1, z.2⟩), fun cc k a b c => ft.2 cc k a (by omega) (by omega) (by omega)⟩ | exact ⟨tv (by assumption), by assumption, fun _ _ _ _ _ _ => rfl, fun _ _ _ _ _ => rfl⟩

theorem c_X10_odds {d : Nat} {H : ZH} (ok : okZ H) {what : Int} (what1 : -2147483648 ≤ what) (what2 : what ≤ 2147483647) (cn : cntOK H 25) (ws : WFS (H.1 2)) (rs : RepSc H 35 (H.1 2)) (rl : RepLw H (H.1 2)) (wl : WFL (H.1 2)) (tv : H.1 20 8 ≠ 0 → TrD H 113 (H.1 2) (-1)) : EvC zX (d + 8) mX10_odds [.ref 20, .int (zN (what))] (eh H) (zPl (fun (r : Int) (H1 : ZH) => ((0 ≤ what ∧ what ≤ 5) ∧ r = (if what = 5 then ((100 : Int) ^ (H.1 2 1).toNat) else (TS (H.1 2) (-1) (-1) (gK what.toNat))) ∧ WnP H H1 (H.1 2)) ∨ (¬ (0 ≤ what ∧ what ≤ 5) ∧ r = -2 ∧ H1 = bumpC 0 H))) := by
  show _ ∧ Ev zX mX10_odds (EvC zX (d + 7)) (zPl (fun (r : Int) (H1 : ZH) => ((0 ≤ what ∧ what ≤ 5) ∧ r = (if what = 5 then ((100 : Int) ^ (H.1 2 1).toNat) else (TS (H.1 2) (-1) (-1) (gK what.toNat))) ∧ WnP H H1 (H.1 2)) ∨ (¬ (0 ≤ what ∧ what ≤ 5) ∧ r = -2 ∧ H1 = bumpC 0 H))) 0 [(0, .ref 20), (1, .int (zN (what)))] [] (eh H)
  refine ⟨Nat.le_of_ble_eq_true rfl, ?_⟩
  have wsx := ws
  obtain ⟨ws0, ws1, wsC, ws34, ws35, ws36, ws37, ws38, ws39⟩ := wsx
  have rsx := rs
  obtain ⟨rs0, rs1, rsC, rs34, rs35, rs36, rs37, rs38, rs39⟩ := rsx
  have pb := p100_bd (n := (H.1 2 1).toNat) (by omega)
  refine x_iload_n (pc := 0) dX10_odds_0 (List.Mem.tail _ (List.Mem.head _)) ?_
  refine z_if_lt (pc := 1) (tgt := 9) dX10_odds_1 (by decide) (by omega) (by omega) (fun hb1 => ?_) (fun hb1 => ?_)
  · skip
    refine x_aload_n (pc := 9) dX10_odds_9 (List.Mem.head _) ?_
    refine z_bipush (pc := 10) dX10_odds_10 bp_m2 ?_
    refine z_callVip (pc := 12) (i := mX10_refuse) (S := []) [.int (zN ((-2)))] dX10_odds_12 ml_X10_97 ok_X10_refuse rfl sh_20 rfl (Or.inl rfl) (Nat.le_of_ble_eq_true rfl) (c_X10_refuse (d := d + 6) (code := ((-2))) (code1 := (by omega)) (code2 := (by omega)) (ok := ok) (cn := (by first | assumption | omega))) (fun r2a r2b ok3 => ?_)
    show Ev _ _ _ _ _ _ _ (eh (wI H 25 ((refIx ((-2)))) (H.1 25 (refIx ((-2))) + 1)))
    refine z_i2l (pc := 15) dX10_odds_15 (by omega) (by omega) ?_
    refine z_lreturn (pc := 16) dX10_odds_16 rfl ok3 (by omega) (by omega) ?_
    exact Or.inr ⟨by omega, rfl, rfl⟩
  · skip
    refine x_iload_n (pc := 4) dX10_odds_4 (List.Mem.tail _ (List.Mem.head _)) ?_
    refine z_iconst (pc := 5) dX10_odds_5 ?_
    refine z_icmp_le (pc := 6) (tgt := 17) dX10_odds_6 (by decide) (by omega) (by omega) (by decide) (by decide) (fun hb4 => ?_) (fun hb4 => ?_)
    · skip
      refine x_aload_n (pc := 17) dX10_odds_17 (List.Mem.head _) ?_
      refine z_callVv (pc := 18) (i := mX10_weighNow) (S := []) [] dX10_odds_18 ml_X10_216 ok_X10_weighNow rfl sh_20 rfl rfl (Nat.le_of_ble_eq_true rfl) (c_X10_weighNow (d := d) (ok := ok) (ws := ws) (rs := rs) (rl := rl) (wl := wl) (tv := tv)) ?_
      intro Hm ok6 hp7
      have wn := hp7
      have td := wn.1
      have tb0 := TS_bd (wo := -1) (wc := -1) ws (gK_ok (H.1 2) 0)
      have tb1 := TS_bd (wo := -1) (wc := -1) ws (gK_ok (H.1 2) 1)
      have tb2 := TS_bd (wo := -1) (wc := -1) ws (gK_ok (H.1 2) 2)
      have tb3 := TS_bd (wo := -1) (wc := -1) ws (gK_ok (H.1 2) 3)
      have tb4 := TS_bd (wo := -1) (wc := -1) ws (gK_ok (H.1 2) 4)
      refine x_iload_n (pc := 21) dX10_odds_21 (List.Mem.tail _ (List.Mem.head _)) ?_
      rcases Int.decEq (what) (0) with hk8_0 | hk8_0
      rotate_left
      · skip
        refine z_tabIn (pc := 22) (0) (tgt := 56) dX10_odds_22 hk8_0 (by omega) (by omega) (by decide) (by decide) rfl (by decide) ?_
        refine x_aload_n (pc := 56) dX10_odds_56 (List.Mem.head _) ?_
        refine z_getR (pc := 57) (k := 7) (r := 113) dX10_odds_57 lf_X10_55 sh_20 rfl rf_20_7 ?_
        refine z_getJ (pc := 60) (k := 1) (v := (TS (H.1 2) (-1) (-1) (gK 0))) dX10_odds_60 lf_X10_219 sh_113 rfl (trd_k td 0 (by omega)) ?_
        refine z_lreturn (pc := 63) dX10_odds_63 rfl ok6 (by omega) (by omega) ?_
        refine Or.inl ⟨by omega, ?_, wn⟩
        rw [show what = 0 by omega, if_neg (by decide)]
        rfl
      rcases Int.decEq (what) (1) with hk8_1 | hk8_1
      rotate_left
      · skip
        refine z_tabIn (pc := 22) (1) (tgt := 64) dX10_odds_22 hk8_1 (by omega) (by omega) (by decide) (by decide) rfl (by decide) ?_
        refine x_aload_n (pc := 64) dX10_odds_64 (List.Mem.head _) ?_
        refine z_getR (pc := 65) (k := 7) (r := 113) dX10_odds_65 lf_X10_55 sh_20 rfl rf_20_7 ?_
        refine z_getJ (pc := 68) (k := 2) (v := (TS (H.1 2) (-1) (-1) (gK 1))) dX10_odds_68 lf_X10_223 sh_113 rfl (trd_k td 1 (by omega)) ?_
        refine z_lreturn (pc := 71) dX10_odds_71 rfl ok6 (by omega) (by omega) ?_
        refine Or.inl ⟨by omega, ?_, wn⟩
        rw [show what = 1 by omega, if_neg (by decide)]
        rfl
      rcases Int.decEq (what) (2) with hk8_2 | hk8_2
      rotate_left
      · skip
        refine z_tabIn (pc := 22) (2) (tgt := 72) dX10_odds_22 hk8_2 (by omega) (by omega) (by decide) (by decide) rfl (by decide) ?_
        refine x_aload_n (pc := 72) dX10_odds_72 (List.Mem.head _) ?_
        refine z_getR (pc := 73) (k := 7) (r := 113) dX10_odds_73 lf_X10_55 sh_20 rfl rf_20_7 ?_
        refine z_getJ (pc := 76) (k := 3) (v := (TS (H.1 2) (-1) (-1) (gK 2))) dX10_odds_76 lf_X10_226 sh_113 rfl (trd_k td 2 (by omega)) ?_
        refine z_lreturn (pc := 79) dX10_odds_79 rfl ok6 (by omega) (by omega) ?_
        refine Or.inl ⟨by omega, ?_, wn⟩
        rw [show what = 2 by omega, if_neg (by decide)]
        rfl
      rcases Int.decEq (what) (3) with hk8_3 | hk8_3
      rotate_left
      · skip
        refine z_tabIn (pc := 22) (3) (tgt := 80) dX10_odds_22 hk8_3 (by omega) (by omega) (by decide) (by decide) rfl (by decide) ?_
        refine x_aload_n (pc := 80) dX10_odds_80 (List.Mem.head _) ?_
        refine z_getR (pc := 81) (k := 7) (r := 113) dX10_odds_81 lf_X10_55 sh_20 rfl rf_20_7 ?_
        refine z_getJ (pc := 84) (k := 4) (v := (TS (H.1 2) (-1) (-1) (gK 3))) dX10_odds_84 lf_X10_229 sh_113 rfl (trd_k td 3 (by omega)) ?_
        refine z_lreturn (pc := 87) dX10_odds_87 rfl ok6 (by omega) (by omega) ?_
        refine Or.inl ⟨by omega, ?_, wn⟩
        rw [show what = 3 by omega, if_neg (by decide)]
        rfl
      rcases Int.decEq (what) (4) with hk8_4 | hk8_4
      rotate_left
      · skip
        refine z_tabIn (pc := 22) (4) (tgt := 88) dX10_odds_22 hk8_4 (by omega) (by omega) (by decide) (by decide) rfl (by decide) ?_
        refine x_aload_n (pc := 88) dX10_odds_88 (List.Mem.head _) ?_
        refine z_getR (pc := 89) (k := 7) (r := 113) dX10_odds_89 lf_X10_55 sh_20 rfl rf_20_7 ?_
        refine z_getJ (pc := 92) (k := 5) (v := (TS (H.1 2) (-1) (-1) (gK 4))) dX10_odds_92 lf_X10_231 sh_113 rfl (trd_k td 4 (by omega)) ?_
        refine z_lreturn (pc := 95) dX10_odds_95 rfl ok6 (by omega) (by omega) ?_
        refine Or.inl ⟨by omega, ?_, wn⟩
        rw [show what = 4 by omega, if_neg (by decide)]
        rfl
      refine z_tabOut (pc := 22) (tgt := 96) dX10_odds_22 (by omega) (by omega) (by omega) (by decide) ?_
      refine x_aload_n (pc := 96) dX10_odds_96 (List.Mem.head _) ?_
      refine z_getR (pc := 97) (k := 7) (r := 113) dX10_odds_97 lf_X10_55 sh_20 rfl rf_20_7 ?_
      refine z_getJ (pc := 100) (k := 0) (v := ((100 : Int) ^ (H.1 2 1).toNat)) dX10_odds_100 lf_X10_233 sh_113 rfl (trd_0 td) ?_
      refine z_lreturn (pc := 103) dX10_odds_103 rfl ok6 (by omega) (by omega) ?_
      refine Or.inl ⟨by omega, ?_, wn⟩
      rw [if_pos (show what = 5 by omega)]
    · skip
      refine x_aload_n (pc := 9) dX10_odds_9 (List.Mem.head _) ?_
      refine z_bipush (pc := 10) dX10_odds_10 bp_m2 ?_
      refine z_callVip (pc := 12) (i := mX10_refuse) (S := []) [.int (zN ((-2)))] dX10_odds_12 ml_X10_97 ok_X10_refuse rfl sh_20 rfl (Or.inl rfl) (Nat.le_of_ble_eq_true rfl) (c_X10_refuse (d := d + 6) (code := ((-2))) (code1 := (by omega)) (code2 := (by omega)) (ok := ok) (cn := (by first | assumption | omega))) (fun r9a r9b ok10 => ?_)
      show Ev _ _ _ _ _ _ _ (eh (wI H 25 ((refIx ((-2)))) (H.1 25 (refIx ((-2))) + 1)))
      refine z_i2l (pc := 15) dX10_odds_15 (by omega) (by omega) ?_
      refine z_lreturn (pc := 16) dX10_odds_16 rfl ok10 (by omega) (by omega) ?_
      exact Or.inr ⟨by omega, rfl, rfl⟩

theorem c_X10_blame {d : Nat} {H : ZH} (ok : okZ H) {c what : Int} (c1 : -2147483648 ≤ c) (c2 : c ≤ 2147483647) (what1 : -2147483648 ≤ what) (what2 : what ≤ 2147483647) (cn : cntOK H 25) (ws : WFS (H.1 2)) (rs : RepSc H 35 (H.1 2)) (rl : RepLw H (H.1 2)) (wl : WFL (H.1 2)) (tv : H.1 20 8 ≠ 0 → TrD H 113 (H.1 2) (-1)) : EvC zX (d + 8) mX10_blame [.ref 20, .int (zN (c)), .int (zN (what))] (eh H) (zPl (fun (r : Int) (H1 : ZH) => (((0 ≤ c ∧ c ≤ H.1 2 1 - 1) ∧ (0 ≤ what ∧ what ≤ 1)) ∧ r = (if what = 0 then (TS (H.1 2) (-1) (-1) (gB c.toNat)) else (TS (H.1 2) (-1) (-1) (gS c.toNat))) ∧ WnP H H1 (H.1 2)) ∨ (¬ ((0 ≤ c ∧ c ≤ H.1 2 1 - 1) ∧ (0 ≤ what ∧ what ≤ 1)) ∧ r = -2 ∧ H1 = bumpC 0 H))) := by
  show _ ∧ Ev zX mX10_blame (EvC zX (d + 7)) (zPl (fun (r : Int) (H1 : ZH) => (((0 ≤ c ∧ c ≤ H.1 2 1 - 1) ∧ (0 ≤ what ∧ what ≤ 1)) ∧ r = (if what = 0 then (TS (H.1 2) (-1) (-1) (gB c.toNat)) else (TS (H.1 2) (-1) (-1) (gS c.toNat))) ∧ WnP H H1 (H.1 2)) ∨ (¬ ((0 ≤ c ∧ c ≤ H.1 2 1 - 1) ∧ (0 ≤ what ∧ what ≤ 1)) ∧ r = -2 ∧ H1 = bumpC 0 H))) 0 [(0, .ref 20), (1, .int (zN (c))), (2, .int (zN (what)))] [] (eh H)
  refine ⟨Nat.le_of_ble_eq_true rfl, ?_⟩
  have wsx := ws
  obtain ⟨ws0, ws1, wsC, ws34, ws35, ws36, ws37, ws38, ws39⟩ := wsx
  have rsx := rs
  obtain ⟨rs0, rs1, rsC, rs34, rs35, rs36, rs37, rs38, rs39⟩ := rsx
  have pb := p100_bd (n := (H.1 2 1).toNat) (by omega)
  refine x_aload_n (pc := 0) dX10_blame_0 (List.Mem.head _) ?_
  refine x_iload_n (pc := 1) dX10_blame_1 (List.Mem.tail _ (List.Mem.head _)) ?_
  refine z_callVbp (pc := 2) (i := mX10_isCar) (S := []) [.int (zN (c))] dX10_blame_2 ml_X10_137 ok_X10_isCar rfl sh_20 rfl (Or.inr rfl) (Nat.le_of_ble_eq_true rfl) (c_X10_isCar (d := d + 6) (a := c) (a1 := (by omega)) (a2 := (by omega)) (ok := ok) (ws := (by first | assumption | omega)) (rs := (by first | assumption | omega))) (fun hc3 ok2 => ?_) (fun hc3 ok2 => ?_)
  · skip
    refine z_if_eq (pc := 5) (tgt := 17) dX10_blame_5 (by decide) (by decide) (by decide) (fun h => absurd h (by decide)) (fun _ => ?_)
    refine x_iload_n (pc := 8) dX10_blame_8 (List.Mem.tail _ (List.Mem.tail _ (List.Mem.head _))) ?_
    refine z_if_lt (pc := 9) (tgt := 17) dX10_blame_9 (by decide) (by omega) (by omega) (fun hb5 => ?_) (fun hb5 => ?_)
    · skip
      refine x_aload_n (pc := 17) dX10_blame_17 (List.Mem.head _) ?_
      refine z_bipush (pc := 18) dX10_blame_18 bp_m2 ?_
      refine z_callVip (pc := 20) (i := mX10_refuse) (S := []) [.int (zN ((-2)))] dX10_blame_20 ml_X10_97 ok_X10_refuse rfl sh_20 rfl (Or.inl rfl) (Nat.le_of_ble_eq_true rfl) (c_X10_refuse (d := d + 6) (code := ((-2))) (code1 := (by omega)) (code2 := (by omega)) (ok := ok2) (cn := (by first | assumption | omega))) (fun r6a r6b ok7 => ?_)
      show Ev _ _ _ _ _ _ _ (eh (wI H 25 ((refIx ((-2)))) (H.1 25 (refIx ((-2))) + 1)))
      refine z_i2l (pc := 23) dX10_blame_23 (by omega) (by omega) ?_
      refine z_lreturn (pc := 24) dX10_blame_24 rfl ok7 (by omega) (by omega) ?_
      exact Or.inr ⟨by omega, rfl, rfl⟩
    · skip
      refine x_iload_n (pc := 12) dX10_blame_12 (List.Mem.tail _ (List.Mem.tail _ (List.Mem.head _))) ?_
      refine z_iconst (pc := 13) dX10_blame_13 ?_
      refine z_icmp_le (pc := 14) (tgt := 25) dX10_blame_14 (by decide) (by omega) (by omega) (by decide) (by decide) (fun hb8 => ?_) (fun hb8 => ?_)
      · skip
        refine x_aload_n (pc := 25) dX10_blame_25 (List.Mem.head _) ?_
        refine z_callVv (pc := 26) (i := mX10_weighNow) (S := []) [] dX10_blame_26 ml_X10_216 ok_X10_weighNow rfl sh_20 rfl rfl (Nat.le_of_ble_eq_true rfl) (c_X10_weighNow (d := d) (ok := ok2) (ws := ws) (rs := rs) (rl := rl) (wl := wl) (tv := tv)) ?_
        intro Hm ok10 hp11
        have wn := hp11
        have td := wn.1
        have tb := TS_bd (wo := -1) (wc := -1) ws (gB_ok (H.1 2) c.toNat)
        have tb2 := TS_bd (wo := -1) (wc := -1) ws (gS_ok (H.1 2) c.toNat)
        refine x_iload_n (pc := 29) dX10_blame_29 (List.Mem.tail _ (List.Mem.tail _ (List.Mem.head _))) ?_
        refine z_if_ne (pc := 30) (tgt := 45) dX10_blame_30 (by decide) (by omega) (by omega) (fun hb12 => ?_) (fun hb12 => ?_)
        · skip
          refine x_aload_n (pc := 45) dX10_blame_45 (List.Mem.head _) ?_
          refine z_getR (pc := 46) (k := 7) (r := 113) dX10_blame_46 lf_X10_55 sh_20 rfl rf_20_7 ?_
          refine z_getR (pc := 49) (k := 8) (r := 115) dX10_blame_49 lf_X10_267 sh_113 rfl rf_113_8 ?_
          refine x_iload_n (pc := 52) dX10_blame_52 (List.Mem.tail _ (List.Mem.head _)) ?_
          refine z_lald (pc := 53) (j := c.toNat) (v := (TS (H.1 2) (-1) (-1) (gS c.toNat))) dX10_blame_53 sh_115 (by omega) (by omega) (by decide) (trd_s td c.toNat (by omega)) ?_
          refine z_lreturn (pc := 54) dX10_blame_54 rfl ok10 (by omega) (by omega) ?_
          first | (rw [if_pos (show what = 0 by omega)]; exact Or.inl ⟨by omega, rfl, wn⟩) | (rw [if_neg (show ¬ what = 0 by omega)]; exact Or.inl ⟨by omega, rfl, wn⟩)
        · skip
          refine x_aload_n (pc := 33) dX10_blame_33 (List.Mem.head _) ?_
          refine z_getR (pc := 34) (k := 7) (r := 113) dX10_blame_34 lf_X10_55 sh_20 rfl rf_20_7 ?_
          refine z_getR (pc := 37) (k := 7) (r := 114) dX10_blame_37 lf_X10_264 sh_113 rfl rf_113_7 ?_
          refine x_iload_n (pc := 40) dX10_blame_40 (List.Mem.tail _ (List.Mem.head _)) ?_
          refine z_lald (pc := 41) (j := c.toNat) (v := (TS (H.1 2) (-1) (-1) (gB c.toNat))) dX10_blame_41 sh_114 (by omega) (by omega) (by decide) (trd_b td c.toNat (by omega)) ?_
          refine x_goto (pc := 42) (tgt := 54) dX10_blame_42 (by decide) ?_
          refine z_lreturn (pc := 54) dX10_blame_54 rfl ok10 (by omega) (by omega) ?_
          first | (rw [if_pos (show what = 0 by omega)]; exact Or.inl ⟨by omega, rfl, wn⟩) | (rw [if_neg (show ¬ what = 0 by omega)]; exact Or.inl ⟨by omega, rfl, wn⟩)
      · skip
        refine x_aload_n (pc := 17) dX10_blame_17 (List.Mem.head _) ?_
        refine z_bipush (pc := 18) dX10_blame_18 bp_m2 ?_
        refine z_callVip (pc := 20) (i := mX10_refuse) (S := []) [.int (zN ((-2)))] dX10_blame_20 ml_X10_97 ok_X10_refuse rfl sh_20 rfl (Or.inl rfl) (Nat.le_of_ble_eq_true rfl) (c_X10_refuse (d := d + 6) (code := ((-2))) (code1 := (by omega)) (code2 := (by omega)) (ok := ok2) (cn := (by first | assumption | omega))) (fun r13a r13b ok14 => ?_)
        show Ev _ _ _ _ _ _ _ (eh (wI H 25 ((refIx ((-2)))) (H.1 25 (refIx ((-2))) + 1)))
        refine z_i2l (pc := 23) dX10_blame_23 (by omega) (by omega) ?_
        refine z_lreturn (pc := 24) dX10_blame_24 rfl ok14 (by omega) (by omega) ?_
        exact Or.inr ⟨by omega, rfl, rfl⟩
  · skip
    refine z_if_eq (pc := 5) (tgt := 17) dX10_blame_5 (by decide) (by decide) (by decide) (fun _ => ?_) (fun h => absurd h (by decide))
    refine x_aload_n (pc := 17) dX10_blame_17 (List.Mem.head _) ?_
    refine z_bipush (pc := 18) dX10_blame_18 bp_m2 ?_
    refine z_callVip (pc := 20) (i := mX10_refuse) (S := []) [.int (zN ((-2)))] dX10_blame_20 ml_X10_97 ok_X10_refuse rfl sh_20 rfl (Or.inl rfl) (Nat.le_of_ble_eq_true rfl) (c_X10_refuse (d := d + 6) (code := ((-2))) (code1 := (by omega)) (code2 := (by omega)) (ok := ok2) (cn := (by first | assumption | omega))) (fun r16a r16b ok17 => ?_)
    show Ev _ _ _ _ _ _ _ (eh (wI H 25 ((refIx ((-2)))) (H.1 25 (refIx ((-2))) + 1)))
    refine z_i2l (pc := 23) dX10_blame_23 (by omega) (by omega) ?_
    refine z_lreturn (pc := 24) dX10_blame_24 rfl ok17 (by omega) (by omega) ?_
    exact Or.inr ⟨by omega, rfl, rfl⟩

theorem c_X10_mean {d : Nat} {H : ZH} (ok : okZ H) {what : Int} (what1 : -2147483648 ≤ what) (what2 : what ≤ 2147483647) (cn : cntOK H 25) (ws : WFS (H.1 2)) (rs : RepSc H 35 (H.1 2)) (rl : RepLw H (H.1 2)) (wl : WFL (H.1 2)) (tv : H.1 20 8 ≠ 0 → TrD H 113 (H.1 2) (-1)) : EvC zX (d + 8) mX10_mean [.ref 20, .int (zN (what))] (eh H) (zPl (fun (r : Int) (H1 : ZH) => ((0 ≤ what ∧ what ≤ 1) ∧ r = ((if what = 0 then (TS (H.1 2) (-1) (-1) (gK 3)) else ((100 : Int) ^ (H.1 2 1).toNat)) / ((Int.gcd (TS (H.1 2) (-1) (-1) (gK 3)) ((100 : Int) ^ (H.1 2 1).toNat) : Nat) : Int)) ∧ WnP H H1 (H.1 2)) ∨ (¬ (0 ≤ what ∧ what ≤ 1) ∧ r = -2 ∧ H1 = bumpC 0 H))) := by
  show _ ∧ Ev zX mX10_mean (EvC zX (d + 7)) (zPl (fun (r : Int) (H1 : ZH) => ((0 ≤ what ∧ what ≤ 1) ∧ r = ((if what = 0 then (TS (H.1 2) (-1) (-1) (gK 3)) else ((100 : Int) ^ (H.1 2 1).toNat)) / ((Int.gcd (TS (H.1 2) (-1) (-1) (gK 3)) ((100 : Int) ^ (H.1 2 1).toNat) : Nat) : Int)) ∧ WnP H H1 (H.1 2)) ∨ (¬ (0 ≤ what ∧ what ≤ 1) ∧ r = -2 ∧ H1 = bumpC 0 H))) 0 [(0, .ref 20), (1, .int (zN (what)))] [] (eh H)
  refine ⟨Nat.le_of_ble_eq_true rfl, ?_⟩
  have wsx := ws
  obtain ⟨ws0, ws1, wsC, ws34, ws35, ws36, ws37, ws38, ws39⟩ := wsx
  have rsx := rs
  obtain ⟨rs0, rs1, rsC, rs34, rs35, rs36, rs37, rs38, rs39⟩ := rsx
  have pb := p100_bd (n := (H.1 2 1).toNat) (by omega)
  refine x_iload_n (pc := 0) dX10_mean_0 (List.Mem.tail _ (List.Mem.head _)) ?_
  refine z_if_lt (pc := 1) (tgt := 9) dX10_mean_1 (by decide) (by omega) (by omega) (fun hb1 => ?_) (fun hb1 => ?_)
  · skip
    refine x_aload_n (pc := 9) dX10_mean_9 (List.Mem.head _) ?_
    refine z_bipush (pc := 10) dX10_mean_10 bp_m2 ?_
    refine z_callVip (pc := 12) (i := mX10_refuse) (S := []) [.int (zN ((-2)))] dX10_mean_12 ml_X10_97 ok_X10_refuse rfl sh_20 rfl (Or.inl rfl) (Nat.le_of_ble_eq_true rfl) (c_X10_refuse (d := d + 6) (code := ((-2))) (code1 := (by omega)) (code2 := (by omega)) (ok := ok) (cn := (by first | assumption | omega))) (fun r2a r2b ok3 => ?_)
    show Ev _ _ _ _ _ _ _ (eh (wI H 25 ((refIx ((-2)))) (H.1 25 (refIx ((-2))) + 1)))
    refine z_i2l (pc := 15) dX10_mean_15 (by omega) (by omega) ?_
    refine z_lreturn (pc := 16) dX10_mean_16 rfl ok3 (by omega) (by omega) ?_
    exact Or.inr ⟨by omega, rfl, rfl⟩
  · skip
    refine x_iload_n (pc := 4) dX10_mean_4 (List.Mem.tail _ (List.Mem.head _)) ?_
    refine z_iconst (pc := 5) dX10_mean_5 ?_
    refine z_icmp_le (pc := 6) (tgt := 17) dX10_mean_6 (by decide) (by omega) (by omega) (by decide) (by decide) (fun hb4 => ?_) (fun hb4 => ?_)
    · skip
      refine x_aload_n (pc := 17) dX10_mean_17 (List.Mem.head _) ?_
      refine z_callVv (pc := 18) (i := mX10_weighNow) (S := []) [] dX10_mean_18 ml_X10_216 ok_X10_weighNow rfl sh_20 rfl rfl (Nat.le_of_ble_eq_true rfl) (c_X10_weighNow (d := d) (ok := ok) (ws := ws) (rs := rs) (rl := rl) (wl := wl) (tv := tv)) ?_
      intro Hm ok6 hp7
      have wn := hp7
      have td := wn.1
      have tb := TS_bd (wo := -1) (wc := -1) ws (gK_ok (H.1 2) 3)
      have gp : 0 < ((Int.gcd (TS (H.1 2) (-1) (-1) (gK 3)) ((100 : Int) ^ (H.1 2 1).toNat) : Nat) : Int) := by exact_mod_cast Int.gcd_pos_of_ne_zero_right _ (show (100 : Int) ^ (H.1 2 1).toNat ≠ 0 by omega)
      have gl : ((Int.gcd (TS (H.1 2) (-1) (-1) (gK 3)) ((100 : Int) ^ (H.1 2 1).toNat) : Nat) : Int) ≤ ((100 : Int) ^ (H.1 2 1).toNat) := Int.le_of_dvd (by omega) (Int.gcd_dvd_right ..)
      have dq1 : 0 ≤ (TS (H.1 2) (-1) (-1) (gK 3)) / ((Int.gcd (TS (H.1 2) (-1) (-1) (gK 3)) ((100 : Int) ^ (H.1 2 1).toNat) : Nat) : Int) ∧ (TS (H.1 2) (-1) (-1) (gK 3)) / ((Int.gcd (TS (H.1 2) (-1) (-1) (gK 3)) ((100 : Int) ^ (H.1 2 1).toNat) : Nat) : Int) ≤ (TS (H.1 2) (-1) (-1) (gK 3)) := ⟨Int.ediv_nonneg (by omega) (by omega), Int.ediv_le_self _ (by omega)⟩
      have dq2 : 0 ≤ ((100 : Int) ^ (H.1 2 1).toNat) / ((Int.gcd (TS (H.1 2) (-1) (-1) (gK 3)) ((100 : Int) ^ (H.1 2 1).toNat) : Nat) : Int) ∧ ((100 : Int) ^ (H.1 2 1).toNat) / ((Int.gcd (TS (H.1 2) (-1) (-1) (gK 3)) ((100 : Int) ^ (H.1 2 1).toNat) : Nat) : Int) ≤ ((100 : Int) ^ (H.1 2 1).toNat) := ⟨Int.ediv_nonneg (by omega) (by omega), Int.ediv_le_self _ (by omega)⟩
      refine x_aload_n (pc := 21) dX10_mean_21 (List.Mem.head _) ?_
      refine z_getR (pc := 22) (k := 7) (r := 113) dX10_mean_22 lf_X10_55 sh_20 rfl rf_20_7 ?_
      refine z_getJ (pc := 25) (k := 4) (v := (TS (H.1 2) (-1) (-1) (gK 3))) dX10_mean_25 lf_X10_229 sh_113 rfl (trd_k td 3 (by omega)) ?_
      refine x_aload_n (pc := 28) dX10_mean_28 (List.Mem.head _) ?_
      refine z_getR (pc := 29) (k := 7) (r := 113) dX10_mean_29 lf_X10_55 sh_20 rfl rf_20_7 ?_
      refine z_getJ (pc := 32) (k := 0) (v := ((100 : Int) ^ (H.1 2 1).toNat)) dX10_mean_32 lf_X10_233 sh_113 rfl (trd_0 td) ?_
      refine z_callSlp (pc := 35) (i := mX10_commonDivisor) (S := []) [.long (zL (((TS (H.1 2) (-1) (-1) (gK 3))))), .long (zL ((((100 : Int) ^ (H.1 2 1).toNat))))] dX10_mean_35 ml_X10_269 ok_X10_commonDivisor rfl rfl (Nat.le_of_ble_eq_true rfl) (c_X10_commonDivisor (d := d + 6) (a := (((TS (H.1 2) (-1) (-1) (gK 3))))) (b := ((((100 : Int) ^ (H.1 2 1).toNat)))) (a1 := (by omega)) (a2 := (by omega)) (b1 := (by omega)) (b2 := (by omega)) (ok := ok6)) (fun r8a r8b ok9 => ?_)
      refine x_lstore_n (pc := 38) dX10_mean_38 (Nat.le_of_ble_eq_true rfl) ?_
      show Ev _ _ _ _ _ [(2, .long (zL ((((Int.gcd (((TS (H.1 2) (-1) (-1) (gK 3)))) ((((100 : Int) ^ (H.1 2 1).toNat))) : Nat) : Int))))), (0, .ref 20), (1, .int (zN (what)))] _ _
      refine x_iload_n (pc := 39) dX10_mean_39 (List.Mem.tail _ (List.Mem.tail _ (List.Mem.head _))) ?_
      refine z_if_ne (pc := 40) (tgt := 53) dX10_mean_40 (by decide) (by omega) (by omega) (fun hb10 => ?_) (fun hb10 => ?_)
      · skip
        refine x_aload_n (pc := 53) dX10_mean_53 (List.Mem.tail _ (List.Mem.head _)) ?_
        refine z_getR (pc := 54) (k := 7) (r := 113) dX10_mean_54 lf_X10_55 sh_20 rfl rf_20_7 ?_
        refine z_getJ (pc := 57) (k := 0) (v := ((100 : Int) ^ (H.1 2 1).toNat)) dX10_mean_57 lf_X10_233 sh_113 rfl (trd_0 td) ?_
        refine x_lload_n (pc := 60) dX10_mean_60 (List.Mem.head _) ?_
        refine z_ldivP (pc := 61) dX10_mean_61 (by omega) (by omega) (by omega) (by omega) ?_
        refine z_lreturn (pc := 62) dX10_mean_62 rfl ok9 (by omega) (by omega) ?_
        first | (rw [if_pos (show what = 0 by omega)]; exact Or.inl ⟨by omega, rfl, wn⟩) | (rw [if_neg (show ¬ what = 0 by omega)]; exact Or.inl ⟨by omega, rfl, wn⟩)
      · skip
        refine x_aload_n (pc := 43) dX10_mean_43 (List.Mem.tail _ (List.Mem.head _)) ?_
        refine z_getR (pc := 44) (k := 7) (r := 113) dX10_mean_44 lf_X10_55 sh_20 rfl rf_20_7 ?_
        refine z_getJ (pc := 47) (k := 4) (v := (TS (H.1 2) (-1) (-1) (gK 3))) dX10_mean_47 lf_X10_229 sh_113 rfl (trd_k td 3 (by omega)) ?_
        refine x_goto (pc := 50) (tgt := 60) dX10_mean_50 (by decide) ?_
        refine x_lload_n (pc := 60) dX10_mean_60 (List.Mem.head _) ?_
        refine z_ldivP (pc := 61) dX10_mean_61 (by omega) (by omega) (by omega) (by omega) ?_
        refine z_lreturn (pc := 62) dX10_mean_62 rfl ok9 (by omega) (by omega) ?_
        first | (rw [if_pos (show what = 0 by omega)]; exact Or.inl ⟨by omega, rfl, wn⟩) | (rw [if_neg (show ¬ what = 0 by omega)]; exact Or.inl ⟨by omega, rfl, wn⟩)
    · skip
      refine x_aload_n (pc := 9) dX10_mean_9 (List.Mem.head _) ?_
      refine z_bipush (pc := 10) dX10_mean_10 bp_m2 ?_
      refine z_callVip (pc := 12) (i := mX10_refuse) (S := []) [.int (zN ((-2)))] dX10_mean_12 ml_X10_97 ok_X10_refuse rfl sh_20 rfl (Or.inl rfl) (Nat.le_of_ble_eq_true rfl) (c_X10_refuse (d := d + 6) (code := ((-2))) (code1 := (by omega)) (code2 := (by omega)) (ok := ok) (cn := (by first | assumption | omega))) (fun r11a r11b ok12 => ?_)
      show Ev _ _ _ _ _ _ _ (eh (wI H 25 ((refIx ((-2)))) (H.1 25 (refIx ((-2))) + 1)))
      refine z_i2l (pc := 15) dX10_mean_15 (by omega) (by omega) ?_
      refine z_lreturn (pc := 16) dX10_mean_16 rfl ok12 (by omega) (by omega) ?_
      exact Or.inr ⟨by omega, rfl, rfl⟩

theorem c_X10_repeals {d : Nat} {H : ZH} (ok : okZ H) {k : Int} (k1 : -2147483648 ≤ k) (k2 : k ≤ 2147483647) (cn : cntOK H 25) (ws : WFS (H.1 2)) (rs : RepSc H 35 (H.1 2)) (rl : RepLw H (H.1 2)) (wl : WFL (H.1 2)) (tv : H.1 20 8 ≠ 0 → TrD H 113 (H.1 2) (-1)) : EvC zX (d + 8) mX10_repeals [.ref 20, .int (zN (k))] (eh H) (zPl (fun (r : Int) (H1 : ZH) => ((0 ≤ k ∧ k ≤ H.1 2 40 - 1) ∧ r = ((TS (H.1 2) k (-1) (gK 0)) - (TS (H.1 2) (-1) (-1) (gK 0))) ∧ WnP H H1 (H.1 2)) ∨ (¬ (0 ≤ k ∧ k ≤ H.1 2 40 - 1) ∧ r = -2 ∧ H1 = bumpC 0 H))) := by
  show _ ∧ Ev zX mX10_repeals (EvC zX (d + 7)) (zPl (fun (r : Int) (H1 : ZH) => ((0 ≤ k ∧ k ≤ H.1 2 40 - 1) ∧ r = ((TS (H.1 2) k (-1) (gK 0)) - (TS (H.1 2) (-1) (-1) (gK 0))) ∧ WnP H H1 (H.1 2)) ∨ (¬ (0 ≤ k ∧ k ≤ H.1 2 40 - 1) ∧ r = -2 ∧ H1 = bumpC 0 H))) 0 [(0, .ref 20), (1, .int (zN (k)))] [] (eh H)
  refine ⟨Nat.le_of_ble_eq_true rfl, ?_⟩
  have wsx := ws
  obtain ⟨ws0, ws1, wsC, ws34, ws35, ws36, ws37, ws38, ws39⟩ := wsx
  have rsx := rs
  obtain ⟨rs0, rs1, rsC, rs34, rs35, rs36, rs37, rs38, rs39⟩ := rsx
  have pb := p100_bd (n := (H.1 2 1).toNat) (by omega)
  have rl0 := rl.1
  have wl40 := wl.1
  refine x_iload_n (pc := 0) dX10_repeals_0 (List.Mem.tail _ (List.Mem.head _)) ?_
  refine z_if_lt (pc := 1) (tgt := 18) dX10_repeals_1 (by decide) (by omega) (by omega) (fun hb1 => ?_) (fun hb1 => ?_)
  · skip
    refine x_aload_n (pc := 18) dX10_repeals_18 (List.Mem.head _) ?_
    refine z_bipush (pc := 19) dX10_repeals_19 bp_m2 ?_
    refine z_callVip (pc := 21) (i := mX10_refuse) (S := []) [.int (zN ((-2)))] dX10_repeals_21 ml_X10_97 ok_X10_refuse rfl sh_20 rfl (Or.inl rfl) (Nat.le_of_ble_eq_true rfl) (c_X10_refuse (d := d + 6) (code := ((-2))) (code1 := (by omega)) (code2 := (by omega)) (ok := ok) (cn := (by first | assumption | omega))) (fun r2a r2b ok3 => ?_)
    show Ev _ _ _ _ _ _ _ (eh (wI H 25 ((refIx ((-2)))) (H.1 25 (refIx ((-2))) + 1)))
    refine z_i2l (pc := 24) dX10_repeals_24 (by omega) (by omega) ?_
    refine z_lreturn (pc := 25) dX10_repeals_25 rfl ok3 (by omega) (by omega) ?_
    exact Or.inr ⟨by omega, rfl, rfl⟩
  · skip
    refine x_iload_n (pc := 4) dX10_repeals_4 (List.Mem.tail _ (List.Mem.head _)) ?_
    refine x_aload_n (pc := 5) dX10_repeals_5 (List.Mem.head _) ?_
    refine z_getR (pc := 6) (k := 3) (r := 98) dX10_repeals_6 lf_X10_23 sh_20 rfl rf_20_3 ?_
    refine z_getR (pc := 9) (k := 1) (r := 59) dX10_repeals_9 lf_X10_41 sh_98 rfl rf_98_1 ?_
    refine z_getI (pc := 12) (k := 0) (v := (H.1 2 40)) dX10_repeals_12 lf_X10_133 sh_59 rfl (by rw [rl0]) ?_
    refine z_icmp_lt (pc := 15) (tgt := 26) dX10_repeals_15 (by decide) (by omega) (by omega) (by omega) (by omega) (fun hb4 => ?_) (fun hb4 => ?_)
    · skip
      refine x_aload_n (pc := 26) dX10_repeals_26 (List.Mem.head _) ?_
      refine z_callVv (pc := 27) (i := mX10_weighNow) (S := []) [] dX10_repeals_27 ml_X10_216 ok_X10_weighNow rfl sh_20 rfl rfl (Nat.le_of_ble_eq_true rfl) (c_X10_weighNow (d := d) (ok := ok) (ws := ws) (rs := rs) (rl := rl) (wl := wl) (tv := tv)) ?_
      intro Hm ok6 hp7
      have wn := hp7
      have td := wn.1
      have tb := TS_bd (wo := -1) (wc := -1) ws (gK_ok (H.1 2) 0)
      refine x_aload_n (pc := 30) dX10_repeals_30 (List.Mem.head _) ?_
      refine z_getR (pc := 31) (k := 10) (r := 116) dX10_repeals_31 lf_X10_65 sh_20 rfl rf_20_10 ?_
      refine x_aload_n (pc := 34) dX10_repeals_34 (List.Mem.head _) ?_
      refine z_getR (pc := 35) (k := 6) (r := 104) dX10_repeals_35 lf_X10_48 sh_20 rfl rf_20_6 ?_
      refine x_aload_n (pc := 38) dX10_repeals_38 (List.Mem.head _) ?_
      refine z_getR (pc := 39) (k := 3) (r := 98) dX10_repeals_39 lf_X10_23 sh_20 rfl rf_20_3 ?_
      refine z_getR (pc := 42) (k := 0) (r := 35) dX10_repeals_42 lf_X10_37 sh_98 rfl rf_98_0 ?_
      refine x_iload_n (pc := 45) dX10_repeals_45 (List.Mem.tail _ (List.Mem.head _)) ?_
      refine z_callVv (pc := 46) (i := mX9_weigh) (S := []) [.ref 104, .ref 35, .int (zN (k))] dX10_repeals_46 ml_X10_236 ok_X9_weigh rfl sh_116 rfl rfl (Nat.le_of_ble_eq_true rfl) (c_X9_weigh (d := d + 1) (t := 116) (s := 35) (q := (H.1 2)) (k := k) (k1 := (by omega)) (k2 := (by omega)) (ok := ok6) (ht := isTr_116) (hs := isSc_35) (ws := ws) (rs := (wn_sc wn.2.2 rs rl).1) (rl := (wn_sc wn.2.2 rs rl).2) (wl := wl)) ?_
      intro Hw ok9 hp10
      obtain ⟨td2, ft⟩ := hp10
      have fp := FrP_tr116 ft
      have tb2 := TS_bd (wo := k) (wc := -1) ws (gK_ok (H.1 2) 0)
      have wn2 : WnP H Hw (H.1 2) := ⟨trd_P fp td, by rw [fp.1 20 8 (by omega) (by omega) (by omega)]; exact wn.2.1, FrO_P wn.2.2 fp⟩
      refine x_aload_n (pc := 49) dX10_repeals_49 (List.Mem.head _) ?_
      refine z_getR (pc := 50) (k := 10) (r := 116) dX10_repeals_50 lf_X10_65 sh_20 rfl rf_20_10 ?_
      refine z_getJ (pc := 53) (k := 1) (v := (TS (H.1 2) k (-1) (gK 0))) dX10_repeals_53 lf_X10_219 sh_116 rfl (trd_k td2 0 (by omega)) ?_
      refine x_aload_n (pc := 56) dX10_repeals_56 (List.Mem.head _) ?_
      refine z_getR (pc := 57) (k := 7) (r := 113) dX10_repeals_57 lf_X10_55 sh_20 rfl rf_20_7 ?_
      refine z_getJ (pc := 60) (k := 1) (v := (TS (H.1 2) (-1) (-1) (gK 0))) dX10_repeals_60 lf_X10_219 sh_113 rfl (trd_k wn2.1 0 (by omega)) ?_
      refine z_lsub (pc := 63) dX10_repeals_63 ?_
      refine z_lreturn (pc := 64) dX10_repeals_64 rfl ok9 (by omega) (by omega) ?_
      exact Or.inl ⟨by omega, rfl, wn2⟩
    · skip
      refine x_aload_n (pc := 18) dX10_repeals_18 (List.Mem.head _) ?_
      refine z_bipush (pc := 19) dX10_repeals_19 bp_m2 ?_
      refine z_callVip (pc := 21) (i := mX10_refuse) (S := []) [.int (zN ((-2)))] dX10_repeals_21 ml_X10_97 ok_X10_refuse rfl sh_20 rfl (Or.inl rfl) (Nat.le_of_ble_eq_true rfl) (c_X10_refuse (d := d + 6) (code := ((-2))) (code1 := (by omega)) (code2 := (by omega)) (ok := ok) (cn := (by first | assumption | omega))) (fun r11a r11b ok12 => ?_)
      show Ev _ _ _ _ _ _ _ (eh (wI H 25 ((refIx ((-2)))) (H.1 25 (refIx ((-2))) + 1)))
      refine z_i2l (pc := 24) dX10_repeals_24 (by omega) (by omega) ?_
      refine z_lreturn (pc := 25) dX10_repeals_25 rfl ok12 (by omega) (by omega) ?_
      exact Or.inr ⟨by omega, rfl, rfl⟩

theorem c_X10_helps {d : Nat} {H : ZH} (ok : okZ H) {a : Int} (a1 : -2147483648 ≤ a) (a2 : a ≤ 2147483647) (cn : cntOK H 25) (ws : WFS (H.1 2)) (rs : RepSc H 35 (H.1 2)) (rl : RepLw H (H.1 2)) (wl : WFL (H.1 2)) (tv : H.1 20 8 ≠ 0 → TrD H 113 (H.1 2) (-1)) : EvC zX (d + 8) mX10_helps [.ref 20, .int (zN (a))] (eh H) (zPl (fun (r : Int) (H1 : ZH) => ((0 ≤ a ∧ a ≤ 7) ∧ r = ((TS (tr2 (H.1 2) (2 ^ a.toNat)) (-1) (-1) (gK 0)) - (TS (H.1 2) (-1) (-1) (gK 0))) ∧ WnP H H1 (H.1 2)) ∨ (¬ (0 ≤ a ∧ a ≤ 7) ∧ r = -2 ∧ H1 = bumpC 0 H))) := by
  show _ ∧ Ev zX mX10_helps (EvC zX (d + 7)) (zPl (fun (r : Int) (H1 : ZH) => ((0 ≤ a ∧ a ≤ 7) ∧ r = ((TS (tr2 (H.1 2) (2 ^ a.toNat)) (-1) (-1) (gK 0)) - (TS (H.1 2) (-1) (-1) (gK 0))) ∧ WnP H H1 (H.1 2)) ∨ (¬ (0 ≤ a ∧ a ≤ 7) ∧ r = -2 ∧ H1 = bumpC 0 H))) 0 [(0, .ref 20), (1, .int (zN (a)))] [] (eh H)
  refine ⟨Nat.le_of_ble_eq_true rfl, ?_⟩
  have wsx := ws
  obtain ⟨ws0, ws1, wsC, ws34, ws35, ws36, ws37, ws38, ws39⟩ := wsx
  have rsx := rs
  obtain ⟨rs0, rs1, rsC, rs34, rs35, rs36, rs37, rs38, rs39⟩ := rsx
  have pb := p100_bd (n := (H.1 2 1).toNat) (by omega)
  refine x_iload_n (pc := 0) dX10_helps_0 (List.Mem.tail _ (List.Mem.head _)) ?_
  refine z_if_lt (pc := 1) (tgt := 10) dX10_helps_1 (by decide) (by omega) (by omega) (fun hb1 => ?_) (fun hb1 => ?_)
  · skip
    refine x_aload_n (pc := 10) dX10_helps_10 (List.Mem.head _) ?_
    refine z_bipush (pc := 11) dX10_helps_11 bp_m2 ?_
    refine z_callVip (pc := 13) (i := mX10_refuse) (S := []) [.int (zN ((-2)))] dX10_helps_13 ml_X10_97 ok_X10_refuse rfl sh_20 rfl (Or.inl rfl) (Nat.le_of_ble_eq_true rfl) (c_X10_refuse (d := d + 6) (code := ((-2))) (code1 := (by omega)) (code2 := (by omega)) (ok := ok) (cn := (by first | assumption | omega))) (fun r2a r2b ok3 => ?_)
    show Ev _ _ _ _ _ _ _ (eh (wI H 25 ((refIx ((-2)))) (H.1 25 (refIx ((-2))) + 1)))
    refine z_i2l (pc := 16) dX10_helps_16 (by omega) (by omega) ?_
    refine z_lreturn (pc := 17) dX10_helps_17 rfl ok3 (by omega) (by omega) ?_
    exact Or.inr ⟨by omega, rfl, rfl⟩
  · skip
    refine x_iload_n (pc := 4) dX10_helps_4 (List.Mem.tail _ (List.Mem.head _)) ?_
    refine z_bipush (pc := 5) dX10_helps_5 bp_8 ?_
    refine z_icmp_lt (pc := 7) (tgt := 18) dX10_helps_7 (by decide) (by omega) (by omega) (by decide) (by decide) (fun hb4 => ?_) (fun hb4 => ?_)
    · skip
      refine x_aload_n (pc := 18) dX10_helps_18 (List.Mem.head _) ?_
      refine z_callVv (pc := 19) (i := mX10_weighNow) (S := []) [] dX10_helps_19 ml_X10_216 ok_X10_weighNow rfl sh_20 rfl rfl (Nat.le_of_ble_eq_true rfl) (c_X10_weighNow (d := d) (ok := ok) (ws := ws) (rs := rs) (rl := rl) (wl := wl) (tv := tv)) ?_
      intro Hm ok6 hp7
      have wn := hp7
      have td := wn.1
      have tb := TS_bd (wo := -1) (wc := -1) ws (gK_ok (H.1 2) 0)
      have hpw : 2 ^ a.toNat < 256 := Nat.lt_of_lt_of_le (Nat.pow_lt_pow_right (by decide) (by omega : a.toNat < 8)) (Nat.le_refl _)
      have xb : (H.1 2 34).toNat ^^^ 2 ^ a.toNat < 2 ^ 8 := Nat.xor_lt_two_pow (by omega) (by omega)
      have wt2 := tr2_ws (t := 2 ^ a.toNat) ws hpw
      have wl2 : WFL (tr2 (H.1 2) (2 ^ a.toNat)) := WFL_up wl (by omega)
      refine x_aload_n (pc := 22) dX10_helps_22 (List.Mem.head _) ?_
      refine z_getR (pc := 23) (k := 9) (r := 50) dX10_helps_23 lf_X10_62 sh_20 rfl rf_20_9 ?_
      refine x_aload_n (pc := 26) dX10_helps_26 (List.Mem.head _) ?_
      refine z_getR (pc := 27) (k := 3) (r := 98) dX10_helps_27 lf_X10_23 sh_20 rfl rf_20_3 ?_
      refine z_getR (pc := 30) (k := 0) (r := 35) dX10_helps_30 lf_X10_37 sh_98 rfl rf_98_0 ?_
      refine z_callVv (pc := 33) (i := mX6_take) (S := []) [.ref 35] dX10_helps_33 ml_X10_120 ok_X6_take rfl sh_50 rfl rfl (Nat.le_of_ble_eq_true rfl) (c_X6_take_50_35 (d := d + 6) (ok := ok6)) ?_
      intro Ht ok9 hp10
      have tk := hp10
      have fp1 := FrP_take tk
      have rt := take_rep ws tk (wn_sc wn.2.2 rs rl).1
      have r34 := rt.2.2.2.1
      have rt2 : RepSc Ht 50 (upA (H.1 2) 34 (H.1 2 34)) := by rw [upA_self]; exact rt
      refine x_aload_n (pc := 36) dX10_helps_36 (List.Mem.head _) ?_
      refine z_getR (pc := 37) (k := 9) (r := 50) dX10_helps_37 lf_X10_62 sh_20 rfl rf_20_9 ?_
      refine x_dup (pc := 40) dX10_helps_40 rfl ?_
      refine z_getI (pc := 41) (k := 6) (v := (H.1 2 34)) dX10_helps_41 lf_X10_153 sh_50 rfl r34 ?_
      refine z_iconst (pc := 44) dX10_helps_44 ?_
      refine x_iload_n (pc := 45) dX10_helps_45 (List.Mem.tail _ (List.Mem.head _)) ?_
      refine z_ishl1 (pc := 46) (k := a.toNat) dX10_helps_46 (by omega) (by omega) ?_
      refine z_ixor (pc := 47) (m := (H.1 2 34).toNat) (n := 2 ^ a.toNat) dX10_helps_47 (by omega) rfl ?_
      refine z_putI (pc := 48) (k := 6) dX10_helps_48 lp_X10_153 sh_50 rfl ?_
      have ok11 := okI ok9 50 6 (v := ((((H.1 2 34).toNat) ^^^ (2 ^ a.toNat) : Nat) : Int)) (by omega) (by omega)
      refine x_aload_n (pc := 51) dX10_helps_51 (List.Mem.head _) ?_
      refine z_getR (pc := 52) (k := 10) (r := 116) dX10_helps_52 lf_X10_65 sh_20 rfl rf_20_10 ?_
      refine x_aload_n (pc := 55) dX10_helps_55 (List.Mem.head _) ?_
      refine z_getR (pc := 56) (k := 6) (r := 104) dX10_helps_56 lf_X10_48 sh_20 rfl rf_20_6 ?_
      refine x_aload_n (pc := 59) dX10_helps_59 (List.Mem.head _) ?_
      refine z_getR (pc := 60) (k := 9) (r := 50) dX10_helps_60 lf_X10_62 sh_20 rfl rf_20_9 ?_
      refine z_iconst (pc := 63) dX10_helps_63 ?_
      refine z_callVv (pc := 64) (i := mX9_weigh) (S := []) [.ref 104, .ref 50, .int (zN ((-1)))] dX10_helps_64 ml_X10_236 ok_X9_weigh rfl sh_116 rfl rfl (Nat.le_of_ble_eq_true rfl) (c_X9_weigh (d := d + 1) (t := 116) (s := 50) (q := (tr2 (H.1 2) (2 ^ a.toNat))) (k := ((-1))) (k1 := (by omega)) (k2 := (by omega)) (ok := ok11) (ht := isTr_116) (hs := isSc_50) (ws := wt2) (rs := (rep_up ws (by omega) rt2)) (rl := (lw_up (by omega) (lw_P (FrP_tr fp1 FrP_50) (wn_sc wn.2.2 rs rl).2))) (wl := wl2)) ?_
      intro Hw ok13 hp14
      obtain ⟨td2, ft⟩ := hp14
      have fp := FrP_tr (FrP_tr fp1 FrP_50) (FrP_tr116 ft)
      have tb2 := TS_bd (wo := -1) (wc := -1) wt2 (gK_ok (tr2 (H.1 2) (2 ^ a.toNat)) 0)
      have e1t : (tr2 (H.1 2) (2 ^ a.toNat)) 1 = H.1 2 1 := upA_ne (by omega)
      rw [e1t] at tb2
      have wn2 : WnP H Hw (H.1 2) := ⟨trd_P fp td, by rw [fp.1 20 8 (by omega) (by omega) (by omega)]; exact wn.2.1, FrO_P wn.2.2 fp⟩
      refine x_aload_n (pc := 67) dX10_helps_67 (List.Mem.head _) ?_
      refine z_getR (pc := 68) (k := 10) (r := 116) dX10_helps_68 lf_X10_65 sh_20 rfl rf_20_10 ?_
      refine z_getJ (pc := 71) (k := 1) (v := (TS (tr2 (H.1 2) (2 ^ a.toNat)) (-1) (-1) (gK 0))) dX10_helps_71 lf_X10_219 sh_116 rfl (trd_k td2 0 (by omega)) ?_
      refine x_aload_n (pc := 74) dX10_helps_74 (List.Mem.head _) ?_
      refine z_getR (pc := 75) (k := 7) (r := 113) dX10_helps_75 lf_X10_55 sh_20 rfl rf_20_7 ?_
      refine z_getJ (pc := 78) (k := 1) (v := (TS (H.1 2) (-1) (-1) (gK 0))) dX10_helps_78 lf_X10_219 sh_113 rfl (trd_k wn2.1 0 (by omega)) ?_
      refine z_lsub (pc := 81) dX10_helps_81 ?_
      refine z_lreturn (pc := 82) dX10_helps_82 rfl ok13 (by omega) (by omega) ?_
      exact Or.inl ⟨by omega, rfl, wn2⟩
    · skip
      refine x_aload_n (pc := 10) dX10_helps_10 (List.Mem.head _) ?_
      refine z_bipush (pc := 11) dX10_helps_11 bp_m2 ?_
      refine z_callVip (pc := 13) (i := mX10_refuse) (S := []) [.int (zN ((-2)))] dX10_helps_13 ml_X10_97 ok_X10_refuse rfl sh_20 rfl (Or.inl rfl) (Nat.le_of_ble_eq_true rfl) (c_X10_refuse (d := d + 6) (code := ((-2))) (code1 := (by omega)) (code2 := (by omega)) (ok := ok) (cn := (by first | assumption | omega))) (fun r15a r15b ok16 => ?_)
      show Ev _ _ _ _ _ _ _ (eh (wI H 25 ((refIx ((-2)))) (H.1 25 (refIx ((-2))) + 1)))
      refine z_i2l (pc := 16) dX10_helps_16 (by omega) (by omega) ?_
      refine z_lreturn (pc := 17) dX10_helps_17 rfl ok16 (by omega) (by omega) ?_
      exact Or.inr ⟨by omega, rfl, rfl⟩

theorem c_X10_back {d : Nat} {H : ZH} (ok : okZ H) {most : Int} (most1 : -2147483648 ≤ most) (most2 : most ≤ 2147483647) (cn : cntOK H 25) (ws : WFS (H.1 2)) (rs : RepSc H 35 (H.1 2)) (rl : RepLw H (H.1 2)) (wl : WFL (H.1 2)) : EvC zX (d + 7) mX10_back [.ref 20, .int (zN (most))] (eh H) (zPi (fun (r : Int) (H1 : ZH) => ((0 ≤ most ∧ most ≤ 1000) ∧ r = lea (bkB (H.1 2) (-1) (-1) most) 31 ∧ FrP H H1) ∨ (¬ (0 ≤ most ∧ most ≤ 1000) ∧ r = -3 ∧ H1 = bumpC 1 H))) := by
  show _ ∧ Ev zX mX10_back (EvC zX (d + 6)) (zPi (fun (r : Int) (H1 : ZH) => ((0 ≤ most ∧ most ≤ 1000) ∧ r = lea (bkB (H.1 2) (-1) (-1) most) 31 ∧ FrP H H1) ∨ (¬ (0 ≤ most ∧ most ≤ 1000) ∧ r = -3 ∧ H1 = bumpC 1 H))) 0 [(0, .ref 20), (1, .int (zN (most)))] [] (eh H)
  refine ⟨Nat.le_of_ble_eq_true rfl, ?_⟩
  have wsx := ws
  obtain ⟨ws0, ws1, wsC, ws34, ws35, ws36, ws37, ws38, ws39⟩ := wsx
  have rsx := rs
  obtain ⟨rs0, rs1, rsC, rs34, rs35, rs36, rs37, rs38, rs39⟩ := rsx
  have pb := p100_bd (n := (H.1 2 1).toNat) (by omega)
  refine x_iload_n (pc := 0) dX10_back_0 (List.Mem.tail _ (List.Mem.head _)) ?_
  refine z_if_lt (pc := 1) (tgt := 11) dX10_back_1 (by decide) (by omega) (by omega) (fun hb1 => ?_) (fun hb1 => ?_)
  · skip
    refine x_aload_n (pc := 11) dX10_back_11 (List.Mem.head _) ?_
    refine z_bipush (pc := 12) dX10_back_12 bp_m3 ?_
    refine z_callVip (pc := 14) (i := mX10_refuse) (S := []) [.int (zN ((-3)))] dX10_back_14 ml_X10_97 ok_X10_refuse rfl sh_20 rfl (Or.inl rfl) (Nat.le_of_ble_eq_true rfl) (c_X10_refuse (d := d + 5) (code := ((-3))) (code1 := (by omega)) (code2 := (by omega)) (ok := ok) (cn := (by first | assumption | omega))) (fun r2a r2b ok3 => ?_)
    show Ev _ _ _ _ _ _ _ (eh (wI H 25 ((refIx ((-3)))) (H.1 25 (refIx ((-3))) + 1)))
    refine z_ireturn (pc := 17) dX10_back_17 rfl (Or.inl rfl) ok3 (by omega) (by omega) ?_
    exact Or.inr ⟨by omega, rfl, rfl⟩
  · skip
    refine x_iload_n (pc := 4) dX10_back_4 (List.Mem.tail _ (List.Mem.head _)) ?_
    refine z_sipush (pc := 5) dX10_back_5 sp_1000 ?_
    refine z_icmp_le (pc := 8) (tgt := 18) dX10_back_8 (by decide) (by omega) (by omega) (by decide) (by decide) (fun hb4 => ?_) (fun hb4 => ?_)
    · skip
      refine x_aload_n (pc := 18) dX10_back_18 (List.Mem.head _) ?_
      refine z_getR (pc := 19) (k := 9) (r := 50) dX10_back_19 lf_X10_62 sh_20 rfl rf_20_9 ?_
      refine x_aload_n (pc := 22) dX10_back_22 (List.Mem.head _) ?_
      refine z_getR (pc := 23) (k := 3) (r := 98) dX10_back_23 lf_X10_23 sh_20 rfl rf_20_3 ?_
      refine z_getR (pc := 26) (k := 0) (r := 35) dX10_back_26 lf_X10_37 sh_98 rfl rf_98_0 ?_
      refine z_callVv (pc := 29) (i := mX6_take) (S := []) [.ref 35] dX10_back_29 ml_X10_120 ok_X6_take rfl sh_50 rfl rfl (Nat.le_of_ble_eq_true rfl) (c_X6_take_50_35 (d := d + 5) (ok := ok)) ?_
      intro Ht ok6 hp7
      have tk := hp7
      refine z_iconst (pc := 32) dX10_back_32 ?_
      refine x_istore_n (pc := 33) dX10_back_33 (Nat.le_of_ble_eq_true rfl) ?_
      show Ev _ _ _ _ _ [(2, .int (zN (0))), (0, .ref 20), (1, .int (zN (most)))] _ _
      have lp34 : ∀ (nF : Nat) (l : Nat) (u : Int) (Hm : ZH), okZ Hm → (l ≤ 31) → (lea (bkB (H.1 2) (-1) (-1) most) l = -1) → (FrP H Hm) → (RepSc Hm 50 (upA (H.1 2) 35 u)) → 31 - l < nF → Ev zX mX10_back (EvC zX (d + 6)) (zPi (fun (r : Int) (H1 : ZH) => ((0 ≤ most ∧ most ≤ 1000) ∧ r = lea (bkB (H.1 2) (-1) (-1) most) 31 ∧ FrP H H1) ∨ (¬ (0 ≤ most ∧ most ≤ 1000) ∧ r = -3 ∧ H1 = bumpC 1 H))) 34 [(0, .ref 20), (1, .int (zN (most))), (2, .int (zN ((l : Int))))] [] (eh Hm) := by
        intro nF
        induction nF with
        | zero => intro l u Hm okl34 hl hno fr ru hm; exact absurd hm (Nat.not_lt_zero _)
        | succ nF ih34 =>
          intro l u Hm okl34 hl hno fr ru hm
          have rlm := lw_P fr rl
          refine x_iload_n (pc := 34) dX10_back_34 (List.Mem.tail _ (List.Mem.tail _ (List.Mem.head _))) ?_
          refine z_bipush (pc := 35) dX10_back_35 bp_30 ?_
          refine z_icmp_gt (pc := 37) (tgt := 116) dX10_back_37 (by decide) (by omega) (by omega) (by decide) (by decide) (fun hb8 => ?_) (fun hb8 => ?_)
          · skip
            refine z_iconst (pc := 116) dX10_back_116 ?_
            refine z_ireturn (pc := 117) dX10_back_117 rfl (Or.inl rfl) okl34 (by decide) (by decide) ?_
            exact Or.inl ⟨by omega, by rw [show 31 = l by omega]; exact hno.symm, fr⟩
          · skip
            refine x_aload_n (pc := 40) dX10_back_40 (List.Mem.head _) ?_
            refine z_getR (pc := 41) (k := 9) (r := 50) dX10_back_41 lf_X10_62 sh_20 rfl rf_20_9 ?_
            refine x_iload_n (pc := 44) dX10_back_44 (List.Mem.tail _ (List.Mem.tail _ (List.Mem.head _))) ?_
            refine z_putI (pc := 45) (k := 7) dX10_back_45 lp_X10_256 sh_50 rfl ?_
            have ok9 := okI okl34 50 7 (v := (l : Int)) (by omega) (by omega)
            have wsx2 : WFS (upA (H.1 2) 35 (l : Int)) := WFS_up ws (by omega) ⟨by omega, by omega, by omega, by omega, by omega⟩
            have wlx2 : WFL (upA (H.1 2) 35 (l : Int)) := WFL_up wl (by omega)
            have e1x : (upA (H.1 2) 35 (l : Int)) 1 = H.1 2 1 := upA_ne (by omega)
            refine x_aload_n (pc := 48) dX10_back_48 (List.Mem.head _) ?_
            refine z_getR (pc := 49) (k := 10) (r := 116) dX10_back_49 lf_X10_65 sh_20 rfl rf_20_10 ?_
            refine x_aload_n (pc := 52) dX10_back_52 (List.Mem.head _) ?_
            refine z_getR (pc := 53) (k := 6) (r := 104) dX10_back_53 lf_X10_48 sh_20 rfl rf_20_6 ?_
            refine x_aload_n (pc := 56) dX10_back_56 (List.Mem.head _) ?_
            refine z_getR (pc := 57) (k := 9) (r := 50) dX10_back_57 lf_X10_62 sh_20 rfl rf_20_9 ?_
            refine z_iconst (pc := 60) dX10_back_60 ?_
            refine z_callVv (pc := 61) (i := mX9_weigh) (S := []) [.ref 104, .ref 50, .int (zN ((-1)))] dX10_back_61 ml_X10_236 ok_X9_weigh rfl sh_116 rfl rfl (Nat.le_of_ble_eq_true rfl) (c_X9_weigh (d := d) (t := 116) (s := 50) (q := (upA (H.1 2) 35 (l : Int))) (k := ((-1))) (k1 := (by omega)) (k2 := (by omega)) (ok := ok9) (ht := isTr_116) (hs := isSc_50) (ws := wsx2) (rs := (rep_up ws (by omega) ru)) (rl := (lw_up (by omega) (lw_P FrP_50 rlm))) (wl := wlx2)) ?_
            intro Hw ok11 hp12
            obtain ⟨td2, ft⟩ := hp12
            have fr2 : FrP H Hw := FrP_tr (FrP_tr fr FrP_50) (FrP_tr116 ft)
            have ru2 : RepSc Hw 50 (upA (H.1 2) 35 (l : Int)) := RepSc_e (fun cc a b => funext (fun j => ft.1 cc j (by omega) (by omega))) (rep_up ws (by omega) ru)
            have tb := TS_bd (wo := -1) (wc := -1) wsx2 (gK_ok (upA (H.1 2) 35 (l : Int)) 1)
            rw [e1x] at tb
            have hal : Hw.2 116 0 = (100 : Int) ^ (H.1 2 1).toNat := by have z := trd_0 td2; rw [e1x] at z; exact z
            have m1 := nn2 (x := (100 : Int) ^ (H.1 2 1).toNat / 1000) (y := most) (A := 10000000000000) (B := 1000) (by omega) (by omega) (by omega) (by omega)
            have m2 := nn2 (x := (100 : Int) ^ (H.1 2 1).toNat % 1000) (y := most) (A := 1000) (B := 1000) (by omega) (by omega) (by omega) (by omega)
            have hbe := bk_eq (n := (H.1 2 1).toNat) (K := (TS (upA (H.1 2) 35 (l : Int)) (-1) (-1) (gK 1))) (most := most) (by omega)
            have hbk : (bkB (H.1 2) (-1) (-1) most) l = (if (100 : Int) ^ (H.1 2 1).toNat < 1000 then decide ((TS (upA (H.1 2) 35 (l : Int)) (-1) (-1) (gK 1)) * 1000 ≤ most * 100 ^ (H.1 2 1).toNat) else decide ((TS (upA (H.1 2) 35 (l : Int)) (-1) (-1) (gK 1)) ≤ most * (100 ^ (H.1 2 1).toNat / 1000))) := rfl
            rw [← hbk] at hbe
            refine x_aload_n (pc := 64) dX10_back_64 (List.Mem.head _) ?_
            refine z_getR (pc := 65) (k := 10) (r := 116) dX10_back_65 lf_X10_65 sh_20 rfl rf_20_10 ?_
            refine z_getJ (pc := 68) (k := 0) (v := ((100 : Int) ^ (H.1 2 1).toNat)) dX10_back_68 lf_X10_233 sh_116 rfl hal ?_
            refine x_lstore_n (pc := 71) dX10_back_71 (Nat.le_of_ble_eq_true rfl) ?_
            show Ev _ _ _ _ _ [(3, .long (zL ((((100 : Int) ^ (H.1 2 1).toNat))))), (0, .ref 20), (1, .int (zN (most))), (2, .int (zN ((l : Int))))] _ _
            refine x_lload_n (pc := 72) dX10_back_72 (List.Mem.head _) ?_
            refine z_ldc2_w (pc := 73) 1000 dX10_back_73 cl_X10_259 (by decide) ?_
            refine z_ldivP (pc := 76) dX10_back_76 (by omega) (by omega) (by omega) (by omega) ?_
            refine x_iload_n (pc := 77) dX10_back_77 (List.Mem.tail _ (List.Mem.tail _ (List.Mem.head _))) ?_
            refine z_i2l (pc := 78) dX10_back_78 (by omega) (by omega) ?_
            refine z_lmul (pc := 79) dX10_back_79 ?_
            refine x_lload_n (pc := 80) dX10_back_80 (List.Mem.head _) ?_
            refine z_ldc2_w (pc := 81) 1000 dX10_back_81 cl_X10_259 (by decide) ?_
            refine z_lremP (pc := 84) dX10_back_84 (by omega) (by omega) (by omega) (by omega) ?_
            refine x_iload_n (pc := 85) dX10_back_85 (List.Mem.tail _ (List.Mem.tail _ (List.Mem.head _))) ?_
            refine z_i2l (pc := 86) dX10_back_86 (by omega) (by omega) ?_
            refine z_lmul (pc := 87) dX10_back_87 ?_
            refine z_ldc2_w (pc := 88) 1000 dX10_back_88 cl_X10_259 (by decide) ?_
            refine z_ldivP (pc := 91) dX10_back_91 (by omega) (by omega) (by omega) (by omega) ?_
            refine z_ladd (pc := 92) dX10_back_92 ?_
            refine x_lstore (pc := 93) dX10_back_93 (Nat.le_of_ble_eq_true rfl) ?_
            show Ev _ _ _ _ _ [(5, .long (zL (((((((100 : Int) ^ (H.1 2 1).toNat)) / 1000) * most) + ((((((100 : Int) ^ (H.1 2 1).toNat)) % 1000) * most) / 1000))))), (3, .long (zL ((((100 : Int) ^ (H.1 2 1).toNat))))), (0, .ref 20), (1, .int (zN (most))), (2, .int (zN ((l : Int))))] _ _
            refine x_aload_n (pc := 95) dX10_back_95 (List.Mem.tail _ (List.Mem.tail _ (List.Mem.head _))) ?_
            refine z_getR (pc := 96) (k := 10) (r := 116) dX10_back_96 lf_X10_65 sh_20 rfl rf_20_10 ?_
            refine z_getJ (pc := 99) (k := 2) (v := (TS (upA (H.1 2) 35 (l : Int)) (-1) (-1) (gK 1))) dX10_back_99 lf_X10_223 sh_116 rfl (trd_k td2 1 (by omega)) ?_
            refine x_lload (pc := 102) dX10_back_102 (List.Mem.head _) ?_
            refine z_lcmp_gt (pc := 104) (tgt := 110) dX10_back_104 dX10_back_105 (by decide) (by omega) (by omega) (by omega) (by omega) (fun hb13 => ?_) (fun hb13 => ?_)
            · skip
              have hno2 : lea (bkB (H.1 2) (-1) (-1) most) (l + 1) = -1 := by show (if lea (bkB (H.1 2) (-1) (-1) most) l = -1 then (if (bkB (H.1 2) (-1) (-1) most) l = true then (l : Int) else -1) else lea (bkB (H.1 2) (-1) (-1) most) l) = _; rw [if_pos hno, if_neg (fun z => absurd (hbe.mpr z) (by omega))]
              refine z_iinc (pc := 110) dX10_back_110 (List.Mem.tail _ (List.Mem.tail _ (List.Mem.tail _ (List.Mem.tail _ (List.Mem.head _))))) (Nat.le_of_ble_eq_true rfl) ?_
              show Ev _ _ _ _ _ [(2, .int (zN ((l : Int) + 1))), (5, .long (zL (((((((100 : Int) ^ (H.1 2 1).toNat)) / 1000) * most) + ((((((100 : Int) ^ (H.1 2 1).toNat)) % 1000) * most) / 1000))))), (3, .long (zL ((((100 : Int) ^ (H.1 2 1).toNat))))), (0, .ref 20), (1, .int (zN (most)))] _ _
              refine x_goto (pc := 113) (tgt := 34) dX10_back_113 (by decide) ?_
              refine x_weaken (L1 := [(0, .ref 20), (1, .int (zN (most))), (2, .int (zN ((((l + 1) : Nat) : Int))))]) (List.forall_mem_cons.mpr ⟨(List.Mem.tail _ (List.Mem.tail _ (List.Mem.tail _ (List.Mem.head _)))), (List.forall_mem_cons.mpr ⟨(List.Mem.tail _ (List.Mem.tail _ (List.Mem.tail _ (List.Mem.tail _ (List.Mem.head _))))), (List.forall_mem_cons.mpr ⟨(mem_ci (by omega) (List.Mem.head _)), (fun _ h => absurd h List.not_mem_nil)⟩)⟩)⟩) ?_
              exact ih34 ((l + 1)) ((l : Int)) Hw ok11 (by omega) (hno2) (fr2) (ru2) (by omega)
            · skip
              have hyes : lea (bkB (H.1 2) (-1) (-1) most) (l + 1) = (l : Int) := by show (if lea (bkB (H.1 2) (-1) (-1) most) l = -1 then (if (bkB (H.1 2) (-1) (-1) most) l = true then (l : Int) else -1) else lea (bkB (H.1 2) (-1) (-1) most) l) = _; rw [if_pos hno, if_pos (hbe.mp (by omega))]
              refine x_iload_n (pc := 108) dX10_back_108 (List.Mem.tail _ (List.Mem.tail _ (List.Mem.tail _ (List.Mem.tail _ (List.Mem.head _))))) ?_
              refine z_ireturn (pc := 109) dX10_back_109 rfl (Or.inl rfl) ok11 (by omega) (by omega) ?_
              exact Or.inl ⟨by omega, by rw [lea_fix (l := l + 1) (n := 31) (by omega) (by omega)]; exact hyes.symm, fr2⟩
      refine x_weaken (L1 := [(0, .ref 20), (1, .int (zN (most))), (2, .int (zN (((0 : Nat) : Int))))]) (List.forall_mem_cons.mpr ⟨(List.Mem.tail _ (List.Mem.head _)), (List.forall_mem_cons.mpr ⟨(List.Mem.tail _ (List.Mem.tail _ (List.Mem.head _))), (List.forall_mem_cons.mpr ⟨(mem_ci (by omega) (List.Mem.head _)), (fun _ h => absurd h List.not_mem_nil)⟩)⟩)⟩) ?_
      exact lp34 (31 - 0 + 1) (0) ((H.1 2 35)) Ht ok6 (by omega) (rfl) (FrP_take tk) (by rw [upA_self]; exact take_rep ws tk rs) (Nat.lt_succ_self _)
    · skip
      refine x_aload_n (pc := 11) dX10_back_11 (List.Mem.head _) ?_
      refine z_bipush (pc := 12) dX10_back_12 bp_m3 ?_
      refine z_callVip (pc := 14) (i := mX10_refuse) (S := []) [.int (zN ((-3)))] dX10_back_14 ml_X10_97 ok_X10_refuse rfl sh_20 rfl (Or.inl rfl) (Nat.le_of_ble_eq_true rfl) (c_X10_refuse (d := d + 5) (code := ((-3))) (code1 := (by omega)) (code2 := (by omega)) (ok := ok) (cn := (by first | assumption | omega))) (fun r14a r14b ok15 => ?_)
      show Ev _ _ _ _ _ _ _ (eh (wI H 25 ((refIx ((-3)))) (H.1 25 (refIx ((-3))) + 1)))
      refine z_ireturn (pc := 17) dX10_back_17 rfl (Or.inl rfl) ok15 (by omega) (by omega) ?_
      exact Or.inr ⟨by omega, rfl, rfl⟩
