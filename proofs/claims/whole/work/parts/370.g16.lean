/-! GROUP G16: the class's road begins. -/
/-- all but the road is as it was -/
def FrK (H H1 : ZH) : Prop := (∀ c k, ¬ (104 ≤ c ∧ c ≤ 112) → H1.1 c k = H.1 c k) ∧ (∀ c k, ¬ (c = 111 ∧ k = 5) → H1.2 c k = H.2 c k)
theorem FrK_0 (H : ZH) : FrK H H := ⟨fun _ _ _ => rfl, fun _ _ _ => rfl⟩
theorem FrK_tr {a b c : ZH} (h1 : FrK a b) (h2 : FrK b c) : FrK a c := ⟨fun x y h => (h2.1 x y h).trans (h1.1 x y h), fun x y h => (h2.2 x y h).trans (h1.2 x y h)⟩
theorem FrK_I {H : ZH} {c k : Nat} {v : Int} (h : 104 ≤ c ∧ c ≤ 112) : FrK H (wI H c k v) := ⟨fun x y q => by rw [wI1c (by omega)], fun _ _ _ => rfl⟩
theorem FrK_A {H : ZH} {c : Nat} {f : Nat → Int} (h : 104 ≤ c ∧ c ≤ 112) : FrK H (wA H c f) := ⟨fun x y q => by rw [wA1c (by omega)], fun _ _ _ => rfl⟩
theorem FrK_J {H : ZH} {v : Int} : FrK H (wJ H 111 5 v) := ⟨fun _ _ _ => rfl, fun x y q => if_neg q⟩
theorem FrK_sc {H H1 : ZH} (h : FrK H H1) {s : Nat} {q : Nat → Int} (hs : isSc s) (r : RepSc H s q) : RepSc H1 s q := by
  have b := isSc_r hs
  obtain ⟨r0, r1, rC, r34, r35, r36, r37, r38, r39⟩ := r
  have e : ∀ c k, s ≤ c → c ≤ s + 4 → H1.1 c k = H.1 c k := fun c k h1 h2 => h.1 c k (by omega)
  refine ⟨by rw [e s 0 (by omega) (by omega)]; exact r0, by rw [e s 1 (by omega) (by omega)]; exact r1, fun c hc => ?_, by rw [e s 6 (by omega) (by omega)]; exact r34, by rw [e s 7 (by omega) (by omega)]; exact r35, by rw [e s 8 (by omega) (by omega)]; exact r36, by rw [e s 9 (by omega) (by omega)]; exact r37, by rw [e s 10 (by omega) (by omega)]; exact r38, by rw [e s 11 (by omega) (by omega)]; exact r39⟩
  rw [e (s + 1) c (by omega) (by omega), e (s + 2) c (by omega) (by omega), e (s + 3) c (by omega) (by omega), e (s + 4) c (by omega) (by omega)]
  exact rC c hc
theorem FrK_lw {H H1 : ZH} (h : FrK H H1) {q : Nat → Int} (r : RepLw H q) : RepLw H1 q := by
  have e : ∀ c k, c ≤ 62 → H1.1 c k = H.1 c k := fun c k h1 => h.1 c k (by omega)
  refine ⟨by rw [e 59 0 (by omega)]; exact r.1, fun l hl => ?_⟩
  obtain ⟨a, b, c⟩ := r.2 l hl
  exact ⟨by rw [e 60 l (by omega)]; exact a, by rw [e 61 l (by omega)]; exact b, fun i hi => by rw [e 62 i (by omega)]; exact c i hi⟩
def bsp (q : Nat → Int) (c : Nat) : Int := if q 34 / 2 ^ 6 % 2 = 1 ∧ 4 < q (18 + c) then 4 else q (18 + c)
theorem bgn_at {A o : Nat → Int} {wc sd : Int} (ws1 : 0 ≤ A 1 ∧ A 1 ≤ 8) {c : Nat} (hc : (c : Int) < A 1) : bgn A o wc sd c = (if (c : Int) = wc then 0 else A (10 + c)) ∧ bgn A o wc sd (8 + c) = bsp A c ∧ bgn A o wc sd (16 + c) = 0 ∧ bgn A o wc sd (24 + c) = 0 := by
  have z : ∀ j : Nat, 8 + (A 1).toNat ≤ j → j < 39 → bgn A o wc sd j = 0 := by
    intro j h1 h2
    unfold bgn
    rw [if_neg (show ¬ j = 40 by omega), if_neg (show ¬ j = 39 by omega)]
    unfold bg2
    rw [if_neg (show ¬ j < (A 1).toNat by omega), if_neg (show ¬ (8 ≤ j ∧ j < 8 + (A 1).toNat) by omega), if_pos (show j < 42 by omega)]
  refine ⟨?_, ?_, z _ (by omega) (by omega), z _ (by omega) (by omega)⟩
  · unfold bgn
    rw [if_neg (show ¬ c = 40 by omega), if_neg (show ¬ c = 39 by omega)]
    unfold bg2
    rw [if_pos (show c < (A 1).toNat by omega)]
  · unfold bgn
    rw [if_neg (show ¬ 8 + c = 40 by omega), if_neg (show ¬ 8 + c = 39 by omega)]
    unfold bg2 bsp
    rw [if_neg (show ¬ 8 + c < (A 1).toNat by omega), if_pos (show 8 ≤ 8 + c ∧ 8 + c < 8 + (A 1).toNat by omega), show 8 + c - 8 = c by omega]
theorem bgn_f {A o : Nat → Int} {wc sd : Int} (ws1 : 0 ≤ A 1 ∧ A 1 ≤ 8) : bgn A o wc sd 39 = -1 ∧ bgn A o wc sd 40 = sd ∧ ∀ j : Nat, 32 ≤ j → j < 39 → bgn A o wc sd j = 0 := by
  refine ⟨rfl, rfl, fun j h1 h2 => ?_⟩
  unfold bgn
  rw [if_neg (show ¬ j = 40 by omega), if_neg (show ¬ j = 39 by omega)]
  unfold bg2
  rw [if_neg (show ¬ j < (A 1).toNat by omega), if_neg (show ¬ (8 ≤ j ∧ j < 8 + (A 1).toNat) by omega), if_pos (show j < 42 by omega)]
/-- the order of the cars is one of all the cars -/
def Perm8 (f : Nat → Int) (n : Nat) : Prop := (∀ i, i < n → 0 ≤ f i ∧ f i < (n : Int)) ∧ (∀ i j, i < n → j < n → i ≠ j → f i ≠ f j) ∧ ∀ c : Nat, c < n → ∃ i, i < n ∧ f i = (c : Int)
/-- begun -/
def RdB (H H1 : ZH) (s : Nat) (k : Int) (q : Nat → Int) : Prop := FrK H H1 ∧ H1.1 104 1 = (s : Int) ∧ H1.1 104 3 = k ∧ (∀ o sd, RepRd H1 q (bgn q o (-1) sd)) ∧ Perm8 (H1.1 109) (q 1).toNat ∧ H1.1 111 4 = 0 ∧ H1.2 111 5 = 1 ∧ (∀ j, j ≠ 4 → H1.1 111 j = H.1 111 j) ∧ ∀ j, H1.1 112 j = H.1 112 j
theorem Perm8_id {f : Nat → Int} {n : Nat} (h : ∀ i : Nat, i < n → f i = (i : Int)) : Perm8 f n := ⟨fun i hi => by rw [h i hi]; omega, fun i j hi hj e => by rw [h i hi, h j hj]; omega, fun c hc => ⟨c, hc, h c hc⟩⟩

theorem c_X0_drawFrom {d : Nat} {H : ZH} (ok : okZ H) {sd : Int} (sd1 : -2147483648 ≤ sd) (sd2 : sd ≤ 2147483647) : EvC zX (d + 1) mX0_drawFrom [.ref 111, .int (zN (sd))] (eh H) (zPv (fun (Hz : ZH) => Hz = wI (wI H 111 0 1) 111 1 sd)) := by
  show _ ∧ Ev zX mX0_drawFrom (EvC zX d) (zPv (fun (Hz : ZH) => Hz = wI (wI H 111 0 1) 111 1 sd)) 0 [(0, .ref 111), (1, .int (zN (sd)))] [] (eh H)
  refine ⟨Nat.le_of_ble_eq_true rfl, ?_⟩
  refine x_aload_n (pc := 0) dX0_drawFrom_0 (List.Mem.head _) ?_
  refine z_iconst (pc := 1) dX0_drawFrom_1 ?_
  refine z_putZ (pc := 2) (k := 0) dX0_drawFrom_2 lp_X0_19 sh_111 rfl (by omega) ?_
  have ok1 := okI ok 111 0 (v := 1) (by decide) (by decide)
  refine x_aload_n (pc := 5) dX0_drawFrom_5 (List.Mem.head _) ?_
  refine x_iload_n (pc := 6) dX0_drawFrom_6 (List.Mem.tail _ (List.Mem.head _)) ?_
  refine z_putI (pc := 7) (k := 1) dX0_drawFrom_7 lp_X0_23 sh_111 rfl ?_
  have ok2 := okI ok1 111 1 (v := sd) (by omega) (by omega)
  refine z_vreturn (pc := 10) dX0_drawFrom_10 rfl ok2 ?_
  rfl

theorem c_X0_goAllWays {d : Nat} {H : ZH} (ok : okZ H)  : EvC zX (d + 1) mX0_goAllWays [.ref 111] (eh H) (zPv (fun (Hz : ZH) => Hz = wI (wI H 111 0 0) 111 3 0)) := by
  show _ ∧ Ev zX mX0_goAllWays (EvC zX d) (zPv (fun (Hz : ZH) => Hz = wI (wI H 111 0 0) 111 3 0)) 0 [(0, .ref 111)] [] (eh H)
  refine ⟨Nat.le_of_ble_eq_true rfl, ?_⟩
  refine x_aload_n (pc := 0) dX0_goAllWays_0 (List.Mem.head _) ?_
  refine z_iconst (pc := 1) dX0_goAllWays_1 ?_
  refine z_putZ (pc := 2) (k := 0) dX0_goAllWays_2 lp_X0_19 sh_111 rfl (by omega) ?_
  have ok1 := okI ok 111 0 (v := 0) (by decide) (by decide)
  refine x_aload_n (pc := 5) dX0_goAllWays_5 (List.Mem.head _) ?_
  refine z_iconst (pc := 6) dX0_goAllWays_6 ?_
  refine z_putI (pc := 7) (k := 3) dX0_goAllWays_7 lp_X0_27 sh_111 rfl ?_
  have ok2 := okI ok1 111 3 (v := 0) (by decide) (by decide)
  refine z_vreturn (pc := 10) dX0_goAllWays_10 rfl ok2 ?_
  rfl

theorem c_X0_begin {d : Nat} {H : ZH} (ok : okZ H)  : EvC zX (d + 1) mX0_begin [.ref 111] (eh H) (zPv (fun (Hz : ZH) => Hz = wJ (wI H 111 4 0) 111 5 1)) := by
  show _ ∧ Ev zX mX0_begin (EvC zX d) (zPv (fun (Hz : ZH) => Hz = wJ (wI H 111 4 0) 111 5 1)) 0 [(0, .ref 111)] [] (eh H)
  refine ⟨Nat.le_of_ble_eq_true rfl, ?_⟩
  refine x_aload_n (pc := 0) dX0_begin_0 (List.Mem.head _) ?_
  refine z_iconst (pc := 1) dX0_begin_1 ?_
  refine z_putI (pc := 2) (k := 4) dX0_begin_2 lp_X0_30 sh_111 rfl ?_
  have ok1 := okI ok 111 4 (v := 0) (by decide) (by decide)
  refine x_aload_n (pc := 5) dX0_begin_5 (List.Mem.head _) ?_
  refine z_lconst (pc := 6) 1 dX0_begin_6 rfl ?_
  refine z_putJ (pc := 7) (k := 5) dX0_begin_7 lp_X0_15 sh_111 rfl ?_
  have ok2 := okJ ok1 111 5 (v := 1) (by decide) (by decide)
  refine z_vreturn (pc := 10) dX0_begin_10 rfl ok2 ?_
  rfl

theorem c_X4_begin {d : Nat} {H : ZH} (ok : okZ H) {s : Nat} {q : Nat → Int} {k : Int} (k1 : -2147483648 ≤ k) (k2 : k ≤ 2147483647) (hs : isSc s) (ws : WFS q) (rs : RepSc H s q) : EvC zX (d + 2) mX4_begin [.ref 104, .ref s, .int (zN (k))] (eh H) (zPv (fun (H1 : ZH) => RdB H H1 s k q)) := by
  show _ ∧ Ev zX mX4_begin (EvC zX (d + 1)) (zPv (fun (H1 : ZH) => RdB H H1 s k q)) 0 [(0, .ref 104), (1, .ref s), (2, .int (zN (k)))] [] (eh H)
  refine ⟨Nat.le_of_ble_eq_true rfl, ?_⟩
  have hsr := isSc_r hs
  have wsx := ws
  obtain ⟨ws0, ws1, wsC, ws34, ws35, ws36, ws37, ws38, ws39⟩ := wsx
  have rsx := rs
  obtain ⟨rs0, rs1, rsC, rs34, rs35, rs36, rs37, rs38, rs39⟩ := rsx
  refine x_aload_n (pc := 0) dX4_begin_0 (List.Mem.head _) ?_
  refine x_aload_n (pc := 1) dX4_begin_1 (List.Mem.tail _ (List.Mem.head _)) ?_
  refine z_putY (pc := 2) (k := 1) dX4_begin_2 lp_X4_42 sh_104 rfl (by omega) (fun _ => rfl) (fun _ => rfl) ?_
  have ok1 := okI ok 104 1 (v := (s : Nat)) (by omega) (by omega)
  refine x_aload_n (pc := 5) dX4_begin_5 (List.Mem.head _) ?_
  refine x_iload_n (pc := 6) dX4_begin_6 (List.Mem.tail _ (List.Mem.tail _ (List.Mem.head _))) ?_
  refine z_putI (pc := 7) (k := 3) dX4_begin_7 lp_X4_18 sh_104 rfl ?_
  have ok2 := okI ok1 104 3 (v := k) (by omega) (by omega)
  refine x_aload_n (pc := 10) dX4_begin_10 (List.Mem.tail _ (List.Mem.head _)) ?_
  refine z_bipush (pc := 11) dX4_begin_11 bp_6 ?_
  refine z_callVbp (pc := 13) (i := mX6_hasTrait) (S := []) [.int (zN (6))] dX4_begin_13 ml_X4_50 ok_X6_hasTrait rfl (sh_Sc0 hs) rfl (Or.inr rfl) (Nat.le_of_ble_eq_true rfl) (c_X6_hasTrait (d := d) (s := s) (q := q) (k := 6) (hk := (by omega)) (ok := ok2) (hs := hs) (ws := ws) (rs := (FrK_sc (FrK_tr (FrK_I (by omega)) (FrK_I (by omega))) hs rs))) (fun hc5 ok4 => ?_) (fun hc5 ok4 => ?_)
  · skip
    have hU : q 34 / 2 ^ 6 % 2 = 1 := hc5
    refine x_istore_n (pc := 16) dX4_begin_16 (Nat.le_of_ble_eq_true rfl) ?_
    show Ev _ _ _ _ _ [(3, .int (zN (1))), (0, .ref 104), (1, .ref s), (2, .int (zN (k)))] _ _
    refine z_iconst (pc := 17) dX4_begin_17 ?_
    refine x_istore (pc := 18) dX4_begin_18 (Nat.le_of_ble_eq_true rfl) ?_
    show Ev _ _ _ _ _ [(4, .int (zN (0))), (3, .int (zN (1))), (0, .ref 104), (1, .ref s), (2, .int (zN (k)))] _ _
    have lp20 : ∀ (nF : Nat) (c : Nat) (Hm : ZH), okZ Hm → ((c : Int) ≤ q 1) → (FrK H Hm) → (Hm.1 104 1 = (s : Int) ∧ Hm.1 104 3 = k) → (∀ j, j < c → Hm.1 105 j = q (10 + j) ∧ Hm.1 106 j = bsp q j ∧ Hm.1 107 j = 0 ∧ Hm.1 108 j = 0 ∧ Hm.1 109 j = (j : Int)) → (Hm.1 111 = H.1 111 ∧ Hm.1 112 = H.1 112) → (Hm.2 = H.2) → (q 1).toNat - c < nF → Ev zX mX4_begin (EvC zX (d + 1)) (zPv (fun (H1 : ZH) => RdB H H1 s k q)) 20 [(0, .ref 104), (1, .ref s), (2, .int (zN (k))), (3, .int (zN (1))), (4, .int (zN ((c : Int))))] [] (eh Hm) := by
      intro nF
      induction nF with
      | zero => intro c Hm okl20 hc fr f4 fc f11 fJ hm; exact absurd hm (Nat.not_lt_zero _)
      | succ nF ih20 =>
        intro c Hm okl20 hc fr f4 fc f11 fJ hm
        have rsm := FrK_sc fr hs rs
        obtain ⟨rm0, rm1, rmC, rm34, rm35, rm36, rm37, rm38, rm39⟩ := rsm
        refine x_iload (pc := 20) dX4_begin_20 (List.Mem.tail _ (List.Mem.tail _ (List.Mem.tail _ (List.Mem.tail _ (List.Mem.head _))))) ?_
        refine x_aload_n (pc := 22) dX4_begin_22 (List.Mem.tail _ (List.Mem.head _)) ?_
        refine z_getI (pc := 23) (k := 1) (v := (q 1)) dX4_begin_23 lf_X4_56 (sh_Sc0 hs) rfl rm1 ?_
        refine z_icmp_ge (pc := 26) (tgt := 107) dX4_begin_26 (by decide) (by omega) (by omega) (by omega) (by omega) (fun hb6 => ?_) (fun hb6 => ?_)
        · skip
          refine x_aload_n (pc := 107) dX4_begin_107 (List.Mem.head _) ?_
          refine z_iconst (pc := 108) dX4_begin_108 ?_
          refine z_putI (pc := 109) (k := 10) dX4_begin_109 lp_X4_61 sh_104 rfl ?_
          have ok7 := okI okl20 104 10 (v := 0) (by decide) (by decide)
          refine x_aload_n (pc := 112) dX4_begin_112 (List.Mem.head _) ?_
          refine z_iconst (pc := 113) dX4_begin_113 ?_
          refine z_putZ (pc := 114) (k := 11) dX4_begin_114 lp_X4_64 sh_104 rfl (by omega) ?_
          have ok8 := okI ok7 104 11 (v := 0) (by decide) (by decide)
          refine x_aload_n (pc := 117) dX4_begin_117 (List.Mem.head _) ?_
          refine z_iconst (pc := 118) dX4_begin_118 ?_
          refine z_putI (pc := 119) (k := 12) dX4_begin_119 lp_X4_68 sh_104 rfl ?_
          have ok9 := okI ok8 104 12 (v := 0) (by decide) (by decide)
          refine x_aload_n (pc := 122) dX4_begin_122 (List.Mem.head _) ?_
          refine z_iconst (pc := 123) dX4_begin_123 ?_
          refine z_putI (pc := 124) (k := 13) dX4_begin_124 lp_X4_71 sh_104 rfl ?_
          have ok10 := okI ok9 104 13 (v := 0) (by decide) (by decide)
          refine x_aload_n (pc := 127) dX4_begin_127 (List.Mem.head _) ?_
          refine z_iconst (pc := 128) dX4_begin_128 ?_
          refine z_putI (pc := 129) (k := 14) dX4_begin_129 lp_X4_74 sh_104 rfl ?_
          have ok11 := okI ok10 104 14 (v := 0) (by decide) (by decide)
          refine x_aload_n (pc := 132) dX4_begin_132 (List.Mem.head _) ?_
          refine z_iconst (pc := 133) dX4_begin_133 ?_
          refine z_putI (pc := 134) (k := 15) dX4_begin_134 lp_X4_77 sh_104 rfl ?_
          have ok12 := okI ok11 104 15 (v := 0) (by decide) (by decide)
          refine x_aload_n (pc := 137) dX4_begin_137 (List.Mem.head _) ?_
          refine z_iconst (pc := 138) dX4_begin_138 ?_
          refine z_putI (pc := 139) (k := 16) dX4_begin_139 lp_X4_80 sh_104 rfl ?_
          have ok13 := okI ok12 104 16 (v := 0) (by decide) (by decide)
          refine x_aload_n (pc := 142) dX4_begin_142 (List.Mem.head _) ?_
          refine z_iconst (pc := 143) dX4_begin_143 ?_
          refine z_putI (pc := 144) (k := 17) dX4_begin_144 lp_X4_83 sh_104 rfl ?_
          have ok14 := okI ok13 104 17 (v := (-1)) (by decide) (by decide)
          refine x_aload_n (pc := 147) dX4_begin_147 (List.Mem.head _) ?_
          refine z_getR (pc := 148) (k := 0) (r := 111) dX4_begin_148 lf_X4_12 sh_104 rfl rf_104_0 ?_
          refine z_callVvp (pc := 151) (i := mX0_begin) (S := []) [] dX4_begin_151 ml_X4_86 ok_X0_begin rfl sh_111 rfl rfl (Nat.le_of_ble_eq_true rfl) (c_X0_begin (d := d) (ok := ok14)) (fun ok16 => ?_)
          refine z_vreturn (pc := 154) dX4_begin_154 rfl ok16 ?_
          have hn : c = (q 1).toNat := by omega
          refine ⟨?_, ?_, ?_, fun o sd => ⟨fun j hj => ?_, ?_, ?_, ?_, ?_, ?_, ?_, ?_, ?_⟩, Perm8_id (fun i hi => ?_), ?_, ?_, fun j hj => ?_, fun j => ?_⟩
          · exact FrK_tr fr (FrK_tr (FrK_I (by omega)) (FrK_tr (FrK_I (by omega)) (FrK_tr (FrK_I (by omega)) (FrK_tr (FrK_I (by omega)) (FrK_tr (FrK_I (by omega)) (FrK_tr (FrK_I (by omega)) (FrK_tr (FrK_I (by omega)) (FrK_tr (FrK_I (by omega)) (FrK_tr (FrK_I (by omega)) FrK_J)))))))))
          · exact f4.1
          · exact f4.2
          · obtain ⟨b1, b2, b3, b4⟩ := bgn_at (o := o) (wc := -1) (sd := sd) ws1 hj
            rw [b1, b2, b3, b4, if_neg (by omega)]
            obtain ⟨a1, a2, a3, a4, a5⟩ := fc j (by omega)
            exact ⟨a1, a2, a3, a4⟩
          · exact ((bgn_f (o := o) (wc := -1) (sd := sd) ws1).2.2 32 (by omega) (by omega)).symm
          · exact ((bgn_f (o := o) (wc := -1) (sd := sd) ws1).2.2 33 (by omega) (by omega)).symm
          · exact ((bgn_f (o := o) (wc := -1) (sd := sd) ws1).2.2 34 (by omega) (by omega)).symm
          · exact ((bgn_f (o := o) (wc := -1) (sd := sd) ws1).2.2 35 (by omega) (by omega)).symm
          · exact ((bgn_f (o := o) (wc := -1) (sd := sd) ws1).2.2 36 (by omega) (by omega)).symm
          · exact ((bgn_f (o := o) (wc := -1) (sd := sd) ws1).2.2 37 (by omega) (by omega)).symm
          · exact ((bgn_f (o := o) (wc := -1) (sd := sd) ws1).2.2 38 (by omega) (by omega)).symm
          · exact (bgn_f (o := o) (wc := -1) (sd := sd) ws1).1.symm
          · exact (fc i (by omega)).2.2.2.2
          · rfl
          · rfl
          · exact (wI1k hj).trans (congrFun f11.1 j)
          · exact congrFun f11.2 j
        · skip
          obtain ⟨k1, k2, k3, k4⟩ := rmC c (by omega)
          have wck := wsC c (by omega)
          refine x_aload_n (pc := 29) dX4_begin_29 (List.Mem.head _) ?_
          refine z_getR (pc := 30) (k := 4) (r := 105) dX4_begin_30 lf_X4_22 sh_104 rfl rf_104_4 ?_
          refine x_iload (pc := 33) dX4_begin_33 (List.Mem.tail _ (List.Mem.tail _ (List.Mem.tail _ (List.Mem.tail _ (List.Mem.head _))))) ?_
          refine x_aload_n (pc := 35) dX4_begin_35 (List.Mem.tail _ (List.Mem.head _)) ?_
          refine z_getR (pc := 36) (k := 3) (r := (s + 2)) dX4_begin_36 lf_X4_59 (sh_Sc0 hs) rfl (rf_Sc_3 hs) ?_
          refine x_iload (pc := 39) dX4_begin_39 (List.Mem.tail _ (List.Mem.tail _ (List.Mem.tail _ (List.Mem.tail _ (List.Mem.head _))))) ?_
          refine z_iald (pc := 41) (j := c) (v := (q (10 + c))) dX4_begin_41 (sh_Sc2 hs) rfl (by omega) (by decide) k2 ?_
          refine z_iast (pc := 42) (j := c) (v := ((q (10 + c)))) dX4_begin_42 sh_105 rfl (by omega) (by decide) ?_
          have ok17 := okI okl20 105 c (v := ((q (10 + c)))) (by omega) (by omega)
          refine x_aload_n (pc := 43) dX4_begin_43 (List.Mem.head _) ?_
          refine z_getR (pc := 44) (k := 5) (r := 106) dX4_begin_44 lf_X4_26 sh_104 rfl rf_104_5 ?_
          refine x_iload (pc := 47) dX4_begin_47 (List.Mem.tail _ (List.Mem.tail _ (List.Mem.tail _ (List.Mem.tail _ (List.Mem.head _))))) ?_
          refine x_iload_n (pc := 49) dX4_begin_49 (List.Mem.tail _ (List.Mem.tail _ (List.Mem.tail _ (List.Mem.head _)))) ?_
          refine z_if_eq (pc := 50) (tgt := 68) dX4_begin_50 (by decide) (by decide) (by decide) (fun h => absurd h (by decide)) (fun _ => ?_)
          refine x_aload_n (pc := 53) dX4_begin_53 (List.Mem.tail _ (List.Mem.head _)) ?_
          refine z_getR (pc := 54) (k := 4) (r := (s + 3)) dX4_begin_54 lf_X4_60 (sh_Sc0 hs) rfl (rf_Sc_4 hs) ?_
          refine x_iload (pc := 57) dX4_begin_57 (List.Mem.tail _ (List.Mem.tail _ (List.Mem.tail _ (List.Mem.tail _ (List.Mem.head _))))) ?_
          refine z_iald (pc := 59) (j := c) (v := (q (18 + c))) dX4_begin_59 (sh_Sc3 hs) rfl (by omega) (by decide) (by rw [wI1c (by omega)]; exact k3) ?_
          refine z_iconst (pc := 60) dX4_begin_60 ?_
          refine z_icmp_le (pc := 61) (tgt := 68) dX4_begin_61 (by decide) (by omega) (by omega) (by decide) (by decide) (fun hb19 => ?_) (fun hb19 => ?_)
          · skip
            refine x_aload_n (pc := 68) dX4_begin_68 (List.Mem.tail _ (List.Mem.head _)) ?_
            refine z_getR (pc := 69) (k := 4) (r := (s + 3)) dX4_begin_69 lf_X4_60 (sh_Sc0 hs) rfl (rf_Sc_4 hs) ?_
            refine x_iload (pc := 72) dX4_begin_72 (List.Mem.tail _ (List.Mem.tail _ (List.Mem.tail _ (List.Mem.tail _ (List.Mem.head _))))) ?_
            refine z_iald (pc := 74) (j := c) (v := (q (18 + c))) dX4_begin_74 (sh_Sc3 hs) rfl (by omega) (by decide) (by rw [wI1c (by omega)]; exact k3) ?_
            refine z_iast (pc := 75) (j := c) (v := ((q (18 + c)))) dX4_begin_75 sh_106 rfl (by omega) (by decide) ?_
            have ok20 := okI ok17 106 c (v := ((q (18 + c)))) (by omega) (by omega)
            refine x_aload_n (pc := 76) dX4_begin_76 (List.Mem.head _) ?_
            refine z_getR (pc := 77) (k := 6) (r := 107) dX4_begin_77 lf_X4_29 sh_104 rfl rf_104_6 ?_
            refine x_iload (pc := 80) dX4_begin_80 (List.Mem.tail _ (List.Mem.tail _ (List.Mem.tail _ (List.Mem.tail _ (List.Mem.head _))))) ?_
            refine z_iconst (pc := 82) dX4_begin_82 ?_
            refine z_iast (pc := 83) (j := c) (v := 0) dX4_begin_83 sh_107 rfl (by omega) (by decide) ?_
            have ok21 := okI ok20 107 c (v := 0) (by decide) (by decide)
            refine x_aload_n (pc := 84) dX4_begin_84 (List.Mem.head _) ?_
            refine z_getR (pc := 85) (k := 7) (r := 108) dX4_begin_85 lf_X4_32 sh_104 rfl rf_104_7 ?_
            refine x_iload (pc := 88) dX4_begin_88 (List.Mem.tail _ (List.Mem.tail _ (List.Mem.tail _ (List.Mem.tail _ (List.Mem.head _))))) ?_
            refine z_iconst (pc := 90) dX4_begin_90 ?_
            refine z_zast (pc := 91) (j := c) (v := 0) dX4_begin_91 sh_108 rfl (by omega) (by decide) (by omega) ?_
            have ok22 := okI ok21 108 c (v := 0) (by decide) (by decide)
            refine x_aload_n (pc := 92) dX4_begin_92 (List.Mem.head _) ?_
            refine z_getR (pc := 93) (k := 8) (r := 109) dX4_begin_93 lf_X4_36 sh_104 rfl rf_104_8 ?_
            refine x_iload (pc := 96) dX4_begin_96 (List.Mem.tail _ (List.Mem.tail _ (List.Mem.tail _ (List.Mem.tail _ (List.Mem.head _))))) ?_
            refine x_iload (pc := 98) dX4_begin_98 (List.Mem.tail _ (List.Mem.tail _ (List.Mem.tail _ (List.Mem.tail _ (List.Mem.head _))))) ?_
            refine z_iast (pc := 100) (j := c) (v := (c : Int)) dX4_begin_100 sh_109 rfl (by omega) (by decide) ?_
            have ok23 := okI ok22 109 c (v := (c : Int)) (by omega) (by omega)
            refine z_iinc (pc := 101) dX4_begin_101 (List.Mem.tail _ (List.Mem.tail _ (List.Mem.tail _ (List.Mem.tail _ (List.Mem.head _))))) (Nat.le_of_ble_eq_true rfl) ?_
            show Ev _ _ _ _ _ [(4, .int (zN ((c : Int) + 1))), (0, .ref 104), (1, .ref s), (2, .int (zN (k))), (3, .int (zN (1)))] _ _
            refine x_goto (pc := 104) (tgt := 20) dX4_begin_104 (by decide) ?_
            refine x_weaken (L1 := [(0, .ref 104), (1, .ref s), (2, .int (zN (k))), (3, .int (zN (1))), (4, .int (zN ((((c + 1) : Nat) : Int))))]) (List.forall_mem_cons.mpr ⟨(List.Mem.tail _ (List.Mem.head _)), (List.forall_mem_cons.mpr ⟨(List.Mem.tail _ (List.Mem.tail _ (List.Mem.head _))), (List.forall_mem_cons.mpr ⟨(List.Mem.tail _ (List.Mem.tail _ (List.Mem.tail _ (List.Mem.head _)))), (List.forall_mem_cons.mpr ⟨(List.Mem.tail _ (List.Mem.tail _ (List.Mem.tail _ (List.Mem.tail _ (List.Mem.head _))))), (List.forall_mem_cons.mpr ⟨(mem_ci (by omega) (List.Mem.head _)), (fun _ h => absurd h List.not_mem_nil)⟩)⟩)⟩)⟩)⟩) ?_
            exact ih20 ((c + 1)) (wI (wI (wI (wI (wI Hm 105 c (((q (10 + c))))) 106 c (((q (18 + c))))) 107 c (0)) 108 c (0)) 109 c ((c : Int))) ok23 (by first | assumption | omega) (FrK_tr fr (FrK_tr (FrK_I (by omega)) (FrK_tr (FrK_I (by omega)) (FrK_tr (FrK_I (by omega)) (FrK_tr (FrK_I (by omega)) (FrK_I (by omega))))))) (⟨by (repeat rw [wI1c (by omega)]); exact f4.1, by (repeat rw [wI1c (by omega)]); exact f4.2⟩) (fun j hj => by
      by_cases e : j = c
      · subst e
        refine ⟨?_, ?_, ?_, ?_, ?_⟩
        · rw [wI1c (by omega), wI1c (by omega), wI1c (by omega), wI1c (by omega), wI1]
        · rw [wI1c (by omega), wI1c (by omega), wI1c (by omega), wI1]
          unfold bsp
          first | exact (if_pos ⟨hU, by omega⟩).symm | exact (if_neg (fun z => absurd z.2 (by omega))).symm | exact (if_neg (fun z => hU z.1)).symm
        · rw [wI1c (by omega), wI1c (by omega), wI1]
        · rw [wI1c (by omega), wI1]
        · rw [wI1]
      · obtain ⟨a1, a2, a3, a4, a5⟩ := fc j (by omega)
        refine ⟨?_, ?_, ?_, ?_, ?_⟩
        · rw [wI1c (by omega), wI1c (by omega), wI1c (by omega), wI1c (by omega), wI1k e]; exact a1
        · rw [wI1c (by omega), wI1c (by omega), wI1c (by omega), wI1k e]; exact a2
        · rw [wI1c (by omega), wI1c (by omega), wI1k e]; exact a3
        · rw [wI1c (by omega), wI1k e]; exact a4
        · rw [wI1k e]; exact a5) (⟨f11.1, f11.2⟩) (fJ) (by omega)
          · skip
            refine z_iconst (pc := 64) dX4_begin_64 ?_
            refine x_goto (pc := 65) (tgt := 75) dX4_begin_65 (by decide) ?_
            refine z_iast (pc := 75) (j := c) (v := 4) dX4_begin_75 sh_106 rfl (by omega) (by decide) ?_
            have ok24 := okI ok17 106 c (v := 4) (by decide) (by decide)
            refine x_aload_n (pc := 76) dX4_begin_76 (List.Mem.head _) ?_
            refine z_getR (pc := 77) (k := 6) (r := 107) dX4_begin_77 lf_X4_29 sh_104 rfl rf_104_6 ?_
            refine x_iload (pc := 80) dX4_begin_80 (List.Mem.tail _ (List.Mem.tail _ (List.Mem.tail _ (List.Mem.tail _ (List.Mem.head _))))) ?_
            refine z_iconst (pc := 82) dX4_begin_82 ?_
            refine z_iast (pc := 83) (j := c) (v := 0) dX4_begin_83 sh_107 rfl (by omega) (by decide) ?_
            have ok25 := okI ok24 107 c (v := 0) (by decide) (by decide)
            refine x_aload_n (pc := 84) dX4_begin_84 (List.Mem.head _) ?_
            refine z_getR (pc := 85) (k := 7) (r := 108) dX4_begin_85 lf_X4_32 sh_104 rfl rf_104_7 ?_
            refine x_iload (pc := 88) dX4_begin_88 (List.Mem.tail _ (List.Mem.tail _ (List.Mem.tail _ (List.Mem.tail _ (List.Mem.head _))))) ?_
            refine z_iconst (pc := 90) dX4_begin_90 ?_
            refine z_zast (pc := 91) (j := c) (v := 0) dX4_begin_91 sh_108 rfl (by omega) (by decide) (by omega) ?_
            have ok26 := okI ok25 108 c (v := 0) (by decide) (by decide)
            refine x_aload_n (pc := 92) dX4_begin_92 (List.Mem.head _) ?_
            refine z_getR (pc := 93) (k := 8) (r := 109) dX4_begin_93 lf_X4_36 sh_104 rfl rf_104_8 ?_
            refine x_iload (pc := 96) dX4_begin_96 (List.Mem.tail _ (List.Mem.tail _ (List.Mem.tail _ (List.Mem.tail _ (List.Mem.head _))))) ?_
            refine x_iload (pc := 98) dX4_begin_98 (List.Mem.tail _ (List.Mem.tail _ (List.Mem.tail _ (List.Mem.tail _ (List.Mem.head _))))) ?_
            refine z_iast (pc := 100) (j := c) (v := (c : Int)) dX4_begin_100 sh_109 rfl (by omega) (by decide) ?_
            have ok27 := okI ok26 109 c (v := (c : Int)) (by omega) (by omega)
            refine z_iinc (pc := 101) dX4_begin_101 (List.Mem.tail _ (List.Mem.tail _ (List.Mem.tail _ (List.Mem.tail _ (List.Mem.head _))))) (Nat.le_of_ble_eq_true rfl) ?_
            show Ev _ _ _ _ _ [(4, .int (zN ((c : Int) + 1))), (0, .ref 104), (1, .ref s), (2, .int (zN (k))), (3, .int (zN (1)))] _ _
            refine x_goto (pc := 104) (tgt := 20) dX4_begin_104 (by decide) ?_
            refine x_weaken (L1 := [(0, .ref 104), (1, .ref s), (2, .int (zN (k))), (3, .int (zN (1))), (4, .int (zN ((((c + 1) : Nat) : Int))))]) (List.forall_mem_cons.mpr ⟨(List.Mem.tail _ (List.Mem.head _)), (List.forall_mem_cons.mpr ⟨(List.Mem.tail _ (List.Mem.tail _ (List.Mem.head _))), (List.forall_mem_cons.mpr ⟨(List.Mem.tail _ (List.Mem.tail _ (List.Mem.tail _ (List.Mem.head _)))), (List.forall_mem_cons.mpr ⟨(List.Mem.tail _ (List.Mem.tail _ (List.Mem.tail _ (List.Mem.tail _ (List.Mem.head _))))), (List.forall_mem_cons.mpr ⟨(mem_ci (by omega) (List.Mem.head _)), (fun _ h => absurd h List.not_mem_nil)⟩)⟩)⟩)⟩)⟩) ?_
            exact ih20 ((c + 1)) (wI (wI (wI (wI (wI Hm 105 c (((q (10 + c))))) 106 c (4)) 107 c (0)) 108 c (0)) 109 c ((c : Int))) ok27 (by first | assumption | omega) (FrK_tr fr (FrK_tr (FrK_I (by omega)) (FrK_tr (FrK_I (by omega)) (FrK_tr (FrK_I (by omega)) (FrK_tr (FrK_I (by omega)) (FrK_I (by omega))))))) (⟨by (repeat rw [wI1c (by omega)]); exact f4.1, by (repeat rw [wI1c (by omega)]); exact f4.2⟩) (fun j hj => by
      by_cases e : j = c
      · subst e
        refine ⟨?_, ?_, ?_, ?_, ?_⟩
        · rw [wI1c (by omega), wI1c (by omega), wI1c (by omega), wI1c (by omega), wI1]
        · rw [wI1c (by omega), wI1c (by omega), wI1c (by omega), wI1]
          unfold bsp
          first | exact (if_pos ⟨hU, by omega⟩).symm | exact (if_neg (fun z => absurd z.2 (by omega))).symm | exact (if_neg (fun z => hU z.1)).symm
        · rw [wI1c (by omega), wI1c (by omega), wI1]
        · rw [wI1c (by omega), wI1]
        · rw [wI1]
      · obtain ⟨a1, a2, a3, a4, a5⟩ := fc j (by omega)
        refine ⟨?_, ?_, ?_, ?_, ?_⟩
        · rw [wI1c (by omega), wI1c (by omega), wI1c (by omega), wI1c (by omega), wI1k e]; exact a1
        · rw [wI1c (by omega), wI1c (by omega), wI1c (by omega), wI1k e]; exact a2
        · rw [wI1c (by omega), wI1c (by omega), wI1k e]; exact a3
        · rw [wI1c (by omega), wI1k e]; exact a4
        · rw [wI1k e]; exact a5) (⟨f11.1, f11.2⟩) (fJ) (by omega)
    refine x_weaken (L1 := [(0, .ref 104), (1, .ref s), (2, .int (zN (k))), (3, .int (zN (1))), (4, .int (zN (((0 : Nat) : Int))))]) (List.forall_mem_cons.mpr ⟨(List.Mem.tail _ (List.Mem.tail _ (List.Mem.head _))), (List.forall_mem_cons.mpr ⟨(List.Mem.tail _ (List.Mem.tail _ (List.Mem.tail _ (List.Mem.head _)))), (List.forall_mem_cons.mpr ⟨(List.Mem.tail _ (List.Mem.tail _ (List.Mem.tail _ (List.Mem.tail _ (List.Mem.head _))))), (List.forall_mem_cons.mpr ⟨(List.Mem.tail _ (List.Mem.head _)), (List.forall_mem_cons.mpr ⟨(mem_ci (by omega) (List.Mem.head _)), (fun _ h => absurd h List.not_mem_nil)⟩)⟩)⟩)⟩)⟩) ?_
    exact lp20 ((q 1).toNat - 0 + 1) (0) (wI (wI H 104 1 ((s : Nat))) 104 3 (k)) ok4 (by first | assumption | omega) (FrK_tr (FrK_I (by omega)) (FrK_I (by omega))) (⟨by rw [wI1k (by omega), wI1], by rw [wI1]⟩) (fun j h => absurd h (Nat.not_lt_zero _)) (⟨rfl, rfl⟩) (rfl) (Nat.lt_succ_self _)
  · skip
    have hU : ¬ q 34 / 2 ^ 6 % 2 = 1 := hc5
    refine x_istore_n (pc := 16) dX4_begin_16 (Nat.le_of_ble_eq_true rfl) ?_
    show Ev _ _ _ _ _ [(3, .int (zN (0))), (0, .ref 104), (1, .ref s), (2, .int (zN (k)))] _ _
    refine z_iconst (pc := 17) dX4_begin_17 ?_
    refine x_istore (pc := 18) dX4_begin_18 (Nat.le_of_ble_eq_true rfl) ?_
    show Ev _ _ _ _ _ [(4, .int (zN (0))), (3, .int (zN (0))), (0, .ref 104), (1, .ref s), (2, .int (zN (k)))] _ _
    have lp20 : ∀ (nF : Nat) (c : Nat) (Hm : ZH), okZ Hm → ((c : Int) ≤ q 1) → (FrK H Hm) → (Hm.1 104 1 = (s : Int) ∧ Hm.1 104 3 = k) → (∀ j, j < c → Hm.1 105 j = q (10 + j) ∧ Hm.1 106 j = bsp q j ∧ Hm.1 107 j = 0 ∧ Hm.1 108 j = 0 ∧ Hm.1 109 j = (j : Int)) → (Hm.1 111 = H.1 111 ∧ Hm.1 112 = H.1 112) → (Hm.2 = H.2) → (q 1).toNat - c < nF → Ev zX mX4_begin (EvC zX (d + 1)) (zPv (fun (H1 : ZH) => RdB H H1 s k q)) 20 [(0, .ref 104), (1, .ref s), (2, .int (zN (k))), (3, .int (zN (0))), (4, .int (zN ((c : Int))))] [] (eh Hm) := by
      intro nF
      induction nF with
      | zero => intro c Hm okl20 hc fr f4 fc f11 fJ hm; exact absurd hm (Nat.not_lt_zero _)
      | succ nF ih20 =>
        intro c Hm okl20 hc fr f4 fc f11 fJ hm
        have rsm := FrK_sc fr hs rs
        obtain ⟨rm0, rm1, rmC, rm34, rm35, rm36, rm37, rm38, rm39⟩ := rsm
        refine x_iload (pc := 20) dX4_begin_20 (List.Mem.tail _ (List.Mem.tail _ (List.Mem.tail _ (List.Mem.tail _ (List.Mem.head _))))) ?_
        refine x_aload_n (pc := 22) dX4_begin_22 (List.Mem.tail _ (List.Mem.head _)) ?_
        refine z_getI (pc := 23) (k := 1) (v := (q 1)) dX4_begin_23 lf_X4_56 (sh_Sc0 hs) rfl rm1 ?_
        refine z_icmp_ge (pc := 26) (tgt := 107) dX4_begin_26 (by decide) (by omega) (by omega) (by omega) (by omega) (fun hb28 => ?_) (fun hb28 => ?_)
        · skip
          refine x_aload_n (pc := 107) dX4_begin_107 (List.Mem.head _) ?_
          refine z_iconst (pc := 108) dX4_begin_108 ?_
          refine z_putI (pc := 109) (k := 10) dX4_begin_109 lp_X4_61 sh_104 rfl ?_
          have ok29 := okI okl20 104 10 (v := 0) (by decide) (by decide)
          refine x_aload_n (pc := 112) dX4_begin_112 (List.Mem.head _) ?_
          refine z_iconst (pc := 113) dX4_begin_113 ?_
          refine z_putZ (pc := 114) (k := 11) dX4_begin_114 lp_X4_64 sh_104 rfl (by omega) ?_
          have ok30 := okI ok29 104 11 (v := 0) (by decide) (by decide)
          refine x_aload_n (pc := 117) dX4_begin_117 (List.Mem.head _) ?_
          refine z_iconst (pc := 118) dX4_begin_118 ?_
          refine z_putI (pc := 119) (k := 12) dX4_begin_119 lp_X4_68 sh_104 rfl ?_
          have ok31 := okI ok30 104 12 (v := 0) (by decide) (by decide)
          refine x_aload_n (pc := 122) dX4_begin_122 (List.Mem.head _) ?_
          refine z_iconst (pc := 123) dX4_begin_123 ?_
          refine z_putI (pc := 124) (k := 13) dX4_begin_124 lp_X4_71 sh_104 rfl ?_
          have ok32 := okI ok31 104 13 (v := 0) (by decide) (by decide)
          refine x_aload_n (pc := 127) dX4_begin_127 (List.Mem.head _) ?_
          refine z_iconst (pc := 128) dX4_begin_128 ?_
          refine z_putI (pc := 129) (k := 14) dX4_begin_129 lp_X4_74 sh_104 rfl ?_
          have ok33 := okI ok32 104 14 (v := 0) (by decide) (by decide)
          refine x_aload_n (pc := 132) dX4_begin_132 (List.Mem.head _) ?_
          refine z_iconst (pc := 133) dX4_begin_133 ?_
          refine z_putI (pc := 134) (k := 15) dX4_begin_134 lp_X4_77 sh_104 rfl ?_
          have ok34 := okI ok33 104 15 (v := 0) (by decide) (by decide)
          refine x_aload_n (pc := 137) dX4_begin_137 (List.Mem.head _) ?_
          refine z_iconst (pc := 138) dX4_begin_138 ?_
          refine z_putI (pc := 139) (k := 16) dX4_begin_139 lp_X4_80 sh_104 rfl ?_
          have ok35 := okI ok34 104 16 (v := 0) (by decide) (by decide)
          refine x_aload_n (pc := 142) dX4_begin_142 (List.Mem.head _) ?_
          refine z_iconst (pc := 143) dX4_begin_143 ?_
          refine z_putI (pc := 144) (k := 17) dX4_begin_144 lp_X4_83 sh_104 rfl ?_
          have ok36 := okI ok35 104 17 (v := (-1)) (by decide) (by decide)
          refine x_aload_n (pc := 147) dX4_begin_147 (List.Mem.head _) ?_
          refine z_getR (pc := 148) (k := 0) (r := 111) dX4_begin_148 lf_X4_12 sh_104 rfl rf_104_0 ?_
          refine z_callVvp (pc := 151) (i := mX0_begin) (S := []) [] dX4_begin_151 ml_X4_86 ok_X0_begin rfl sh_111 rfl rfl (Nat.le_of_ble_eq_true rfl) (c_X0_begin (d := d) (ok := ok36)) (fun ok38 => ?_)
          refine z_vreturn (pc := 154) dX4_begin_154 rfl ok38 ?_
          have hn : c = (q 1).toNat := by omega
          refine ⟨?_, ?_, ?_, fun o sd => ⟨fun j hj => ?_, ?_, ?_, ?_, ?_, ?_, ?_, ?_, ?_⟩, Perm8_id (fun i hi => ?_), ?_, ?_, fun j hj => ?_, fun j => ?_⟩
          · exact FrK_tr fr (FrK_tr (FrK_I (by omega)) (FrK_tr (FrK_I (by omega)) (FrK_tr (FrK_I (by omega)) (FrK_tr (FrK_I (by omega)) (FrK_tr (FrK_I (by omega)) (FrK_tr (FrK_I (by omega)) (FrK_tr (FrK_I (by omega)) (FrK_tr (FrK_I (by omega)) (FrK_tr (FrK_I (by omega)) FrK_J)))))))))
          · exact f4.1
          · exact f4.2
          · obtain ⟨b1, b2, b3, b4⟩ := bgn_at (o := o) (wc := -1) (sd := sd) ws1 hj
            rw [b1, b2, b3, b4, if_neg (by omega)]
            obtain ⟨a1, a2, a3, a4, a5⟩ := fc j (by omega)
            exact ⟨a1, a2, a3, a4⟩
          · exact ((bgn_f (o := o) (wc := -1) (sd := sd) ws1).2.2 32 (by omega) (by omega)).symm
          · exact ((bgn_f (o := o) (wc := -1) (sd := sd) ws1).2.2 33 (by omega) (by omega)).symm
          · exact ((bgn_f (o := o) (wc := -1) (sd := sd) ws1).2.2 34 (by omega) (by omega)).symm
          · exact ((bgn_f (o := o) (wc := -1) (sd := sd) ws1).2.2 35 (by omega) (by omega)).symm
          · exact ((bgn_f (o := o) (wc := -1) (sd := sd) ws1).2.2 36 (by omega) (by omega)).symm
          · exact ((bgn_f (o := o) (wc := -1) (sd := sd) ws1).2.2 37 (by omega) (by omega)).symm
          · exact ((bgn_f (o := o) (wc := -1) (sd := sd) ws1).2.2 38 (by omega) (by omega)).symm
          · exact (bgn_f (o := o) (wc := -1) (sd := sd) ws1).1.symm
          · exact (fc i (by omega)).2.2.2.2
          · rfl
          · rfl
          · exact (wI1k hj).trans (congrFun f11.1 j)
          · exact congrFun f11.2 j
        · skip
          obtain ⟨k1, k2, k3, k4⟩ := rmC c (by omega)
          have wck := wsC c (by omega)
          refine x_aload_n (pc := 29) dX4_begin_29 (List.Mem.head _) ?_
          refine z_getR (pc := 30) (k := 4) (r := 105) dX4_begin_30 lf_X4_22 sh_104 rfl rf_104_4 ?_
          refine x_iload (pc := 33) dX4_begin_33 (List.Mem.tail _ (List.Mem.tail _ (List.Mem.tail _ (List.Mem.tail _ (List.Mem.head _))))) ?_
          refine x_aload_n (pc := 35) dX4_begin_35 (List.Mem.tail _ (List.Mem.head _)) ?_
          refine z_getR (pc := 36) (k := 3) (r := (s + 2)) dX4_begin_36 lf_X4_59 (sh_Sc0 hs) rfl (rf_Sc_3 hs) ?_
          refine x_iload (pc := 39) dX4_begin_39 (List.Mem.tail _ (List.Mem.tail _ (List.Mem.tail _ (List.Mem.tail _ (List.Mem.head _))))) ?_
          refine z_iald (pc := 41) (j := c) (v := (q (10 + c))) dX4_begin_41 (sh_Sc2 hs) rfl (by omega) (by decide) k2 ?_
          refine z_iast (pc := 42) (j := c) (v := ((q (10 + c)))) dX4_begin_42 sh_105 rfl (by omega) (by decide) ?_
          have ok39 := okI okl20 105 c (v := ((q (10 + c)))) (by omega) (by omega)
          refine x_aload_n (pc := 43) dX4_begin_43 (List.Mem.head _) ?_
          refine z_getR (pc := 44) (k := 5) (r := 106) dX4_begin_44 lf_X4_26 sh_104 rfl rf_104_5 ?_
          refine x_iload (pc := 47) dX4_begin_47 (List.Mem.tail _ (List.Mem.tail _ (List.Mem.tail _ (List.Mem.tail _ (List.Mem.head _))))) ?_
          refine x_iload_n (pc := 49) dX4_begin_49 (List.Mem.tail _ (List.Mem.tail _ (List.Mem.tail _ (List.Mem.head _)))) ?_
          refine z_if_eq (pc := 50) (tgt := 68) dX4_begin_50 (by decide) (by decide) (by decide) (fun _ => ?_) (fun h => absurd h (by decide))
          refine x_aload_n (pc := 68) dX4_begin_68 (List.Mem.tail _ (List.Mem.head _)) ?_
          refine z_getR (pc := 69) (k := 4) (r := (s + 3)) dX4_begin_69 lf_X4_60 (sh_Sc0 hs) rfl (rf_Sc_4 hs) ?_
          refine x_iload (pc := 72) dX4_begin_72 (List.Mem.tail _ (List.Mem.tail _ (List.Mem.tail _ (List.Mem.tail _ (List.Mem.head _))))) ?_
          refine z_iald (pc := 74) (j := c) (v := (q (18 + c))) dX4_begin_74 (sh_Sc3 hs) rfl (by omega) (by decide) (by rw [wI1c (by omega)]; exact k3) ?_
          refine z_iast (pc := 75) (j := c) (v := ((q (18 + c)))) dX4_begin_75 sh_106 rfl (by omega) (by decide) ?_
          have ok41 := okI ok39 106 c (v := ((q (18 + c)))) (by omega) (by omega)
          refine x_aload_n (pc := 76) dX4_begin_76 (List.Mem.head _) ?_
          refine z_getR (pc := 77) (k := 6) (r := 107) dX4_begin_77 lf_X4_29 sh_104 rfl rf_104_6 ?_
          refine x_iload (pc := 80) dX4_begin_80 (List.Mem.tail _ (List.Mem.tail _ (List.Mem.tail _ (List.Mem.tail _ (List.Mem.head _))))) ?_
          refine z_iconst (pc := 82) dX4_begin_82 ?_
          refine z_iast (pc := 83) (j := c) (v := 0) dX4_begin_83 sh_107 rfl (by omega) (by decide) ?_
          have ok42 := okI ok41 107 c (v := 0) (by decide) (by decide)
          refine x_aload_n (pc := 84) dX4_begin_84 (List.Mem.head _) ?_
          refine z_getR (pc := 85) (k := 7) (r := 108) dX4_begin_85 lf_X4_32 sh_104 rfl rf_104_7 ?_
          refine x_iload (pc := 88) dX4_begin_88 (List.Mem.tail _ (List.Mem.tail _ (List.Mem.tail _ (List.Mem.tail _ (List.Mem.head _))))) ?_
          refine z_iconst (pc := 90) dX4_begin_90 ?_
          refine z_zast (pc := 91) (j := c) (v := 0) dX4_begin_91 sh_108 rfl (by omega) (by decide) (by omega) ?_
          have ok43 := okI ok42 108 c (v := 0) (by decide) (by decide)
          refine x_aload_n (pc := 92) dX4_begin_92 (List.Mem.head _) ?_
          refine z_getR (pc := 93) (k := 8) (r := 109) dX4_begin_93 lf_X4_36 sh_104 rfl rf_104_8 ?_
          refine x_iload (pc := 96) dX4_begin_96 (List.Mem.tail _ (List.Mem.tail _ (List.Mem.tail _ (List.Mem.tail _ (List.Mem.head _))))) ?_
          refine x_iload (pc := 98) dX4_begin_98 (List.Mem.tail _ (List.Mem.tail _ (List.Mem.tail _ (List.Mem.tail _ (List.Mem.head _))))) ?_
          refine z_iast (pc := 100) (j := c) (v := (c : Int)) dX4_begin_100 sh_109 rfl (by omega) (by decide) ?_
          have ok44 := okI ok43 109 c (v := (c : Int)) (by omega) (by omega)
          refine z_iinc (pc := 101) dX4_begin_101 (List.Mem.tail _ (List.Mem.tail _ (List.Mem.tail _ (List.Mem.tail _ (List.Mem.head _))))) (Nat.le_of_ble_eq_true rfl) ?_
          show Ev _ _ _ _ _ [(4, .int (zN ((c : Int) + 1))), (0, .ref 104), (1, .ref s), (2, .int (zN (k))), (3, .int (zN (0)))] _ _
          refine x_goto (pc := 104) (tgt := 20) dX4_begin_104 (by decide) ?_
          refine x_weaken (L1 := [(0, .ref 104), (1, .ref s), (2, .int (zN (k))), (3, .int (zN (0))), (4, .int (zN ((((c + 1) : Nat) : Int))))]) (List.forall_mem_cons.mpr ⟨(List.Mem.tail _ (List.Mem.head _)), (List.forall_mem_cons.mpr ⟨(List.Mem.tail _ (List.Mem.tail _ (List.Mem.head _))), (List.forall_mem_cons.mpr ⟨(List.Mem.tail _ (List.Mem.tail _ (List.Mem.tail _ (List.Mem.head _)))), (List.forall_mem_cons.mpr ⟨(List.Mem.tail _ (List.Mem.tail _ (List.Mem.tail _ (List.Mem.tail _ (List.Mem.head _))))), (List.forall_mem_cons.mpr ⟨(mem_ci (by omega) (List.Mem.head _)), (fun _ h => absurd h List.not_mem_nil)⟩)⟩)⟩)⟩)⟩) ?_
          exact ih20 ((c + 1)) (wI (wI (wI (wI (wI Hm 105 c (((q (10 + c))))) 106 c (((q (18 + c))))) 107 c (0)) 108 c (0)) 109 c ((c : Int))) ok44 (by first | assumption | omega) (FrK_tr fr (FrK_tr (FrK_I (by omega)) (FrK_tr (FrK_I (by omega)) (FrK_tr (FrK_I (by omega)) (FrK_tr (FrK_I (by omega)) (FrK_I (by omega))))))) (⟨by (repeat rw [wI1c (by omega)]); exact f4.1, by (repeat rw [wI1c (by omega)]); exact f4.2⟩) (fun j hj => by
      by_cases e : j = c
      · subst e
        refine ⟨?_, ?_, ?_, ?_, ?_⟩
        · rw [wI1c (by omega), wI1c (by omega), wI1c (by omega), wI1c (by omega), wI1]
        · rw [wI1c (by omega), wI1c (by omega), wI1c (by omega), wI1]
          unfold bsp
          first | exact (if_pos ⟨hU, by omega⟩).symm | exact (if_neg (fun z => absurd z.2 (by omega))).symm | exact (if_neg (fun z => hU z.1)).symm
        · rw [wI1c (by omega), wI1c (by omega), wI1]
        · rw [wI1c (by omega), wI1]
        · rw [wI1]
      · obtain ⟨a1, a2, a3, a4, a5⟩ := fc j (by omega)
        refine ⟨?_, ?_, ?_, ?_, ?_⟩
        · rw [wI1c (by omega), wI1c (by omega), wI1c (by omega), wI1c (by omega), wI1k e]; exact a1
        · rw [wI1c (by omega), wI1c (by omega), wI1c (by omega), wI1k e]; exact a2
        · rw [wI1c (by omega), wI1c (by omega), wI1k e]; exact a3
        · rw [wI1c (by omega), wI1k e]; exact a4
        · rw [wI1k e]; exact a5) (⟨f11.1, f11.2⟩) (fJ) (by omega)
    refine x_weaken (L1 := [(0, .ref 104), (1, .ref s), (2, .int (zN (k))), (3, .int (zN (0))), (4, .int (zN (((0 : Nat) : Int))))]) (List.forall_mem_cons.mpr ⟨(List.Mem.tail _ (List.Mem.tail _ (List.Mem.head _))), (List.forall_mem_cons.mpr ⟨(List.Mem.tail _ (List.Mem.tail _ (List.Mem.tail _ (List.Mem.head _)))), (List.forall_mem_cons.mpr ⟨(List.Mem.tail _ (List.Mem.tail _ (List.Mem.tail _ (List.Mem.tail _ (List.Mem.head _))))), (List.forall_mem_cons.mpr ⟨(List.Mem.tail _ (List.Mem.head _)), (List.forall_mem_cons.mpr ⟨(mem_ci (by omega) (List.Mem.head _)), (fun _ h => absurd h List.not_mem_nil)⟩)⟩)⟩)⟩)⟩) ?_
    exact lp20 ((q 1).toNat - 0 + 1) (0) (wI (wI H 104 1 ((s : Nat))) 104 3 (k)) ok4 (by first | assumption | omega) (FrK_tr (FrK_I (by omega)) (FrK_I (by omega))) (⟨by rw [wI1k (by omega), wI1], by rw [wI1]⟩) (fun j h => absurd h (Nat.not_lt_zero _)) (⟨rfl, rfl⟩) (rfl) (Nat.lt_succ_self _)

theorem c_X10_chance {d : Nat} {H : ZH} (ok : okZ H) (o : Nat → Int) (sd : Int) {a : Int} (a1 : -2147483648 ≤ a) (a2 : a ≤ 2147483647) (cn : cntOK H 25) (ws : WFS (H.1 2)) (rs : RepSc H 35 (H.1 2)) (rl : RepLw H (H.1 2)) (wl : WFL (H.1 2)) : EvC zX (d + 4) mX10_chance [.ref 20, .int (zN (a))] (eh H) (zPi (fun (r : Int) (H1 : ZH) => ((0 ≤ a ∧ a ≤ H.1 2 1 - 1) ∧ r = tsp (H.1 2) (bgn (H.1 2) o (-1) sd) (-1) a.toNat (H.1 2 40).toNat 0 ∧ FrK H H1) ∨ (¬ (0 ≤ a ∧ a ≤ H.1 2 1 - 1) ∧ r = -2 ∧ H1 = bumpC 0 H))) := by
  show _ ∧ Ev zX mX10_chance (EvC zX (d + 3)) (zPi (fun (r : Int) (H1 : ZH) => ((0 ≤ a ∧ a ≤ H.1 2 1 - 1) ∧ r = tsp (H.1 2) (bgn (H.1 2) o (-1) sd) (-1) a.toNat (H.1 2 40).toNat 0 ∧ FrK H H1) ∨ (¬ (0 ≤ a ∧ a ≤ H.1 2 1 - 1) ∧ r = -2 ∧ H1 = bumpC 0 H))) 0 [(0, .ref 20), (1, .int (zN (a)))] [] (eh H)
  refine ⟨Nat.le_of_ble_eq_true rfl, ?_⟩
  have wsx := ws
  obtain ⟨ws0, ws1, wsC, ws34, ws35, ws36, ws37, ws38, ws39⟩ := wsx
  have rsx := rs
  obtain ⟨rs0, rs1, rsC, rs34, rs35, rs36, rs37, rs38, rs39⟩ := rsx
  refine x_aload_n (pc := 0) dX10_chance_0 (List.Mem.head _) ?_
  refine x_iload_n (pc := 1) dX10_chance_1 (List.Mem.tail _ (List.Mem.head _)) ?_
  refine z_callVbp (pc := 2) (i := mX10_isCar) (S := []) [.int (zN (a))] dX10_chance_2 ml_X10_137 ok_X10_isCar rfl sh_20 rfl (Or.inr rfl) (Nat.le_of_ble_eq_true rfl) (c_X10_isCar (d := d + 2) (a := a) (a1 := (by omega)) (a2 := (by omega)) (ok := ok) (ws := (by first | assumption | omega)) (rs := (by first | assumption | omega))) (fun hc3 ok2 => ?_) (fun hc3 ok2 => ?_)
  · skip
    refine z_if_ne (pc := 5) (tgt := 15) dX10_chance_5 (by decide) (by decide) (by decide) (fun _ => ?_) (fun h => absurd h (by decide))
    refine x_aload_n (pc := 15) dX10_chance_15 (List.Mem.head _) ?_
    refine z_getR (pc := 16) (k := 6) (r := 104) dX10_chance_16 lf_X10_48 sh_20 rfl rf_20_6 ?_
    refine x_aload_n (pc := 19) dX10_chance_19 (List.Mem.head _) ?_
    refine z_getR (pc := 20) (k := 3) (r := 98) dX10_chance_20 lf_X10_23 sh_20 rfl rf_20_3 ?_
    refine z_getR (pc := 23) (k := 0) (r := 35) dX10_chance_23 lf_X10_37 sh_98 rfl rf_98_0 ?_
    refine z_iconst (pc := 26) dX10_chance_26 ?_
    refine z_callVv (pc := 27) (i := mX4_begin) (S := []) [.ref 35, .int (zN ((-1)))] dX10_chance_27 ml_X10_166 ok_X4_begin rfl sh_104 rfl rfl (Nat.le_of_ble_eq_true rfl) (c_X4_begin (d := d + 1) (s := 35) (q := (H.1 2)) (k := ((-1))) (k1 := (by omega)) (k2 := (by omega)) (ok := ok2) (hs := isSc_35) (ws := ws) (rs := rs)) ?_
    intro Hb ok6 hp7
    obtain ⟨fr, b1, b3, bR, bP, _⟩ := hp7
    have rsb := FrK_sc fr isSc_35 rs
    have rlb := FrK_lw fr rl
    refine x_aload_n (pc := 30) dX10_chance_30 (List.Mem.head _) ?_
    refine z_getR (pc := 31) (k := 6) (r := 104) dX10_chance_31 lf_X10_48 sh_20 rfl rf_20_6 ?_
    refine x_iload_n (pc := 34) dX10_chance_34 (List.Mem.tail _ (List.Mem.head _)) ?_
    refine z_callVip (pc := 35) (i := mX4_percentFor) (S := []) [.int (zN (a))] dX10_chance_35 ml_X10_170 ok_X4_percentFor rfl sh_104 rfl (Or.inl rfl) (Nat.le_of_ble_eq_true rfl) (by have qz := c_X4_percentFor (d := d) (s := 35) (q := (H.1 2)) (N := (bgn (H.1 2) o (-1) sd)) (c := a.toNat) (hc := (show ((a.toNat : Nat) : Int) < H.1 2 1 by omega)) (ok := ok6) (hs := isSc_35) (hsc := (show Hb.1 104 1 = ((35 : Nat) : Int) from b1)) (ws := ws) (rs := rsb) (wn := (bgn_wfn (o := o) (wc := -1) (sd := sd) ws)) (rd := (bR o sd)) (rl := rlb) (wl := wl); rw [show ((a.toNat : Nat) : Int) = a by omega] at qz; exact qz) (fun r8a r8b ok9 => ?_)
    refine z_ireturn (pc := 38) dX10_chance_38 rfl (Or.inl rfl) ok9 (by omega) (by omega) ?_
    exact Or.inl ⟨by omega, by rw [b3], fr⟩
  · skip
    refine z_if_ne (pc := 5) (tgt := 15) dX10_chance_5 (by decide) (by decide) (by decide) (fun h => absurd h (by decide)) (fun _ => ?_)
    refine x_aload_n (pc := 8) dX10_chance_8 (List.Mem.head _) ?_
    refine z_bipush (pc := 9) dX10_chance_9 bp_m2 ?_
    refine z_callVip (pc := 11) (i := mX10_refuse) (S := []) [.int (zN ((-2)))] dX10_chance_11 ml_X10_97 ok_X10_refuse rfl sh_20 rfl (Or.inl rfl) (Nat.le_of_ble_eq_true rfl) (c_X10_refuse (d := d + 2) (code := ((-2))) (code1 := (by omega)) (code2 := (by omega)) (ok := ok2) (cn := (by first | assumption | omega))) (fun r11a r11b ok12 => ?_)
    show Ev _ _ _ _ _ _ _ (eh (wI H 25 ((refIx ((-2)))) (H.1 25 (refIx ((-2))) + 1)))
    refine z_ireturn (pc := 14) dX10_chance_14 rfl (Or.inl rfl) ok12 (by omega) (by omega) ?_
    exact Or.inr ⟨by omega, rfl, rfl⟩

theorem c_X10_can {d : Nat} {H : ZH} (ok : okZ H) (o : Nat → Int) (sd : Int) {a : Int} (a1 : -2147483648 ≤ a) (a2 : a ≤ 2147483647) (cn : cntOK H 25) (ws : WFS (H.1 2)) (rs : RepSc H 35 (H.1 2)) : EvC zX (d + 3) mX10_can [.ref 20, .int (zN (a))] (eh H) (zPi (fun (r : Int) (H1 : ZH) => ((0 ≤ a ∧ a ≤ H.1 2 1 - 1) ∧ r = (if (bgn (H.1 2) o (-1) sd) (8 + a.toNat) * ((bgn (H.1 2) o (-1) sd) (8 + a.toNat) - 1) / 2 ≤ (bgn (H.1 2) o (-1) sd) a.toNat - H.1 2 35 then 1 else 0) ∧ FrK H H1) ∨ (¬ (0 ≤ a ∧ a ≤ H.1 2 1 - 1) ∧ r = -2 ∧ H1 = bumpC 0 H))) := by
  show _ ∧ Ev zX mX10_can (EvC zX (d + 2)) (zPi (fun (r : Int) (H1 : ZH) => ((0 ≤ a ∧ a ≤ H.1 2 1 - 1) ∧ r = (if (bgn (H.1 2) o (-1) sd) (8 + a.toNat) * ((bgn (H.1 2) o (-1) sd) (8 + a.toNat) - 1) / 2 ≤ (bgn (H.1 2) o (-1) sd) a.toNat - H.1 2 35 then 1 else 0) ∧ FrK H H1) ∨ (¬ (0 ≤ a ∧ a ≤ H.1 2 1 - 1) ∧ r = -2 ∧ H1 = bumpC 0 H))) 0 [(0, .ref 20), (1, .int (zN (a)))] [] (eh H)
  refine ⟨Nat.le_of_ble_eq_true rfl, ?_⟩
  have wsx := ws
  obtain ⟨ws0, ws1, wsC, ws34, ws35, ws36, ws37, ws38, ws39⟩ := wsx
  have rsx := rs
  obtain ⟨rs0, rs1, rsC, rs34, rs35, rs36, rs37, rs38, rs39⟩ := rsx
  refine x_aload_n (pc := 0) dX10_can_0 (List.Mem.head _) ?_
  refine x_iload_n (pc := 1) dX10_can_1 (List.Mem.tail _ (List.Mem.head _)) ?_
  refine z_callVbp (pc := 2) (i := mX10_isCar) (S := []) [.int (zN (a))] dX10_can_2 ml_X10_137 ok_X10_isCar rfl sh_20 rfl (Or.inr rfl) (Nat.le_of_ble_eq_true rfl) (c_X10_isCar (d := d + 1) (a := a) (a1 := (by omega)) (a2 := (by omega)) (ok := ok) (ws := (by first | assumption | omega)) (rs := (by first | assumption | omega))) (fun hc3 ok2 => ?_) (fun hc3 ok2 => ?_)
  · skip
    refine z_if_ne (pc := 5) (tgt := 15) dX10_can_5 (by decide) (by decide) (by decide) (fun _ => ?_) (fun h => absurd h (by decide))
    refine x_aload_n (pc := 15) dX10_can_15 (List.Mem.head _) ?_
    refine z_getR (pc := 16) (k := 6) (r := 104) dX10_can_16 lf_X10_48 sh_20 rfl rf_20_6 ?_
    refine x_aload_n (pc := 19) dX10_can_19 (List.Mem.head _) ?_
    refine z_getR (pc := 20) (k := 3) (r := 98) dX10_can_20 lf_X10_23 sh_20 rfl rf_20_3 ?_
    refine z_getR (pc := 23) (k := 0) (r := 35) dX10_can_23 lf_X10_37 sh_98 rfl rf_98_0 ?_
    refine z_iconst (pc := 26) dX10_can_26 ?_
    refine z_callVv (pc := 27) (i := mX4_begin) (S := []) [.ref 35, .int (zN ((-1)))] dX10_can_27 ml_X10_166 ok_X4_begin rfl sh_104 rfl rfl (Nat.le_of_ble_eq_true rfl) (c_X4_begin (d := d) (s := 35) (q := (H.1 2)) (k := ((-1))) (k1 := (by omega)) (k2 := (by omega)) (ok := ok2) (hs := isSc_35) (ws := ws) (rs := rs)) ?_
    intro Hb ok6 hp7
    obtain ⟨fr, b1, b3, bR, bP, _⟩ := hp7
    have rsb := FrK_sc fr isSc_35 rs
    refine x_aload_n (pc := 30) dX10_can_30 (List.Mem.head _) ?_
    refine z_getR (pc := 31) (k := 6) (r := 104) dX10_can_31 lf_X10_48 sh_20 rfl rf_20_6 ?_
    refine x_iload_n (pc := 34) dX10_can_34 (List.Mem.tail _ (List.Mem.head _)) ?_
    refine z_callVbp (pc := 35) (i := mX4_hasRoom) (S := []) [.int (zN (a))] dX10_can_35 ml_X10_173 ok_X4_hasRoom rfl sh_104 rfl (Or.inr rfl) (Nat.le_of_ble_eq_true rfl) (by have qz := c_X4_hasRoom (d := d + 1) (s := 35) (q := (H.1 2)) (N := (bgn (H.1 2) o (-1) sd)) (c := a.toNat) (hc := (show ((a.toNat : Nat) : Int) < H.1 2 1 by omega)) (ok := ok6) (hs := isSc_35) (hsc := (show Hb.1 104 1 = ((35 : Nat) : Int) from b1)) (ws := ws) (rs := rsb) (wn := (bgn_wfn (o := o) (wc := -1) (sd := sd) ws)) (rd := (bR o sd)); rw [show ((a.toNat : Nat) : Int) = a by omega] at qz; exact qz) (fun hc10 ok9 => ?_) (fun hc10 ok9 => ?_)
    · skip
      refine z_if_eq (pc := 38) (tgt := 45) dX10_can_38 (by decide) (by decide) (by decide) (fun h => absurd h (by decide)) (fun _ => ?_)
      refine z_iconst (pc := 41) dX10_can_41 ?_
      refine x_goto (pc := 42) (tgt := 46) dX10_can_42 (by decide) ?_
      refine z_ireturn (pc := 46) dX10_can_46 rfl (Or.inl rfl) ok9 (by decide) (by decide) ?_
      first | exact Or.inl ⟨by omega, (if_pos (by assumption)).symm, fr⟩ | exact Or.inl ⟨by omega, (if_neg (by assumption)).symm, fr⟩
    · skip
      refine z_if_eq (pc := 38) (tgt := 45) dX10_can_38 (by decide) (by decide) (by decide) (fun _ => ?_) (fun h => absurd h (by decide))
      refine z_iconst (pc := 45) dX10_can_45 ?_
      refine z_ireturn (pc := 46) dX10_can_46 rfl (Or.inl rfl) ok9 (by decide) (by decide) ?_
      first | exact Or.inl ⟨by omega, (if_pos (by assumption)).symm, fr⟩ | exact Or.inl ⟨by omega, (if_neg (by assumption)).symm, fr⟩
  · skip
    refine z_if_ne (pc := 5) (tgt := 15) dX10_can_5 (by decide) (by decide) (by decide) (fun h => absurd h (by decide)) (fun _ => ?_)
    refine x_aload_n (pc := 8) dX10_can_8 (List.Mem.head _) ?_
    refine z_bipush (pc := 9) dX10_can_9 bp_m2 ?_
    refine z_callVip (pc := 11) (i := mX10_refuse) (S := []) [.int (zN ((-2)))] dX10_can_11 ml_X10_97 ok_X10_refuse rfl sh_20 rfl (Or.inl rfl) (Nat.le_of_ble_eq_true rfl) (c_X10_refuse (d := d + 1) (code := ((-2))) (code1 := (by omega)) (code2 := (by omega)) (ok := ok2) (cn := (by first | assumption | omega))) (fun r14a r14b ok15 => ?_)
    show Ev _ _ _ _ _ _ _ (eh (wI H 25 ((refIx ((-2)))) (H.1 25 (refIx ((-2))) + 1)))
    refine z_ireturn (pc := 14) dX10_can_14 rfl (Or.inl rfl) ok15 (by omega) (by omega) ?_
    exact Or.inr ⟨by omega, rfl, rfl⟩
