/-! GROUP G31: wise of the class. -/
theorem tsf_nn {A : Nat → Int} {wo : Int} {g : (Nat → Int) → Int → Int} (hg : ∀ M w, 0 ≤ g M w) (f : Nat) : ∀ N w, 0 ≤ tsf A wo g f N w := by
  induction f with
  | zero => exact hg
  | succ f ih =>
    intro N w
    show 0 ≤ (if N 37 ≠ 0 then g N w else if N 41 < A 1 then (if rnd A wo N = true then tsf A wo g f (frc N true) (w / 100 * shr A N wo (N 41).toNat) + tsf A wo g f (frc N false) (w / 100 * (100 - shr A N wo (N 41).toNat)) else tsf A wo g f (drw1 A wo N) w) else tsf A wo g f (tickF A N) w)
    have a := ih (frc N true) (w / 100 * shr A N wo (N 41).toNat)
    have b := ih (frc N false) (w / 100 * (100 - shr A N wo (N 41).toNat))
    have c := ih (drw1 A wo N) w
    have d := ih (tickF A N) w
    have e := hg N w
    (repeat' split) <;> omega
theorem tsf_le {A : Nat → Int} {wo : Int} {g : (Nat → Int) → Int → Int} (ws1 : 0 ≤ A 1 ∧ A 1 ≤ 8) (ws0 : 1 ≤ A 0 ∧ A 0 ≤ 4) (hg : ∀ M w, 0 ≤ w → g M w ≤ w) (f : Nat) : ∀ N w, WFT A N → 0 ≤ w → tsf A wo g f N w ≤ w := by
  induction f with
  | zero => exact fun N w _ hw => hg N w hw
  | succ f ih =>
    intro N w h hw
    show (if N 37 ≠ 0 then g N w else if N 41 < A 1 then (if rnd A wo N = true then tsf A wo g f (frc N true) (w / 100 * shr A N wo (N 41).toNat) + tsf A wo g f (frc N false) (w / 100 * (100 - shr A N wo (N 41).toNat)) else tsf A wo g f (drw1 A wo N) w) else tsf A wo g f (tickF A N) w) ≤ w
    by_cases h37 : N 37 = 0
    · rw [if_neg (show ¬ N 37 ≠ 0 from fun z => z h37)]
      by_cases hk : N 41 < A 1
      · rw [if_pos hk]
        by_cases hr : rnd A wo N = true
        · rw [if_pos hr]
          obtain ⟨r0, r1, r2, _⟩ := rnd_t hr
          obtain ⟨s1, s2, s3, _⟩ := sh_split hw ⟨r1, r2⟩
          have a := ih (frc N true) _ (frc_s ws1.2 h hk r0 true).1 s1
          have b := ih (frc N false) _ (frc_s ws1.2 h hk r0 false).1 s2
          omega
        · rw [if_neg hr]
          exact ih _ w (drw1_s ws1.2 h hk).1 hw
      · rw [if_neg hk]
        rcases tick_s ws1 ws0 h h37 with ⟨t, _⟩ | ⟨t, _⟩
        · exact ih _ w t hw
        · exact ih _ w t hw
    · rw [if_pos h37]
      exact hg N w hw
theorem TS_w {A : Nat → Int} {wo wc : Int} (ws : WFS A) (k : Nat) (hk : k < 3) : TS A wo wc (gK k) ≤ 100 ^ (A 1).toNat := by
  have p := p100_bd (n := (A 1).toNat) (by have := ws.2.1; omega)
  refine tsf_le ws.2.1 ws.1 (fun M w hw => ?_) 5000 _ _ (WFT_rn (bgn_rn ws) ws.2.1.1) (by omega)
  unfold gK
  rw [if_neg (by omega), if_neg (by omega)]
  split <;> omega
theorem tick_35 {A N : Nat → Int} (h8 : A 1 ≤ 8) : N 35 ≤ tickF A N 35 := by
  have e : tickF A N 35 = tk2 A (tk1 A N) 35 + (if tk2 A (tk1 A N) 33 = 0 ∧ tk2 A (tk1 A N) 32 = 0 then 1 else 0) := rfl
  rw [e, tk2_at (by omega), mvN_hi h8 (by omega), tk1_at (by omega)]
  split <;> omega
/-- where nobody stood so long that waiting counts, longer waits change nothing -/
theorem tsf_wait {A B : Nat → Int} {wo x : Int} {g : (Nat → Int) → Int → Int} (h : AgA A B) (ws : WFS A) (wl : WFL A) (h34 : B 34 = A 34) (hx : x < A 37) (hv : A 37 ≤ B 37) (f : Nat) : ∀ N w, WFT A N → tsf A wo (gL x) f N w = 0 → N 35 ≤ x ∧ tsf B wo g f N w = tsf A wo g f N w := by
  have ws1 := ws.2.1
  have hl : AgL A B := fun l i _ _ _ _ => by rw [h34]
  have hn : ned B = ned A := by unfold ned; rw [h34]
  have gl : ∀ (N : Nat → Int) (w : Int), gL x N w = 0 → N 35 ≤ x := by
    intro N w z
    unfold gL at z
    by_cases q : N 35 ≤ x
    · exact q
    · rw [if_neg q] at z; exact absurd z (by decide)
  have gn : ∀ (M : Nat → Int) (w : Int), 0 ≤ gL x M w := by
    intro M w
    unfold gL
    split <;> decide
  induction f with
  | zero => exact fun N w _ z => ⟨gl N w z, rfl⟩
  | succ f ih =>
    intro N w hw z
    have e1 := h 1 (by omega) (by omega)
    have z2 : (if N 37 ≠ 0 then gL x N w else if N 41 < A 1 then (if rnd A wo N = true then tsf A wo (gL x) f (frc N true) (w / 100 * shr A N wo (N 41).toNat) + tsf A wo (gL x) f (frc N false) (w / 100 * (100 - shr A N wo (N 41).toNat)) else tsf A wo (gL x) f (drw1 A wo N) w) else tsf A wo (gL x) f (tickF A N) w) = 0 := z
    show N 35 ≤ x ∧ (if N 37 ≠ 0 then g N w else if N 41 < B 1 then (if rnd B wo N = true then tsf B wo g f (frc N true) (w / 100 * shr B N wo (N 41).toNat) + tsf B wo g f (frc N false) (w / 100 * (100 - shr B N wo (N 41).toNat)) else tsf B wo g f (drw1 B wo N) w) else tsf B wo g f (tickF B N) w) = (if N 37 ≠ 0 then g N w else if N 41 < A 1 then (if rnd A wo N = true then tsf A wo g f (frc N true) (w / 100 * shr A N wo (N 41).toNat) + tsf A wo g f (frc N false) (w / 100 * (100 - shr A N wo (N 41).toNat)) else tsf A wo g f (drw1 A wo N) w) else tsf A wo g f (tickF A N) w)
    rw [e1]
    by_cases q : N 37 = 0
    · rw [if_neg (show ¬ N 37 ≠ 0 from fun z => z q)] at z2
      rw [if_neg (show ¬ N 37 ≠ 0 from fun z => z q), if_neg (show ¬ N 37 ≠ 0 from fun z => z q)]
      by_cases hk : N 41 < A 1
      · rw [if_pos hk] at z2
        rw [if_pos hk, if_pos hk]
        obtain ⟨d1, d2⟩ := drw1_cg (N := N) (wo := wo) h ws1.2 wl hl (by omega)
        rw [d1, d2, shr_cg (N := N) (wo := wo) h ws1.2 wl hl (by have := hw.2.2.1; omega)]
        by_cases hr : rnd A wo N = true
        · rw [if_pos hr] at z2
          rw [if_pos hr, if_pos hr]
          have r0 := (rnd_t hr).1
          have n1 := tsf_nn (A := A) (wo := wo) gn f (frc N true) (w / 100 * shr A N wo (N 41).toNat)
          have n2 := tsf_nn (A := A) (wo := wo) gn f (frc N false) (w / 100 * (100 - shr A N wo (N 41).toNat))
          have f1 := frc_s ws1.2 hw hk r0 true
          obtain ⟨i1, i2⟩ := ih _ _ f1.1 (show tsf A wo (gL x) f (frc N true) (w / 100 * shr A N wo (N 41).toNat) = 0 by omega)
          obtain ⟨j1, j2⟩ := ih _ _ (frc_s ws1.2 hw hk r0 false).1 (show tsf A wo (gL x) f (frc N false) (w / 100 * (100 - shr A N wo (N 41).toNat)) = 0 by omega)
          rw [i2, j2]
          exact ⟨by rw [f1.2.2 35 (by omega)] at i1; exact i1, rfl⟩
        · rw [if_neg hr] at z2
          rw [if_neg hr, if_neg hr]
          have d := drw1_s (wo := wo) ws1.2 hw hk
          obtain ⟨i1, i2⟩ := ih _ _ d.1 z2
          exact ⟨by rw [d.2.2.1 35 (by omega) (by omega)] at i1; exact i1, i2⟩
      · rw [if_neg hk] at z2
        rw [if_neg hk, if_neg hk]
        have t35 := tick_35 (A := A) (N := N) ws1.2
        have step : ∀ t : WFT A (tickF A N), N 35 ≤ x ∧ tsf B wo g f (tickF B N) w = tsf A wo g f (tickF A N) w := by
          intro t
          obtain ⟨i1, i2⟩ := ih _ _ t z2
          have e : tickF B N = tickF A N := tickF_cg h ws1.2 hn (entB_cg h ws1.2 (by omega))
          rw [e]
          exact ⟨by omega, i2⟩
        rcases tick_s ws1 ws.1 hw q with ⟨t, _⟩ | ⟨t, _⟩
        · exact step t
        · exact step t
    · rw [if_pos q] at z2
      rw [if_pos q, if_pos q]
      exact ⟨gl N w z2, rfl⟩
theorem wsF_fix {V : Nat → Int} {v n : Nat} (hn : v ≤ n) (h : ∀ u, v ≤ u → u < n → V u ≤ (wsF V v).2) : wsF V n = wsF V v := by
  induction n with
  | zero => rw [show v = 0 by omega]
  | succ n ih =>
    by_cases q : v = n + 1
    · rw [q]
    · have i := ih (by omega) (fun u a b => h u a (by omega))
      show (if (wsF V n).2 < V n then ((n : Int), V n) else wsF V n) = _
      rw [i, if_neg (by have := h n (by omega) (by omega); omega)]
theorem ag_37 (q : Nat → Int) (u v : Int) : AgA (upA q 37 u) (upA q 37 v) := fun j _ h => by rw [upA_ne h, upA_ne h]
theorem TS_wait {q : Nat → Int} {u v x : Int} {g : (Nat → Int) → Int → Int} (ws : WFS (upA q 37 u)) (wl : WFL (upA q 37 u)) (hx : x < u) (huv : u ≤ v) (h0 : TS (upA q 37 u) (-1) (-1) (gL x) = 0) : TS (upA q 37 v) (-1) (-1) g = TS (upA q 37 u) (-1) (-1) g := by
  have h := ag_37 q u v
  have h34 : (upA q 37 v) 34 = (upA q 37 u) 34 := by rw [upA_ne (by omega), upA_ne (by omega)]
  have z := tsf_wait (wo := -1) (x := x) (g := g) h ws wl h34 (by rw [upA_at]; exact hx) (by rw [upA_at, upA_at]; exact huv) 5000 _ _ (WFT_rn (bgn_rn (o := Z0) (wc := -1) (sd := 0) ws) ws.2.1.1) h0
  have e := z.2
  unfold TS
  rw [bgn_cg h ws.2.1 (by rw [h34]), h 1 (by omega) (by omega)]
  exact e

theorem c_X10_wise_0 {d : Nat} {H : ZH} (ok : okZ H)  (ws : WFS (H.1 2)) (rs : RepSc H 35 (H.1 2)) (rl : RepLw H (H.1 2)) (wl : WFL (H.1 2)) : EvC zX (d + 7) mX10_wise [.ref 20, .int (zN (0))] (eh H) (zPi (fun (r : Int) (H1 : ZH) => r = (wsF (fun x0 => TS (upA (H.1 2) 37 ((x0 : Nat) : Int)) (-1) (-1) (gK 0)) 61).1 ∧ FrP H H1)) := by
  show _ ∧ Ev zX mX10_wise (EvC zX (d + 6)) (zPi (fun (r : Int) (H1 : ZH) => r = (wsF (fun x0 => TS (upA (H.1 2) 37 ((x0 : Nat) : Int)) (-1) (-1) (gK 0)) 61).1 ∧ FrP H H1)) 0 [(0, .ref 20), (1, .int (zN (0)))] [] (eh H)
  refine ⟨Nat.le_of_ble_eq_true rfl, ?_⟩
  have wsx := ws
  obtain ⟨ws0, ws1, wsC, ws34, ws35, ws36, ws37, ws38, ws39⟩ := wsx
  have rsx := rs
  obtain ⟨rs0, rs1, rsC, rs34, rs35, rs36, rs37, rs38, rs39⟩ := rsx
  have pb := p100_bd (n := (H.1 2 1).toNat) (by omega)
  have vb : ∀ v : Nat, v < 61 → 0 ≤ (fun x0 => TS (upA (H.1 2) 37 ((x0 : Nat) : Int)) (-1) (-1) (gK 0)) v ∧ (fun x0 => TS (upA (H.1 2) 37 ((x0 : Nat) : Int)) (-1) (-1) (gK 0)) v ≤ 162 * 100 ^ (H.1 2 1).toNat := fun v hv => by
    have tb := TS_bd (wo := -1) (wc := -1) (WFS_up (i := 37) (v := ((v : Nat) : Int)) ws (by omega) ⟨by omega, by omega, by omega, by omega, by omega⟩) (gK_ok (upA (H.1 2) 37 ((v : Nat) : Int)) 0)
    rw [show (upA (H.1 2) 37 ((v : Nat) : Int)) 1 = H.1 2 1 from upA_ne (by omega)] at tb
    exact tb
  have vw : ∀ v : Nat, v < 61 → (fun x0 => TS (upA (H.1 2) 37 ((x0 : Nat) : Int)) (-1) (-1) (gK 0)) v ≤ 100 ^ (H.1 2 1).toNat := fun v hv => by
    have tb := TS_w (wo := -1) (wc := -1) (WFS_up (i := 37) (v := ((v : Nat) : Int)) ws (by omega) ⟨by omega, by omega, by omega, by omega, by omega⟩) 0 (by omega)
    rw [show (upA (H.1 2) 37 ((v : Nat) : Int)) 1 = H.1 2 1 from upA_ne (by omega)] at tb
    exact tb
  refine x_iload_n (pc := 0) dX10_wise_0 (List.Mem.tail _ (List.Mem.head _)) ?_
  refine z_if_lt (pc := 1) (tgt := 9) dX10_wise_1 (by decide) (by decide) (by decide) (fun h => absurd h (by decide)) (fun _ => ?_)
  refine x_iload_n (pc := 4) dX10_wise_4 (List.Mem.tail _ (List.Mem.head _)) ?_
  refine z_iconst (pc := 5) dX10_wise_5 ?_
  refine z_icmp_le (pc := 6) (tgt := 16) dX10_wise_6 (by decide) (by decide) (by decide) (by decide) (by decide) (fun _ => ?_) (fun h => absurd h (by decide))
  refine x_iload_n (pc := 16) dX10_wise_16 (List.Mem.tail _ (List.Mem.head _)) ?_
  refine z_if_ne (pc := 17) (tgt := 25) dX10_wise_17 (by decide) (by decide) (by decide) (fun h => absurd h (by decide)) (fun _ => ?_)
  refine z_bipush (pc := 20) dX10_wise_20 bp_60 ?_
  refine x_goto (pc := 22) (tgt := 27) dX10_wise_22 (by decide) ?_
  refine x_istore_n (pc := 27) dX10_wise_27 (Nat.le_of_ble_eq_true rfl) ?_
  show Ev _ _ _ _ _ [(2, .int (zN (60))), (0, .ref 20), (1, .int (zN (0)))] _ _
  refine x_aload_n (pc := 28) dX10_wise_28 (List.Mem.tail _ (List.Mem.head _)) ?_
  refine z_getR (pc := 29) (k := 9) (r := 50) dX10_wise_29 lf_X10_62 sh_20 rfl rf_20_9 ?_
  refine x_aload_n (pc := 32) dX10_wise_32 (List.Mem.tail _ (List.Mem.head _)) ?_
  refine z_getR (pc := 33) (k := 3) (r := 98) dX10_wise_33 lf_X10_23 sh_20 rfl rf_20_3 ?_
  refine z_getR (pc := 36) (k := 0) (r := 35) dX10_wise_36 lf_X10_37 sh_98 rfl rf_98_0 ?_
  refine z_callVv (pc := 39) (i := mX6_take) (S := []) [.ref 35] dX10_wise_39 ml_X10_120 ok_X6_take rfl sh_50 rfl rfl (Nat.le_of_ble_eq_true rfl) (c_X6_take_50_35 (d := d + 5) (ok := ok)) ?_
  intro Ht ok5 hp6
  have tk := hp6
  refine z_ldc2_w (pc := 42) (-1) dX10_wise_42 cl_X10_243 (by decide) ?_
  refine x_lstore_n (pc := 45) dX10_wise_45 (Nat.le_of_ble_eq_true rfl) ?_
  show Ev _ _ _ _ _ [(3, .long (zL ((-1)))), (2, .int (zN (60))), (0, .ref 20), (1, .int (zN (0)))] _ _
  refine z_iconst (pc := 46) dX10_wise_46 ?_
  refine x_istore (pc := 47) dX10_wise_47 (Nat.le_of_ble_eq_true rfl) ?_
  show Ev _ _ _ _ _ [(5, .int (zN (0))), (3, .long (zL ((-1)))), (2, .int (zN (60))), (0, .ref 20), (1, .int (zN (0)))] _ _
  refine z_iconst (pc := 49) dX10_wise_49 ?_
  refine x_istore (pc := 50) dX10_wise_50 (Nat.le_of_ble_eq_true rfl) ?_
  show Ev _ _ _ _ _ [(6, .int (zN (0))), (5, .int (zN (0))), (3, .long (zL ((-1)))), (2, .int (zN (60))), (0, .ref 20), (1, .int (zN (0)))] _ _
  have lp52 : ∀ (nF : Nat) (v : Nat) (u : Int) (Hm : ZH), okZ Hm → (v ≤ 61) → (FrP H Hm) → (RepSc Hm 50 (upA (H.1 2) 37 u)) → 61 - v < nF → Ev zX mX10_wise (EvC zX (d + 6)) (zPi (fun (r : Int) (H1 : ZH) => r = (wsF (fun x0 => TS (upA (H.1 2) 37 ((x0 : Nat) : Int)) (-1) (-1) (gK 0)) 61).1 ∧ FrP H H1)) 52 [(0, .ref 20), (1, .int (zN (0))), (2, .int (zN (60))), (3, .long (zL ((wsF (fun x0 => TS (upA (H.1 2) 37 ((x0 : Nat) : Int)) (-1) (-1) (gK 0)) v).2))), (5, .int (zN ((wsF (fun x0 => TS (upA (H.1 2) 37 ((x0 : Nat) : Int)) (-1) (-1) (gK 0)) v).1))), (6, .int (zN ((v : Int))))] [] (eh Hm) := by
    intro nF
    induction nF with
    | zero => intro v u Hm okl52 hv fr ru hm; exact absurd hm (Nat.not_lt_zero _)
    | succ nF ih52 =>
      intro v u Hm okl52 hv fr ru hm
      have rlm := lw_P fr rl
      have bb := wsF_bdn vb (by omega) v hv (by omega)
      refine x_iload (pc := 52) dX10_wise_52 (List.Mem.tail _ (List.Mem.tail _ (List.Mem.tail _ (List.Mem.tail _ (List.Mem.tail _ (List.Mem.head _)))))) ?_
      refine x_iload_n (pc := 54) dX10_wise_54 (List.Mem.tail _ (List.Mem.tail _ (List.Mem.head _))) ?_
      refine z_icmp_gt (pc := 55) (tgt := 154) dX10_wise_55 (by decide) (by omega) (by omega) (by decide) (by decide) (fun hb7 => ?_) (fun hb7 => ?_)
      · skip
        refine x_iload (pc := 154) dX10_wise_154 (List.Mem.tail _ (List.Mem.tail _ (List.Mem.tail _ (List.Mem.tail _ (List.Mem.head _))))) ?_
        refine z_ireturn (pc := 156) dX10_wise_156 rfl (Or.inl rfl) okl52 (by omega) (by omega) ?_
        exact ⟨by rw [show 61 = v by omega], fr⟩
      · skip
        have wsx2 : WFS (upA (H.1 2) 37 ((v : Nat) : Int)) := WFS_up ws (by omega) ⟨by omega, by omega, by omega, by omega, by omega⟩
        have wlx2 : WFL (upA (H.1 2) 37 ((v : Nat) : Int)) := WFL_up wl (by omega)
        have e1x : (upA (H.1 2) 37 ((v : Nat) : Int)) 1 = H.1 2 1 := upA_ne (by omega)
        refine x_aload_n (pc := 58) dX10_wise_58 (List.Mem.head _) ?_
        refine z_getR (pc := 59) (k := 9) (r := 50) dX10_wise_59 lf_X10_62 sh_20 rfl rf_20_9 ?_
        refine x_iload_n (pc := 62) dX10_wise_62 (List.Mem.tail _ (List.Mem.head _)) ?_
        refine z_if_ne (pc := 63) (tgt := 70) dX10_wise_63 (by decide) (by decide) (by decide) (fun h => absurd h (by decide)) (fun _ => ?_)
        refine z_iconst (pc := 66) dX10_wise_66 ?_
        refine x_goto (pc := 67) (tgt := 71) dX10_wise_67 (by decide) ?_
        refine x_iload (pc := 71) dX10_wise_71 (List.Mem.tail _ (List.Mem.tail _ (List.Mem.tail _ (List.Mem.tail _ (List.Mem.tail _ (List.Mem.head _)))))) ?_
        refine z_callVip (pc := 73) (i := mX6_change) (S := []) [.int (zN (2)), .int (zN ((v : Int)))] dX10_wise_73 ml_X10_162 ok_X6_change rfl sh_50 rfl (Or.inl rfl) (Nat.le_of_ble_eq_true rfl) (c_X6_change (d := d + 5) (s := 50) (hs := isSc_50) (w := (2 : Int)) (v := ((v : Int))) (w1 := (by omega)) (w2 := (by omega)) (v1 := (by omega)) (v2 := (by omega)) (w03 := (by omega)) (ok := okl52)) (fun r9a r9b ok10 => ?_)
        show Ev _ _ _ _ _ _ _ (eh (wI Hm 50 (7 + (2 : Int).toNat) (((v : Int)))))
        refine x_pop (pc := 76) dX10_wise_76 rfl ?_
        refine x_aload_n (pc := 77) dX10_wise_77 (List.Mem.head _) ?_
        refine z_getR (pc := 78) (k := 10) (r := 116) dX10_wise_78 lf_X10_65 sh_20 rfl rf_20_10 ?_
        refine x_aload_n (pc := 81) dX10_wise_81 (List.Mem.head _) ?_
        refine z_getR (pc := 82) (k := 6) (r := 104) dX10_wise_82 lf_X10_48 sh_20 rfl rf_20_6 ?_
        refine x_aload_n (pc := 85) dX10_wise_85 (List.Mem.head _) ?_
        refine z_getR (pc := 86) (k := 9) (r := 50) dX10_wise_86 lf_X10_62 sh_20 rfl rf_20_9 ?_
        refine z_iconst (pc := 89) dX10_wise_89 ?_
        refine z_callVv (pc := 90) (i := mX9_weigh) (S := []) [.ref 104, .ref 50, .int (zN ((-1)))] dX10_wise_90 ml_X10_236 ok_X9_weigh rfl sh_116 rfl rfl (Nat.le_of_ble_eq_true rfl) (c_X9_weigh (d := d) (t := 116) (s := 50) (q := (upA (H.1 2) 37 ((v : Nat) : Int))) (k := ((-1))) (k1 := (by omega)) (k2 := (by omega)) (ok := ok10) (ht := isTr_116) (hs := isSc_50) (ws := wsx2) (rs := (show RepSc (wI Hm 50 (7 + (2 : Int).toNat) ((v : Nat) : Int)) 50 (upA (H.1 2) 37 ((v : Nat) : Int)) from rep_up (i := 37) ws (by omega) ru)) (rl := (lw_up (by omega) (lw_P FrP_50 rlm))) (wl := wlx2)) ?_
        intro Hw ok12 hp13
        obtain ⟨td2, ft⟩ := hp13
        have fr2 : FrP H Hw := FrP_tr (FrP_tr fr FrP_50) (FrP_tr116 ft)
        have ru2 : RepSc Hw 50 (upA (H.1 2) 37 ((v : Nat) : Int)) := RepSc_e (fun cc a b => funext (fun j => ft.1 cc j (by omega) (by omega))) (show RepSc (wI Hm 50 (7 + (2 : Int).toNat) ((v : Nat) : Int)) 50 (upA (H.1 2) 37 ((v : Nat) : Int)) from rep_up (i := 37) ws (by omega) ru)
        have hal : Hw.2 116 0 = (100 : Int) ^ (H.1 2 1).toNat := by have z := trd_0 td2; rw [e1x] at z; exact z
        have vbn := vb v (by omega)
        have vwn := vw v (by omega)
        have vbn2 : 0 ≤ (TS (upA (H.1 2) 37 ((v : Nat) : Int)) (-1) (-1) (gK 0)) ∧ (TS (upA (H.1 2) 37 ((v : Nat) : Int)) (-1) (-1) (gK 0)) ≤ 162 * 100 ^ (H.1 2 1).toNat := vbn
        have vwn2 : (TS (upA (H.1 2) 37 ((v : Nat) : Int)) (-1) (-1) (gK 0)) ≤ 100 ^ (H.1 2 1).toNat := vwn
        have hlg := td2.2.2.2.1
        refine x_aload_n (pc := 93) dX10_wise_93 (List.Mem.head _) ?_
        refine z_getR (pc := 94) (k := 10) (r := 116) dX10_wise_94 lf_X10_65 sh_20 rfl rf_20_10 ?_
        refine z_getJ (pc := 97) (k := 1) (v := (TS (upA (H.1 2) 37 ((v : Nat) : Int)) (-1) (-1) (gK 0))) dX10_wise_97 lf_X10_219 sh_116 rfl (trd_k td2 0 (by omega)) ?_
        refine x_lload_n (pc := 100) dX10_wise_100 (List.Mem.tail _ (List.Mem.tail _ (List.Mem.tail _ (List.Mem.head _)))) ?_
        refine z_lcmp_le (pc := 101) (tgt := 117) dX10_wise_101 dX10_wise_102 (by decide) (by omega) (by omega) (by omega) (by omega) (fun hb14 => ?_) (fun hb14 => ?_)
        · skip
          have hw1 : (wsF (fun x0 => TS (upA (H.1 2) 37 ((x0 : Nat) : Int)) (-1) (-1) (gK 0)) (v + 1)) = (wsF (fun x0 => TS (upA (H.1 2) 37 ((x0 : Nat) : Int)) (-1) (-1) (gK 0)) v) := by show (if (wsF (fun x0 => TS (upA (H.1 2) 37 ((x0 : Nat) : Int)) (-1) (-1) (gK 0)) v).2 < (fun x0 => TS (upA (H.1 2) 37 ((x0 : Nat) : Int)) (-1) (-1) (gK 0)) v then ((v : Int), (fun x0 => TS (upA (H.1 2) 37 ((x0 : Nat) : Int)) (-1) (-1) (gK 0)) v) else (wsF (fun x0 => TS (upA (H.1 2) 37 ((x0 : Nat) : Int)) (-1) (-1) (gK 0)) v)) = _; rw [if_neg (show ¬ (wsF (fun x0 => TS (upA (H.1 2) 37 ((x0 : Nat) : Int)) (-1) (-1) (gK 0)) v).2 < (TS (upA (H.1 2) 37 ((v : Nat) : Int)) (-1) (-1) (gK 0)) by omega)]
          refine x_lload_n (pc := 117) dX10_wise_117 (List.Mem.tail _ (List.Mem.tail _ (List.Mem.tail _ (List.Mem.head _)))) ?_
          refine x_aload_n (pc := 118) dX10_wise_118 (List.Mem.head _) ?_
          refine z_getR (pc := 119) (k := 10) (r := 116) dX10_wise_119 lf_X10_65 sh_20 rfl rf_20_10 ?_
          refine z_getJ (pc := 122) (k := 0) (v := ((100 : Int) ^ (H.1 2 1).toNat)) dX10_wise_122 lf_X10_233 sh_116 rfl hal ?_
          refine z_lcmp_eq (pc := 125) (tgt := 145) dX10_wise_125 dX10_wise_126 (by decide) (by omega) (by omega) (by omega) (by omega) (fun hb15 => ?_) (fun hb15 => ?_)
          · skip
            have hfx : (wsF (fun x0 => TS (upA (H.1 2) 37 ((x0 : Nat) : Int)) (-1) (-1) (gK 0)) 61) = (wsF (fun x0 => TS (upA (H.1 2) 37 ((x0 : Nat) : Int)) (-1) (-1) (gK 0)) (v + 1)) := wsF_fix (by omega) (fun u a b => by have z := vw u b; rw [hw1]; first | exact Int.le_trans z (by omega) | (show (fun x0 => TS (upA (H.1 2) 37 ((x0 : Nat) : Int)) (-1) (-1) (gK 0)) u ≤ (TS (upA (H.1 2) 37 ((v : Nat) : Int)) (-1) (-1) (gK 0)); omega))
            refine x_iload (pc := 145) dX10_wise_145 (List.Mem.tail _ (List.Mem.tail _ (List.Mem.tail _ (List.Mem.tail _ (List.Mem.head _))))) ?_
            refine z_ireturn (pc := 147) dX10_wise_147 rfl (Or.inl rfl) ok12 (by omega) (by omega) ?_
            exact ⟨by rw [hfx, hw1], fr2⟩
          · skip
            refine x_iload_n (pc := 129) dX10_wise_129 (List.Mem.tail _ (List.Mem.head _)) ?_
            refine z_if_ne (pc := 130) (tgt := 148) dX10_wise_130 (by decide) (by decide) (by decide) (fun h => absurd h (by decide)) (fun _ => ?_)
            refine x_aload_n (pc := 133) dX10_wise_133 (List.Mem.head _) ?_
            refine z_getR (pc := 134) (k := 10) (r := 116) dX10_wise_134 lf_X10_65 sh_20 rfl rf_20_10 ?_
            have rd17 := ok12.1 116 6
            refine z_getI (pc := 137) (k := 6) (v := Hw.1 116 6) dX10_wise_137 lf_X10_261 sh_116 rfl rfl ?_
            refine x_iload (pc := 140) dX10_wise_140 (List.Mem.tail _ (List.Mem.tail _ (List.Mem.tail _ (List.Mem.tail _ (List.Mem.tail _ (List.Mem.head _)))))) ?_
            refine z_icmp_ge (pc := 142) (tgt := 148) dX10_wise_142 (by decide) (by omega) (by omega) (by omega) (by omega) (fun hb18 => ?_) (fun hb18 => ?_)
            · skip
              refine z_iinc (pc := 148) dX10_wise_148 (List.Mem.tail _ (List.Mem.tail _ (List.Mem.tail _ (List.Mem.tail _ (List.Mem.tail _ (List.Mem.head _)))))) (Nat.le_of_ble_eq_true rfl) ?_
              show Ev _ _ _ _ _ [(6, .int (zN ((v : Int) + 1))), (0, .ref 20), (1, .int (zN (0))), (2, .int (zN (60))), (3, .long (zL ((wsF (fun x0 => TS (upA (H.1 2) 37 ((x0 : Nat) : Int)) (-1) (-1) (gK 0)) v).2))), (5, .int (zN ((wsF (fun x0 => TS (upA (H.1 2) 37 ((x0 : Nat) : Int)) (-1) (-1) (gK 0)) v).1)))] _ _
              refine x_goto (pc := 151) (tgt := 52) dX10_wise_151 (by decide) ?_
              refine x_weaken (L1 := [(0, .ref 20), (1, .int (zN (0))), (2, .int (zN (60))), (3, .long (zL ((wsF (fun x0 => TS (upA (H.1 2) 37 ((x0 : Nat) : Int)) (-1) (-1) (gK 0)) (v + 1)).2))), (5, .int (zN ((wsF (fun x0 => TS (upA (H.1 2) 37 ((x0 : Nat) : Int)) (-1) (-1) (gK 0)) (v + 1)).1))), (6, .int (zN ((((v + 1) : Nat) : Int))))]) (List.forall_mem_cons.mpr ⟨(List.Mem.tail _ (List.Mem.head _)), (List.forall_mem_cons.mpr ⟨(List.Mem.tail _ (List.Mem.tail _ (List.Mem.head _))), (List.forall_mem_cons.mpr ⟨(List.Mem.tail _ (List.Mem.tail _ (List.Mem.tail _ (List.Mem.head _)))), (List.forall_mem_cons.mpr ⟨(mem_cl (by rw [hw1]) (List.Mem.tail _ (List.Mem.tail _ (List.Mem.tail _ (List.Mem.tail _ (List.Mem.head _)))))), (List.forall_mem_cons.mpr ⟨(mem_ci (by rw [hw1]) (List.Mem.tail _ (List.Mem.tail _ (List.Mem.tail _ (List.Mem.tail _ (List.Mem.tail _ (List.Mem.head _))))))), (List.forall_mem_cons.mpr ⟨(mem_ci (by omega) (List.Mem.head _)), (fun _ h => absurd h List.not_mem_nil)⟩)⟩)⟩)⟩)⟩)⟩) ?_
              exact ih52 ((v + 1)) (((v : Nat) : Int)) Hw ok12 (by omega) (fr2) (ru2) (by omega)
            · skip
              have h0L : TS (upA (H.1 2) 37 ((v : Nat) : Int)) (-1) (-1) (gL (Hw.1 116 6)) = 0 := (td2.2.2.2.2.1 (Hw.1 116 6) (Int.le_refl _)).symm
              have hst : ∀ u : Nat, v ≤ u → TS (upA (H.1 2) 37 ((u : Nat) : Int)) (-1) (-1) (gK 0) = (TS (upA (H.1 2) 37 ((v : Nat) : Int)) (-1) (-1) (gK 0)) := fun u a => TS_wait wsx2 wlx2 hb18 (by omega) h0L
              have hfx : (wsF (fun x0 => TS (upA (H.1 2) 37 ((x0 : Nat) : Int)) (-1) (-1) (gK 0)) 61) = (wsF (fun x0 => TS (upA (H.1 2) 37 ((x0 : Nat) : Int)) (-1) (-1) (gK 0)) (v + 1)) := wsF_fix (by omega) (fun u a b => by rw [hst u (by omega), hw1]; first | exact Int.le_refl _ | (show (TS (upA (H.1 2) 37 ((v : Nat) : Int)) (-1) (-1) (gK 0)) ≤ (wsF (fun x0 => TS (upA (H.1 2) 37 ((x0 : Nat) : Int)) (-1) (-1) (gK 0)) v).2; omega))
              refine x_iload (pc := 145) dX10_wise_145 (List.Mem.tail _ (List.Mem.tail _ (List.Mem.tail _ (List.Mem.tail _ (List.Mem.head _))))) ?_
              refine z_ireturn (pc := 147) dX10_wise_147 rfl (Or.inl rfl) ok12 (by omega) (by omega) ?_
              exact ⟨by rw [hfx, hw1], fr2⟩
        · skip
          have hw1 : (wsF (fun x0 => TS (upA (H.1 2) 37 ((x0 : Nat) : Int)) (-1) (-1) (gK 0)) (v + 1)) = ((v : Int), (TS (upA (H.1 2) 37 ((v : Nat) : Int)) (-1) (-1) (gK 0))) := by show (if (wsF (fun x0 => TS (upA (H.1 2) 37 ((x0 : Nat) : Int)) (-1) (-1) (gK 0)) v).2 < (fun x0 => TS (upA (H.1 2) 37 ((x0 : Nat) : Int)) (-1) (-1) (gK 0)) v then ((v : Int), (fun x0 => TS (upA (H.1 2) 37 ((x0 : Nat) : Int)) (-1) (-1) (gK 0)) v) else (wsF (fun x0 => TS (upA (H.1 2) 37 ((x0 : Nat) : Int)) (-1) (-1) (gK 0)) v)) = _; rw [if_pos (show (wsF (fun x0 => TS (upA (H.1 2) 37 ((x0 : Nat) : Int)) (-1) (-1) (gK 0)) v).2 < (TS (upA (H.1 2) 37 ((v : Nat) : Int)) (-1) (-1) (gK 0)) by omega)]
          refine x_aload_n (pc := 105) dX10_wise_105 (List.Mem.head _) ?_
          refine z_getR (pc := 106) (k := 10) (r := 116) dX10_wise_106 lf_X10_65 sh_20 rfl rf_20_10 ?_
          refine z_getJ (pc := 109) (k := 1) (v := (TS (upA (H.1 2) 37 ((v : Nat) : Int)) (-1) (-1) (gK 0))) dX10_wise_109 lf_X10_219 sh_116 rfl (trd_k td2 0 (by omega)) ?_
          refine x_lstore_n (pc := 112) dX10_wise_112 (Nat.le_of_ble_eq_true rfl) ?_
          show Ev _ _ _ _ _ [(3, .long (zL (((TS (upA (H.1 2) 37 ((v : Nat) : Int)) (-1) (-1) (gK 0)))))), (0, .ref 20), (1, .int (zN (0))), (2, .int (zN (60))), (5, .int (zN ((wsF (fun x0 => TS (upA (H.1 2) 37 ((x0 : Nat) : Int)) (-1) (-1) (gK 0)) v).1))), (6, .int (zN ((v : Int))))] _ _
          refine x_iload (pc := 113) dX10_wise_113 (List.Mem.tail _ (List.Mem.tail _ (List.Mem.tail _ (List.Mem.tail _ (List.Mem.tail _ (List.Mem.head _)))))) ?_
          refine x_istore (pc := 115) dX10_wise_115 (Nat.le_of_ble_eq_true rfl) ?_
          show Ev _ _ _ _ _ [(5, .int (zN ((v : Int)))), (3, .long (zL (((TS (upA (H.1 2) 37 ((v : Nat) : Int)) (-1) (-1) (gK 0)))))), (0, .ref 20), (1, .int (zN (0))), (2, .int (zN (60))), (6, .int (zN ((v : Int))))] _ _
          refine x_lload_n (pc := 117) dX10_wise_117 (List.Mem.tail _ (List.Mem.head _)) ?_
          refine x_aload_n (pc := 118) dX10_wise_118 (List.Mem.tail _ (List.Mem.tail _ (List.Mem.head _))) ?_
          refine z_getR (pc := 119) (k := 10) (r := 116) dX10_wise_119 lf_X10_65 sh_20 rfl rf_20_10 ?_
          refine z_getJ (pc := 122) (k := 0) (v := ((100 : Int) ^ (H.1 2 1).toNat)) dX10_wise_122 lf_X10_233 sh_116 rfl hal ?_
          refine z_lcmp_eq (pc := 125) (tgt := 145) dX10_wise_125 dX10_wise_126 (by decide) (by omega) (by omega) (by omega) (by omega) (fun hb19 => ?_) (fun hb19 => ?_)
          · skip
            have hfx : (wsF (fun x0 => TS (upA (H.1 2) 37 ((x0 : Nat) : Int)) (-1) (-1) (gK 0)) 61) = (wsF (fun x0 => TS (upA (H.1 2) 37 ((x0 : Nat) : Int)) (-1) (-1) (gK 0)) (v + 1)) := wsF_fix (by omega) (fun u a b => by have z := vw u b; rw [hw1]; first | exact Int.le_trans z (by omega) | (show (fun x0 => TS (upA (H.1 2) 37 ((x0 : Nat) : Int)) (-1) (-1) (gK 0)) u ≤ (TS (upA (H.1 2) 37 ((v : Nat) : Int)) (-1) (-1) (gK 0)); omega))
            refine x_iload (pc := 145) dX10_wise_145 (List.Mem.head _) ?_
            refine z_ireturn (pc := 147) dX10_wise_147 rfl (Or.inl rfl) ok12 (by omega) (by omega) ?_
            exact ⟨by rw [hfx, hw1], fr2⟩
          · skip
            refine x_iload_n (pc := 129) dX10_wise_129 (List.Mem.tail _ (List.Mem.tail _ (List.Mem.tail _ (List.Mem.head _)))) ?_
            refine z_if_ne (pc := 130) (tgt := 148) dX10_wise_130 (by decide) (by decide) (by decide) (fun h => absurd h (by decide)) (fun _ => ?_)
            refine x_aload_n (pc := 133) dX10_wise_133 (List.Mem.tail _ (List.Mem.tail _ (List.Mem.head _))) ?_
            refine z_getR (pc := 134) (k := 10) (r := 116) dX10_wise_134 lf_X10_65 sh_20 rfl rf_20_10 ?_
            have rd21 := ok12.1 116 6
            refine z_getI (pc := 137) (k := 6) (v := Hw.1 116 6) dX10_wise_137 lf_X10_261 sh_116 rfl rfl ?_
            refine x_iload (pc := 140) dX10_wise_140 (List.Mem.tail _ (List.Mem.tail _ (List.Mem.tail _ (List.Mem.tail _ (List.Mem.tail _ (List.Mem.head _)))))) ?_
            refine z_icmp_ge (pc := 142) (tgt := 148) dX10_wise_142 (by decide) (by omega) (by omega) (by omega) (by omega) (fun hb22 => ?_) (fun hb22 => ?_)
            · skip
              refine z_iinc (pc := 148) dX10_wise_148 (List.Mem.tail _ (List.Mem.tail _ (List.Mem.tail _ (List.Mem.tail _ (List.Mem.tail _ (List.Mem.head _)))))) (Nat.le_of_ble_eq_true rfl) ?_
              show Ev _ _ _ _ _ [(6, .int (zN ((v : Int) + 1))), (5, .int (zN ((v : Int)))), (3, .long (zL (((TS (upA (H.1 2) 37 ((v : Nat) : Int)) (-1) (-1) (gK 0)))))), (0, .ref 20), (1, .int (zN (0))), (2, .int (zN (60)))] _ _
              refine x_goto (pc := 151) (tgt := 52) dX10_wise_151 (by decide) ?_
              refine x_weaken (L1 := [(0, .ref 20), (1, .int (zN (0))), (2, .int (zN (60))), (3, .long (zL ((wsF (fun x0 => TS (upA (H.1 2) 37 ((x0 : Nat) : Int)) (-1) (-1) (gK 0)) (v + 1)).2))), (5, .int (zN ((wsF (fun x0 => TS (upA (H.1 2) 37 ((x0 : Nat) : Int)) (-1) (-1) (gK 0)) (v + 1)).1))), (6, .int (zN ((((v + 1) : Nat) : Int))))]) (List.forall_mem_cons.mpr ⟨(List.Mem.tail _ (List.Mem.tail _ (List.Mem.tail _ (List.Mem.head _)))), (List.forall_mem_cons.mpr ⟨(List.Mem.tail _ (List.Mem.tail _ (List.Mem.tail _ (List.Mem.tail _ (List.Mem.head _))))), (List.forall_mem_cons.mpr ⟨(List.Mem.tail _ (List.Mem.tail _ (List.Mem.tail _ (List.Mem.tail _ (List.Mem.tail _ (List.Mem.head _)))))), (List.forall_mem_cons.mpr ⟨(mem_cl (by rw [hw1]) (List.Mem.tail _ (List.Mem.tail _ (List.Mem.head _)))), (List.forall_mem_cons.mpr ⟨(mem_ci (by rw [hw1]) (List.Mem.tail _ (List.Mem.head _))), (List.forall_mem_cons.mpr ⟨(mem_ci (by omega) (List.Mem.head _)), (fun _ h => absurd h List.not_mem_nil)⟩)⟩)⟩)⟩)⟩)⟩) ?_
              exact ih52 ((v + 1)) (((v : Nat) : Int)) Hw ok12 (by omega) (fr2) (ru2) (by omega)
            · skip
              have h0L : TS (upA (H.1 2) 37 ((v : Nat) : Int)) (-1) (-1) (gL (Hw.1 116 6)) = 0 := (td2.2.2.2.2.1 (Hw.1 116 6) (Int.le_refl _)).symm
              have hst : ∀ u : Nat, v ≤ u → TS (upA (H.1 2) 37 ((u : Nat) : Int)) (-1) (-1) (gK 0) = (TS (upA (H.1 2) 37 ((v : Nat) : Int)) (-1) (-1) (gK 0)) := fun u a => TS_wait wsx2 wlx2 hb22 (by omega) h0L
              have hfx : (wsF (fun x0 => TS (upA (H.1 2) 37 ((x0 : Nat) : Int)) (-1) (-1) (gK 0)) 61) = (wsF (fun x0 => TS (upA (H.1 2) 37 ((x0 : Nat) : Int)) (-1) (-1) (gK 0)) (v + 1)) := wsF_fix (by omega) (fun u a b => by rw [hst u (by omega), hw1]; first | exact Int.le_refl _ | (show (TS (upA (H.1 2) 37 ((v : Nat) : Int)) (-1) (-1) (gK 0)) ≤ (wsF (fun x0 => TS (upA (H.1 2) 37 ((x0 : Nat) : Int)) (-1) (-1) (gK 0)) v).2; omega))
              refine x_iload (pc := 145) dX10_wise_145 (List.Mem.head _) ?_
              refine z_ireturn (pc := 147) dX10_wise_147 rfl (Or.inl rfl) ok12 (by omega) (by omega) ?_
              exact ⟨by rw [hfx, hw1], fr2⟩
  refine x_weaken (L1 := [(0, .ref 20), (1, .int (zN (0))), (2, .int (zN (60))), (3, .long (zL ((wsF (fun x0 => TS (upA (H.1 2) 37 ((x0 : Nat) : Int)) (-1) (-1) (gK 0)) 0).2))), (5, .int (zN ((wsF (fun x0 => TS (upA (H.1 2) 37 ((x0 : Nat) : Int)) (-1) (-1) (gK 0)) 0).1))), (6, .int (zN (((0 : Nat) : Int))))]) (List.forall_mem_cons.mpr ⟨(List.Mem.tail _ (List.Mem.tail _ (List.Mem.tail _ (List.Mem.tail _ (List.Mem.head _))))), (List.forall_mem_cons.mpr ⟨(List.Mem.tail _ (List.Mem.tail _ (List.Mem.tail _ (List.Mem.tail _ (List.Mem.tail _ (List.Mem.head _)))))), (List.forall_mem_cons.mpr ⟨(List.Mem.tail _ (List.Mem.tail _ (List.Mem.tail _ (List.Mem.head _)))), (List.forall_mem_cons.mpr ⟨(mem_cl (rfl) (List.Mem.tail _ (List.Mem.tail _ (List.Mem.head _)))), (List.forall_mem_cons.mpr ⟨(mem_ci (rfl) (List.Mem.tail _ (List.Mem.head _))), (List.forall_mem_cons.mpr ⟨(mem_ci (by omega) (List.Mem.head _)), (fun _ h => absurd h List.not_mem_nil)⟩)⟩)⟩)⟩)⟩)⟩) ?_
  exact lp52 (61 - 0 + 1) (0) ((H.1 2 37)) Ht ok5 (by omega) (FrP_take tk) (by rw [upA_self]; exact take_rep ws tk rs) (Nat.lt_succ_self _)

theorem c_X10_wise_1 {d : Nat} {H : ZH} (ok : okZ H)  (ws : WFS (H.1 2)) (rs : RepSc H 35 (H.1 2)) (rl : RepLw H (H.1 2)) (wl : WFL (H.1 2)) : EvC zX (d + 7) mX10_wise [.ref 20, .int (zN (1))] (eh H) (zPi (fun (r : Int) (H1 : ZH) => r = (wsF (fun x0 => TS (upA (H.1 2) 36 ((x0 : Nat) : Int)) (-1) (-1) (gK 0)) 21).1 ∧ FrP H H1)) := by
  show _ ∧ Ev zX mX10_wise (EvC zX (d + 6)) (zPi (fun (r : Int) (H1 : ZH) => r = (wsF (fun x0 => TS (upA (H.1 2) 36 ((x0 : Nat) : Int)) (-1) (-1) (gK 0)) 21).1 ∧ FrP H H1)) 0 [(0, .ref 20), (1, .int (zN (1)))] [] (eh H)
  refine ⟨Nat.le_of_ble_eq_true rfl, ?_⟩
  have wsx := ws
  obtain ⟨ws0, ws1, wsC, ws34, ws35, ws36, ws37, ws38, ws39⟩ := wsx
  have rsx := rs
  obtain ⟨rs0, rs1, rsC, rs34, rs35, rs36, rs37, rs38, rs39⟩ := rsx
  have pb := p100_bd (n := (H.1 2 1).toNat) (by omega)
  have vb : ∀ v : Nat, v < 21 → 0 ≤ (fun x0 => TS (upA (H.1 2) 36 ((x0 : Nat) : Int)) (-1) (-1) (gK 0)) v ∧ (fun x0 => TS (upA (H.1 2) 36 ((x0 : Nat) : Int)) (-1) (-1) (gK 0)) v ≤ 162 * 100 ^ (H.1 2 1).toNat := fun v hv => by
    have tb := TS_bd (wo := -1) (wc := -1) (WFS_up (i := 36) (v := ((v : Nat) : Int)) ws (by omega) ⟨by omega, by omega, by omega, by omega, by omega⟩) (gK_ok (upA (H.1 2) 36 ((v : Nat) : Int)) 0)
    rw [show (upA (H.1 2) 36 ((v : Nat) : Int)) 1 = H.1 2 1 from upA_ne (by omega)] at tb
    exact tb
  have vw : ∀ v : Nat, v < 21 → (fun x0 => TS (upA (H.1 2) 36 ((x0 : Nat) : Int)) (-1) (-1) (gK 0)) v ≤ 100 ^ (H.1 2 1).toNat := fun v hv => by
    have tb := TS_w (wo := -1) (wc := -1) (WFS_up (i := 36) (v := ((v : Nat) : Int)) ws (by omega) ⟨by omega, by omega, by omega, by omega, by omega⟩) 0 (by omega)
    rw [show (upA (H.1 2) 36 ((v : Nat) : Int)) 1 = H.1 2 1 from upA_ne (by omega)] at tb
    exact tb
  refine x_iload_n (pc := 0) dX10_wise_0 (List.Mem.tail _ (List.Mem.head _)) ?_
  refine z_if_lt (pc := 1) (tgt := 9) dX10_wise_1 (by decide) (by decide) (by decide) (fun h => absurd h (by decide)) (fun _ => ?_)
  refine x_iload_n (pc := 4) dX10_wise_4 (List.Mem.tail _ (List.Mem.head _)) ?_
  refine z_iconst (pc := 5) dX10_wise_5 ?_
  refine z_icmp_le (pc := 6) (tgt := 16) dX10_wise_6 (by decide) (by decide) (by decide) (by decide) (by decide) (fun _ => ?_) (fun h => absurd h (by decide))
  refine x_iload_n (pc := 16) dX10_wise_16 (List.Mem.tail _ (List.Mem.head _)) ?_
  refine z_if_ne (pc := 17) (tgt := 25) dX10_wise_17 (by decide) (by decide) (by decide) (fun _ => ?_) (fun h => absurd h (by decide))
  refine z_bipush (pc := 25) dX10_wise_25 bp_20 ?_
  refine x_istore_n (pc := 27) dX10_wise_27 (Nat.le_of_ble_eq_true rfl) ?_
  show Ev _ _ _ _ _ [(2, .int (zN (20))), (0, .ref 20), (1, .int (zN (1)))] _ _
  refine x_aload_n (pc := 28) dX10_wise_28 (List.Mem.tail _ (List.Mem.head _)) ?_
  refine z_getR (pc := 29) (k := 9) (r := 50) dX10_wise_29 lf_X10_62 sh_20 rfl rf_20_9 ?_
  refine x_aload_n (pc := 32) dX10_wise_32 (List.Mem.tail _ (List.Mem.head _)) ?_
  refine z_getR (pc := 33) (k := 3) (r := 98) dX10_wise_33 lf_X10_23 sh_20 rfl rf_20_3 ?_
  refine z_getR (pc := 36) (k := 0) (r := 35) dX10_wise_36 lf_X10_37 sh_98 rfl rf_98_0 ?_
  refine z_callVv (pc := 39) (i := mX6_take) (S := []) [.ref 35] dX10_wise_39 ml_X10_120 ok_X6_take rfl sh_50 rfl rfl (Nat.le_of_ble_eq_true rfl) (c_X6_take_50_35 (d := d + 5) (ok := ok)) ?_
  intro Ht ok5 hp6
  have tk := hp6
  refine z_ldc2_w (pc := 42) (-1) dX10_wise_42 cl_X10_243 (by decide) ?_
  refine x_lstore_n (pc := 45) dX10_wise_45 (Nat.le_of_ble_eq_true rfl) ?_
  show Ev _ _ _ _ _ [(3, .long (zL ((-1)))), (2, .int (zN (20))), (0, .ref 20), (1, .int (zN (1)))] _ _
  refine z_iconst (pc := 46) dX10_wise_46 ?_
  refine x_istore (pc := 47) dX10_wise_47 (Nat.le_of_ble_eq_true rfl) ?_
  show Ev _ _ _ _ _ [(5, .int (zN (0))), (3, .long (zL ((-1)))), (2, .int (zN (20))), (0, .ref 20), (1, .int (zN (1)))] _ _
  refine z_iconst (pc := 49) dX10_wise_49 ?_
  refine x_istore (pc := 50) dX10_wise_50 (Nat.le_of_ble_eq_true rfl) ?_
  show Ev _ _ _ _ _ [(6, .int (zN (0))), (5, .int (zN (0))), (3, .long (zL ((-1)))), (2, .int (zN (20))), (0, .ref 20), (1, .int (zN (1)))] _ _
  have lp52 : ∀ (nF : Nat) (v : Nat) (u : Int) (Hm : ZH), okZ Hm → (v ≤ 21) → (FrP H Hm) → (RepSc Hm 50 (upA (H.1 2) 36 u)) → 21 - v < nF → Ev zX mX10_wise (EvC zX (d + 6)) (zPi (fun (r : Int) (H1 : ZH) => r = (wsF (fun x0 => TS (upA (H.1 2) 36 ((x0 : Nat) : Int)) (-1) (-1) (gK 0)) 21).1 ∧ FrP H H1)) 52 [(0, .ref 20), (1, .int (zN (1))), (2, .int (zN (20))), (3, .long (zL ((wsF (fun x0 => TS (upA (H.1 2) 36 ((x0 : Nat) : Int)) (-1) (-1) (gK 0)) v).2))), (5, .int (zN ((wsF (fun x0 => TS (upA (H.1 2) 36 ((x0 : Nat) : Int)) (-1) (-1) (gK 0)) v).1))), (6, .int (zN ((v : Int))))] [] (eh Hm) := by
    intro nF
    induction nF with
    | zero => intro v u Hm okl52 hv fr ru hm; exact absurd hm (Nat.not_lt_zero _)
    | succ nF ih52 =>
      intro v u Hm okl52 hv fr ru hm
      have rlm := lw_P fr rl
      have bb := wsF_bdn vb (by omega) v hv (by omega)
      refine x_iload (pc := 52) dX10_wise_52 (List.Mem.tail _ (List.Mem.tail _ (List.Mem.tail _ (List.Mem.tail _ (List.Mem.tail _ (List.Mem.head _)))))) ?_
      refine x_iload_n (pc := 54) dX10_wise_54 (List.Mem.tail _ (List.Mem.tail _ (List.Mem.head _))) ?_
      refine z_icmp_gt (pc := 55) (tgt := 154) dX10_wise_55 (by decide) (by omega) (by omega) (by decide) (by decide) (fun hb7 => ?_) (fun hb7 => ?_)
      · skip
        refine x_iload (pc := 154) dX10_wise_154 (List.Mem.tail _ (List.Mem.tail _ (List.Mem.tail _ (List.Mem.tail _ (List.Mem.head _))))) ?_
        refine z_ireturn (pc := 156) dX10_wise_156 rfl (Or.inl rfl) okl52 (by omega) (by omega) ?_
        exact ⟨by rw [show 21 = v by omega], fr⟩
      · skip
        have wsx2 : WFS (upA (H.1 2) 36 ((v : Nat) : Int)) := WFS_up ws (by omega) ⟨by omega, by omega, by omega, by omega, by omega⟩
        have wlx2 : WFL (upA (H.1 2) 36 ((v : Nat) : Int)) := WFL_up wl (by omega)
        have e1x : (upA (H.1 2) 36 ((v : Nat) : Int)) 1 = H.1 2 1 := upA_ne (by omega)
        refine x_aload_n (pc := 58) dX10_wise_58 (List.Mem.head _) ?_
        refine z_getR (pc := 59) (k := 9) (r := 50) dX10_wise_59 lf_X10_62 sh_20 rfl rf_20_9 ?_
        refine x_iload_n (pc := 62) dX10_wise_62 (List.Mem.tail _ (List.Mem.head _)) ?_
        refine z_if_ne (pc := 63) (tgt := 70) dX10_wise_63 (by decide) (by decide) (by decide) (fun _ => ?_) (fun h => absurd h (by decide))
        refine z_iconst (pc := 70) dX10_wise_70 ?_
        refine x_iload (pc := 71) dX10_wise_71 (List.Mem.tail _ (List.Mem.tail _ (List.Mem.tail _ (List.Mem.tail _ (List.Mem.tail _ (List.Mem.head _)))))) ?_
        refine z_callVip (pc := 73) (i := mX6_change) (S := []) [.int (zN (1)), .int (zN ((v : Int)))] dX10_wise_73 ml_X10_162 ok_X6_change rfl sh_50 rfl (Or.inl rfl) (Nat.le_of_ble_eq_true rfl) (c_X6_change (d := d + 5) (s := 50) (hs := isSc_50) (w := (1 : Int)) (v := ((v : Int))) (w1 := (by omega)) (w2 := (by omega)) (v1 := (by omega)) (v2 := (by omega)) (w03 := (by omega)) (ok := okl52)) (fun r9a r9b ok10 => ?_)
        show Ev _ _ _ _ _ _ _ (eh (wI Hm 50 (7 + (1 : Int).toNat) (((v : Int)))))
        refine x_pop (pc := 76) dX10_wise_76 rfl ?_
        refine x_aload_n (pc := 77) dX10_wise_77 (List.Mem.head _) ?_
        refine z_getR (pc := 78) (k := 10) (r := 116) dX10_wise_78 lf_X10_65 sh_20 rfl rf_20_10 ?_
        refine x_aload_n (pc := 81) dX10_wise_81 (List.Mem.head _) ?_
        refine z_getR (pc := 82) (k := 6) (r := 104) dX10_wise_82 lf_X10_48 sh_20 rfl rf_20_6 ?_
        refine x_aload_n (pc := 85) dX10_wise_85 (List.Mem.head _) ?_
        refine z_getR (pc := 86) (k := 9) (r := 50) dX10_wise_86 lf_X10_62 sh_20 rfl rf_20_9 ?_
        refine z_iconst (pc := 89) dX10_wise_89 ?_
        refine z_callVv (pc := 90) (i := mX9_weigh) (S := []) [.ref 104, .ref 50, .int (zN ((-1)))] dX10_wise_90 ml_X10_236 ok_X9_weigh rfl sh_116 rfl rfl (Nat.le_of_ble_eq_true rfl) (c_X9_weigh (d := d) (t := 116) (s := 50) (q := (upA (H.1 2) 36 ((v : Nat) : Int))) (k := ((-1))) (k1 := (by omega)) (k2 := (by omega)) (ok := ok10) (ht := isTr_116) (hs := isSc_50) (ws := wsx2) (rs := (show RepSc (wI Hm 50 (7 + (1 : Int).toNat) ((v : Nat) : Int)) 50 (upA (H.1 2) 36 ((v : Nat) : Int)) from rep_up (i := 36) ws (by omega) ru)) (rl := (lw_up (by omega) (lw_P FrP_50 rlm))) (wl := wlx2)) ?_
        intro Hw ok12 hp13
        obtain ⟨td2, ft⟩ := hp13
        have fr2 : FrP H Hw := FrP_tr (FrP_tr fr FrP_50) (FrP_tr116 ft)
        have ru2 : RepSc Hw 50 (upA (H.1 2) 36 ((v : Nat) : Int)) := RepSc_e (fun cc a b => funext (fun j => ft.1 cc j (by omega) (by omega))) (show RepSc (wI Hm 50 (7 + (1 : Int).toNat) ((v : Nat) : Int)) 50 (upA (H.1 2) 36 ((v : Nat) : Int)) from rep_up (i := 36) ws (by omega) ru)
        have hal : Hw.2 116 0 = (100 : Int) ^ (H.1 2 1).toNat := by have z := trd_0 td2; rw [e1x] at z; exact z
        have vbn := vb v (by omega)
        have vwn := vw v (by omega)
        have vbn2 : 0 ≤ (TS (upA (H.1 2) 36 ((v : Nat) : Int)) (-1) (-1) (gK 0)) ∧ (TS (upA (H.1 2) 36 ((v : Nat) : Int)) (-1) (-1) (gK 0)) ≤ 162 * 100 ^ (H.1 2 1).toNat := vbn
        have vwn2 : (TS (upA (H.1 2) 36 ((v : Nat) : Int)) (-1) (-1) (gK 0)) ≤ 100 ^ (H.1 2 1).toNat := vwn
        have hlg := td2.2.2.2.1
        refine x_aload_n (pc := 93) dX10_wise_93 (List.Mem.head _) ?_
        refine z_getR (pc := 94) (k := 10) (r := 116) dX10_wise_94 lf_X10_65 sh_20 rfl rf_20_10 ?_
        refine z_getJ (pc := 97) (k := 1) (v := (TS (upA (H.1 2) 36 ((v : Nat) : Int)) (-1) (-1) (gK 0))) dX10_wise_97 lf_X10_219 sh_116 rfl (trd_k td2 0 (by omega)) ?_
        refine x_lload_n (pc := 100) dX10_wise_100 (List.Mem.tail _ (List.Mem.tail _ (List.Mem.tail _ (List.Mem.head _)))) ?_
        refine z_lcmp_le (pc := 101) (tgt := 117) dX10_wise_101 dX10_wise_102 (by decide) (by omega) (by omega) (by omega) (by omega) (fun hb14 => ?_) (fun hb14 => ?_)
        · skip
          have hw1 : (wsF (fun x0 => TS (upA (H.1 2) 36 ((x0 : Nat) : Int)) (-1) (-1) (gK 0)) (v + 1)) = (wsF (fun x0 => TS (upA (H.1 2) 36 ((x0 : Nat) : Int)) (-1) (-1) (gK 0)) v) := by show (if (wsF (fun x0 => TS (upA (H.1 2) 36 ((x0 : Nat) : Int)) (-1) (-1) (gK 0)) v).2 < (fun x0 => TS (upA (H.1 2) 36 ((x0 : Nat) : Int)) (-1) (-1) (gK 0)) v then ((v : Int), (fun x0 => TS (upA (H.1 2) 36 ((x0 : Nat) : Int)) (-1) (-1) (gK 0)) v) else (wsF (fun x0 => TS (upA (H.1 2) 36 ((x0 : Nat) : Int)) (-1) (-1) (gK 0)) v)) = _; rw [if_neg (show ¬ (wsF (fun x0 => TS (upA (H.1 2) 36 ((x0 : Nat) : Int)) (-1) (-1) (gK 0)) v).2 < (TS (upA (H.1 2) 36 ((v : Nat) : Int)) (-1) (-1) (gK 0)) by omega)]
          refine x_lload_n (pc := 117) dX10_wise_117 (List.Mem.tail _ (List.Mem.tail _ (List.Mem.tail _ (List.Mem.head _)))) ?_
          refine x_aload_n (pc := 118) dX10_wise_118 (List.Mem.head _) ?_
          refine z_getR (pc := 119) (k := 10) (r := 116) dX10_wise_119 lf_X10_65 sh_20 rfl rf_20_10 ?_
          refine z_getJ (pc := 122) (k := 0) (v := ((100 : Int) ^ (H.1 2 1).toNat)) dX10_wise_122 lf_X10_233 sh_116 rfl hal ?_
          refine z_lcmp_eq (pc := 125) (tgt := 145) dX10_wise_125 dX10_wise_126 (by decide) (by omega) (by omega) (by omega) (by omega) (fun hb15 => ?_) (fun hb15 => ?_)
          · skip
            have hfx : (wsF (fun x0 => TS (upA (H.1 2) 36 ((x0 : Nat) : Int)) (-1) (-1) (gK 0)) 21) = (wsF (fun x0 => TS (upA (H.1 2) 36 ((x0 : Nat) : Int)) (-1) (-1) (gK 0)) (v + 1)) := wsF_fix (by omega) (fun u a b => by have z := vw u b; rw [hw1]; first | exact Int.le_trans z (by omega) | (show (fun x0 => TS (upA (H.1 2) 36 ((x0 : Nat) : Int)) (-1) (-1) (gK 0)) u ≤ (TS (upA (H.1 2) 36 ((v : Nat) : Int)) (-1) (-1) (gK 0)); omega))
            refine x_iload (pc := 145) dX10_wise_145 (List.Mem.tail _ (List.Mem.tail _ (List.Mem.tail _ (List.Mem.tail _ (List.Mem.head _))))) ?_
            refine z_ireturn (pc := 147) dX10_wise_147 rfl (Or.inl rfl) ok12 (by omega) (by omega) ?_
            exact ⟨by rw [hfx, hw1], fr2⟩
          · skip
            refine x_iload_n (pc := 129) dX10_wise_129 (List.Mem.tail _ (List.Mem.head _)) ?_
            refine z_if_ne (pc := 130) (tgt := 148) dX10_wise_130 (by decide) (by decide) (by decide) (fun _ => ?_) (fun h => absurd h (by decide))
            refine z_iinc (pc := 148) dX10_wise_148 (List.Mem.tail _ (List.Mem.tail _ (List.Mem.tail _ (List.Mem.tail _ (List.Mem.tail _ (List.Mem.head _)))))) (Nat.le_of_ble_eq_true rfl) ?_
            show Ev _ _ _ _ _ [(6, .int (zN ((v : Int) + 1))), (0, .ref 20), (1, .int (zN (1))), (2, .int (zN (20))), (3, .long (zL ((wsF (fun x0 => TS (upA (H.1 2) 36 ((x0 : Nat) : Int)) (-1) (-1) (gK 0)) v).2))), (5, .int (zN ((wsF (fun x0 => TS (upA (H.1 2) 36 ((x0 : Nat) : Int)) (-1) (-1) (gK 0)) v).1)))] _ _
            refine x_goto (pc := 151) (tgt := 52) dX10_wise_151 (by decide) ?_
            refine x_weaken (L1 := [(0, .ref 20), (1, .int (zN (1))), (2, .int (zN (20))), (3, .long (zL ((wsF (fun x0 => TS (upA (H.1 2) 36 ((x0 : Nat) : Int)) (-1) (-1) (gK 0)) (v + 1)).2))), (5, .int (zN ((wsF (fun x0 => TS (upA (H.1 2) 36 ((x0 : Nat) : Int)) (-1) (-1) (gK 0)) (v + 1)).1))), (6, .int (zN ((((v + 1) : Nat) : Int))))]) (List.forall_mem_cons.mpr ⟨(List.Mem.tail _ (List.Mem.head _)), (List.forall_mem_cons.mpr ⟨(List.Mem.tail _ (List.Mem.tail _ (List.Mem.head _))), (List.forall_mem_cons.mpr ⟨(List.Mem.tail _ (List.Mem.tail _ (List.Mem.tail _ (List.Mem.head _)))), (List.forall_mem_cons.mpr ⟨(mem_cl (by rw [hw1]) (List.Mem.tail _ (List.Mem.tail _ (List.Mem.tail _ (List.Mem.tail _ (List.Mem.head _)))))), (List.forall_mem_cons.mpr ⟨(mem_ci (by rw [hw1]) (List.Mem.tail _ (List.Mem.tail _ (List.Mem.tail _ (List.Mem.tail _ (List.Mem.tail _ (List.Mem.head _))))))), (List.forall_mem_cons.mpr ⟨(mem_ci (by omega) (List.Mem.head _)), (fun _ h => absurd h List.not_mem_nil)⟩)⟩)⟩)⟩)⟩)⟩) ?_
            exact ih52 ((v + 1)) (((v : Nat) : Int)) Hw ok12 (by omega) (fr2) (ru2) (by omega)
        · skip
          have hw1 : (wsF (fun x0 => TS (upA (H.1 2) 36 ((x0 : Nat) : Int)) (-1) (-1) (gK 0)) (v + 1)) = ((v : Int), (TS (upA (H.1 2) 36 ((v : Nat) : Int)) (-1) (-1) (gK 0))) := by show (if (wsF (fun x0 => TS (upA (H.1 2) 36 ((x0 : Nat) : Int)) (-1) (-1) (gK 0)) v).2 < (fun x0 => TS (upA (H.1 2) 36 ((x0 : Nat) : Int)) (-1) (-1) (gK 0)) v then ((v : Int), (fun x0 => TS (upA (H.1 2) 36 ((x0 : Nat) : Int)) (-1) (-1) (gK 0)) v) else (wsF (fun x0 => TS (upA (H.1 2) 36 ((x0 : Nat) : Int)) (-1) (-1) (gK 0)) v)) = _; rw [if_pos (show (wsF (fun x0 => TS (upA (H.1 2) 36 ((x0 : Nat) : Int)) (-1) (-1) (gK 0)) v).2 < (TS (upA (H.1 2) 36 ((v : Nat) : Int)) (-1) (-1) (gK 0)) by omega)]
          refine x_aload_n (pc := 105) dX10_wise_105 (List.Mem.head _) ?_
          refine z_getR (pc := 106) (k := 10) (r := 116) dX10_wise_106 lf_X10_65 sh_20 rfl rf_20_10 ?_
          refine z_getJ (pc := 109) (k := 1) (v := (TS (upA (H.1 2) 36 ((v : Nat) : Int)) (-1) (-1) (gK 0))) dX10_wise_109 lf_X10_219 sh_116 rfl (trd_k td2 0 (by omega)) ?_
          refine x_lstore_n (pc := 112) dX10_wise_112 (Nat.le_of_ble_eq_true rfl) ?_
          show Ev _ _ _ _ _ [(3, .long (zL (((TS (upA (H.1 2) 36 ((v : Nat) : Int)) (-1) (-1) (gK 0)))))), (0, .ref 20), (1, .int (zN (1))), (2, .int (zN (20))), (5, .int (zN ((wsF (fun x0 => TS (upA (H.1 2) 36 ((x0 : Nat) : Int)) (-1) (-1) (gK 0)) v).1))), (6, .int (zN ((v : Int))))] _ _
          refine x_iload (pc := 113) dX10_wise_113 (List.Mem.tail _ (List.Mem.tail _ (List.Mem.tail _ (List.Mem.tail _ (List.Mem.tail _ (List.Mem.head _)))))) ?_
          refine x_istore (pc := 115) dX10_wise_115 (Nat.le_of_ble_eq_true rfl) ?_
          show Ev _ _ _ _ _ [(5, .int (zN ((v : Int)))), (3, .long (zL (((TS (upA (H.1 2) 36 ((v : Nat) : Int)) (-1) (-1) (gK 0)))))), (0, .ref 20), (1, .int (zN (1))), (2, .int (zN (20))), (6, .int (zN ((v : Int))))] _ _
          refine x_lload_n (pc := 117) dX10_wise_117 (List.Mem.tail _ (List.Mem.head _)) ?_
          refine x_aload_n (pc := 118) dX10_wise_118 (List.Mem.tail _ (List.Mem.tail _ (List.Mem.head _))) ?_
          refine z_getR (pc := 119) (k := 10) (r := 116) dX10_wise_119 lf_X10_65 sh_20 rfl rf_20_10 ?_
          refine z_getJ (pc := 122) (k := 0) (v := ((100 : Int) ^ (H.1 2 1).toNat)) dX10_wise_122 lf_X10_233 sh_116 rfl hal ?_
          refine z_lcmp_eq (pc := 125) (tgt := 145) dX10_wise_125 dX10_wise_126 (by decide) (by omega) (by omega) (by omega) (by omega) (fun hb17 => ?_) (fun hb17 => ?_)
          · skip
            have hfx : (wsF (fun x0 => TS (upA (H.1 2) 36 ((x0 : Nat) : Int)) (-1) (-1) (gK 0)) 21) = (wsF (fun x0 => TS (upA (H.1 2) 36 ((x0 : Nat) : Int)) (-1) (-1) (gK 0)) (v + 1)) := wsF_fix (by omega) (fun u a b => by have z := vw u b; rw [hw1]; first | exact Int.le_trans z (by omega) | (show (fun x0 => TS (upA (H.1 2) 36 ((x0 : Nat) : Int)) (-1) (-1) (gK 0)) u ≤ (TS (upA (H.1 2) 36 ((v : Nat) : Int)) (-1) (-1) (gK 0)); omega))
            refine x_iload (pc := 145) dX10_wise_145 (List.Mem.head _) ?_
            refine z_ireturn (pc := 147) dX10_wise_147 rfl (Or.inl rfl) ok12 (by omega) (by omega) ?_
            exact ⟨by rw [hfx, hw1], fr2⟩
          · skip
            refine x_iload_n (pc := 129) dX10_wise_129 (List.Mem.tail _ (List.Mem.tail _ (List.Mem.tail _ (List.Mem.head _)))) ?_
            refine z_if_ne (pc := 130) (tgt := 148) dX10_wise_130 (by decide) (by decide) (by decide) (fun _ => ?_) (fun h => absurd h (by decide))
            refine z_iinc (pc := 148) dX10_wise_148 (List.Mem.tail _ (List.Mem.tail _ (List.Mem.tail _ (List.Mem.tail _ (List.Mem.tail _ (List.Mem.head _)))))) (Nat.le_of_ble_eq_true rfl) ?_
            show Ev _ _ _ _ _ [(6, .int (zN ((v : Int) + 1))), (5, .int (zN ((v : Int)))), (3, .long (zL (((TS (upA (H.1 2) 36 ((v : Nat) : Int)) (-1) (-1) (gK 0)))))), (0, .ref 20), (1, .int (zN (1))), (2, .int (zN (20)))] _ _
            refine x_goto (pc := 151) (tgt := 52) dX10_wise_151 (by decide) ?_
            refine x_weaken (L1 := [(0, .ref 20), (1, .int (zN (1))), (2, .int (zN (20))), (3, .long (zL ((wsF (fun x0 => TS (upA (H.1 2) 36 ((x0 : Nat) : Int)) (-1) (-1) (gK 0)) (v + 1)).2))), (5, .int (zN ((wsF (fun x0 => TS (upA (H.1 2) 36 ((x0 : Nat) : Int)) (-1) (-1) (gK 0)) (v + 1)).1))), (6, .int (zN ((((v + 1) : Nat) : Int))))]) (List.forall_mem_cons.mpr ⟨(List.Mem.tail _ (List.Mem.tail _ (List.Mem.tail _ (List.Mem.head _)))), (List.forall_mem_cons.mpr ⟨(List.Mem.tail _ (List.Mem.tail _ (List.Mem.tail _ (List.Mem.tail _ (List.Mem.head _))))), (List.forall_mem_cons.mpr ⟨(List.Mem.tail _ (List.Mem.tail _ (List.Mem.tail _ (List.Mem.tail _ (List.Mem.tail _ (List.Mem.head _)))))), (List.forall_mem_cons.mpr ⟨(mem_cl (by rw [hw1]) (List.Mem.tail _ (List.Mem.tail _ (List.Mem.head _)))), (List.forall_mem_cons.mpr ⟨(mem_ci (by rw [hw1]) (List.Mem.tail _ (List.Mem.head _))), (List.forall_mem_cons.mpr ⟨(mem_ci (by omega) (List.Mem.head _)), (fun _ h => absurd h List.not_mem_nil)⟩)⟩)⟩)⟩)⟩)⟩) ?_
            exact ih52 ((v + 1)) (((v : Nat) : Int)) Hw ok12 (by omega) (fr2) (ru2) (by omega)
  refine x_weaken (L1 := [(0, .ref 20), (1, .int (zN (1))), (2, .int (zN (20))), (3, .long (zL ((wsF (fun x0 => TS (upA (H.1 2) 36 ((x0 : Nat) : Int)) (-1) (-1) (gK 0)) 0).2))), (5, .int (zN ((wsF (fun x0 => TS (upA (H.1 2) 36 ((x0 : Nat) : Int)) (-1) (-1) (gK 0)) 0).1))), (6, .int (zN (((0 : Nat) : Int))))]) (List.forall_mem_cons.mpr ⟨(List.Mem.tail _ (List.Mem.tail _ (List.Mem.tail _ (List.Mem.tail _ (List.Mem.head _))))), (List.forall_mem_cons.mpr ⟨(List.Mem.tail _ (List.Mem.tail _ (List.Mem.tail _ (List.Mem.tail _ (List.Mem.tail _ (List.Mem.head _)))))), (List.forall_mem_cons.mpr ⟨(List.Mem.tail _ (List.Mem.tail _ (List.Mem.tail _ (List.Mem.head _)))), (List.forall_mem_cons.mpr ⟨(mem_cl (rfl) (List.Mem.tail _ (List.Mem.tail _ (List.Mem.head _)))), (List.forall_mem_cons.mpr ⟨(mem_ci (rfl) (List.Mem.tail _ (List.Mem.head _))), (List.forall_mem_cons.mpr ⟨(mem_ci (by omega) (List.Mem.head _)), (fun _ h => absurd h List.not_mem_nil)⟩)⟩)⟩)⟩)⟩)⟩) ?_
  exact lp52 (21 - 0 + 1) (0) ((H.1 2 36)) Ht ok5 (by omega) (FrP_take tk) (by rw [upA_self]; exact take_rep ws tk rs) (Nat.lt_succ_self _)

theorem c_X10_wise_x {d : Nat} {H : ZH} (ok : okZ H) {what : Int} (hne : ¬ (0 ≤ what ∧ what ≤ 1)) (what1 : -2147483648 ≤ what) (what2 : what ≤ 2147483647) (cn : cntOK H 25) : EvC zX (d + 7) mX10_wise [.ref 20, .int (zN (what))] (eh H) (zPi (fun (r : Int) (H1 : ZH) => r = -2 ∧ H1 = bumpC 0 H)) := by
  show _ ∧ Ev zX mX10_wise (EvC zX (d + 6)) (zPi (fun (r : Int) (H1 : ZH) => r = -2 ∧ H1 = bumpC 0 H)) 0 [(0, .ref 20), (1, .int (zN (what)))] [] (eh H)
  refine ⟨Nat.le_of_ble_eq_true rfl, ?_⟩
  refine x_iload_n (pc := 0) dX10_wise_0 (List.Mem.tail _ (List.Mem.head _)) ?_
  refine z_if_lt (pc := 1) (tgt := 9) dX10_wise_1 (by decide) (by omega) (by omega) (fun hb1 => ?_) (fun hb1 => ?_)
  · skip
    refine x_aload_n (pc := 9) dX10_wise_9 (List.Mem.head _) ?_
    refine z_bipush (pc := 10) dX10_wise_10 bp_m2 ?_
    refine z_callVip (pc := 12) (i := mX10_refuse) (S := []) [.int (zN ((-2)))] dX10_wise_12 ml_X10_97 ok_X10_refuse rfl sh_20 rfl (Or.inl rfl) (Nat.le_of_ble_eq_true rfl) (c_X10_refuse (d := d + 5) (code := ((-2))) (code1 := (by omega)) (code2 := (by omega)) (ok := ok) (cn := (by first | assumption | omega))) (fun r2a r2b ok3 => ?_)
    show Ev _ _ _ _ _ _ _ (eh (wI H 25 ((refIx ((-2)))) (H.1 25 (refIx ((-2))) + 1)))
    refine z_ireturn (pc := 15) dX10_wise_15 rfl (Or.inl rfl) ok3 (by omega) (by omega) ?_
    exact ⟨rfl, rfl⟩
  · skip
    refine x_iload_n (pc := 4) dX10_wise_4 (List.Mem.tail _ (List.Mem.head _)) ?_
    refine z_iconst (pc := 5) dX10_wise_5 ?_
    refine z_icmp_le (pc := 6) (tgt := 16) dX10_wise_6 (by decide) (by omega) (by omega) (by decide) (by decide) (fun hb4 => ?_) (fun hb4 => ?_)
    · skip
      exact absurd ⟨by omega, by omega⟩ hne
    · skip
      refine x_aload_n (pc := 9) dX10_wise_9 (List.Mem.head _) ?_
      refine z_bipush (pc := 10) dX10_wise_10 bp_m2 ?_
      refine z_callVip (pc := 12) (i := mX10_refuse) (S := []) [.int (zN ((-2)))] dX10_wise_12 ml_X10_97 ok_X10_refuse rfl sh_20 rfl (Or.inl rfl) (Nat.le_of_ble_eq_true rfl) (c_X10_refuse (d := d + 5) (code := ((-2))) (code1 := (by omega)) (code2 := (by omega)) (ok := ok) (cn := (by first | assumption | omega))) (fun r5a r5b ok6 => ?_)
      show Ev _ _ _ _ _ _ _ (eh (wI H 25 ((refIx ((-2)))) (H.1 25 (refIx ((-2))) + 1)))
      refine z_ireturn (pc := 15) dX10_wise_15 rfl (Or.inl rfl) ok6 (by omega) (by omega) ?_
      exact ⟨rfl, rfl⟩
