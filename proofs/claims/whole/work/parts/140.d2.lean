/-! GROUP D2: the calls on places. -/
theorem prank_s (A : Nat → Int) (p q : Nat) : prank A p (q + 1) = prank A p q + (if phurt A p * zmx (cross A q) < phurt A q * zmx (cross A p) ∨ phurt A q * zmx (cross A p) = phurt A p * zmx (cross A q) ∧ q < p then 1 else 0) := by
  show prank A p q + (if pwor A q p = true ∨ q < p ∧ ¬ pwor A p q = true then 1 else 0) = _
  congr 1
  by_cases c : phurt A p * zmx (cross A q) < phurt A q * zmx (cross A p)
  · rw [if_pos (show pwor A q p = true ∨ q < p ∧ ¬ pwor A p q = true from Or.inl (decide_eq_true c)), if_pos (Or.inl c)]
  · by_cases d : q < p
    · by_cases e : phurt A q * zmx (cross A p) < phurt A p * zmx (cross A q)
      · rw [if_neg, if_neg]
        · intro h; omega
        · intro h
          rcases h with h | h
          · exact c (of_decide_eq_true h)
          · exact h.2 (decide_eq_true e)
      · rw [if_pos (show pwor A q p = true ∨ q < p ∧ ¬ pwor A p q = true from Or.inr ⟨d, fun h => e (of_decide_eq_true h)⟩), if_pos (Or.inr ⟨by omega, d⟩)]
    · rw [if_neg, if_neg]
      · intro h; omega
      · intro h
        rcases h with h | h
        · exact c (of_decide_eq_true h)
        · exact d h.1
theorem psums12 {A : Nat → Int} (h : WFP A) (w : Int) : 0 ≤ rhurt A w ∧ rhurt A w ≤ rcros A w ∧ rcros A w ≤ 7200 := by
  have s := psums h w
  unfold rhurt rcros
  omega
theorem gcd_div_bd {a b x : Int} (h1 : 0 ≤ x) (h2 : x ≤ 7200) (h3 : 0 < b) : 0 < ((Int.gcd a b : Nat) : Int) ∧ 0 ≤ x / ((Int.gcd a b : Nat) : Int) ∧ x / ((Int.gcd a b : Nat) : Int) ≤ 7200 := by
  have h : 0 < Int.gcd a b := Int.gcd_pos_of_ne_zero_right a (by omega)
  have e := Int.ediv_le_self ((Int.gcd a b : Nat) : Int) h1
  have f := Int.ediv_nonneg (a := x) (b := ((Int.gcd a b : Nat) : Int)) h1 (by omega)
  omega
theorem gcd_bd {a b : Int} (h3 : 0 < b) : ((Int.gcd a b : Nat) : Int) ≤ b := by
  have h := Int.le_of_dvd h3 (Int.gcd_dvd_right a b)
  exact h

theorem c_X10_isPlace {d : Nat} {H : ZH} (ok : okZ H) {a : Int} (a1 : -2147483648 ≤ a) (a2 : a ≤ 2147483647) (wp : WFP (H.1 2)) (rp : RepP H) : EvC zX (d + 1) mX10_isPlace [.ref 20, .int (zN (a))] (eh H) (zPi (fun (rz : Int) (Hz : ZH) => rz = (if 0 ≤ a ∧ a ≤ H.1 2 477 - 1 then 1 else 0) ∧ Hz = H)) := by
  show _ ∧ Ev zX mX10_isPlace (EvC zX d) (zPi (fun (rz : Int) (Hz : ZH) => rz = (if 0 ≤ a ∧ a ≤ H.1 2 477 - 1 then 1 else 0) ∧ Hz = H)) 0 [(0, .ref 20), (1, .int (zN (a)))] [] (eh H)
  refine ⟨Nat.le_of_ble_eq_true rfl, ?_⟩
  have wpx := wp
  obtain ⟨wpA, wpB, wpC⟩ := wpx
  have rpx := rp
  obtain ⟨rpA, rpB, rpC⟩ := rpx
  refine x_iload_n (pc := 0) dX10_isPlace_0 (List.Mem.tail _ (List.Mem.head _)) ?_
  refine z_if_lt (pc := 1) (tgt := 22) dX10_isPlace_1 (by decide) (by omega) (by omega) (fun hb1 => ?_) (fun hb1 => ?_)
  · skip
    refine z_iconst (pc := 22) dX10_isPlace_22 ?_
    refine z_ireturn (pc := 23) dX10_isPlace_23 rfl (Or.inr ⟨rfl, by omega⟩) ok (by decide) (by decide) ?_
    exact ⟨by first | rfl | omega | simp_all, rfl⟩
  · skip
    refine x_iload_n (pc := 4) dX10_isPlace_4 (List.Mem.tail _ (List.Mem.head _)) ?_
    refine x_aload_n (pc := 5) dX10_isPlace_5 (List.Mem.head _) ?_
    refine z_getR (pc := 6) (k := 3) (r := 98) dX10_isPlace_6 lf_X10_23 sh_20 rfl rf_20_3 ?_
    refine z_getR (pc := 9) (k := 2) (r := 71) dX10_isPlace_9 lf_X10_293 sh_98 rfl rf_98_2 ?_
    have rd2 := ok.1 71 0
    refine z_getI (pc := 12) (k := 0) (v := H.1 71 0) dX10_isPlace_12 lf_X10_297 sh_71 rfl rfl ?_
    refine z_icmp_ge (pc := 15) (tgt := 22) dX10_isPlace_15 (by decide) (by omega) (by omega) (by omega) (by omega) (fun hb3 => ?_) (fun hb3 => ?_)
    · skip
      refine z_iconst (pc := 22) dX10_isPlace_22 ?_
      refine z_ireturn (pc := 23) dX10_isPlace_23 rfl (Or.inr ⟨rfl, by omega⟩) ok (by decide) (by decide) ?_
      exact ⟨by first | rfl | omega | simp_all, rfl⟩
    · skip
      refine z_iconst (pc := 18) dX10_isPlace_18 ?_
      refine x_goto (pc := 19) (tgt := 23) dX10_isPlace_19 (by decide) ?_
      refine z_ireturn (pc := 23) dX10_isPlace_23 rfl (Or.inr ⟨rfl, by omega⟩) ok (by decide) (by decide) ?_
      exact ⟨by first | rfl | omega | simp_all, rfl⟩

theorem c_X11_isPlace {d : Nat} {H : ZH} (ok : okZ H) {a : Int} (a1 : -2147483648 ≤ a) (a2 : a ≤ 2147483647) (wp : WFP (H.1 2)) : EvC zX (d + 2) mX11_isPlace [.ref 0, .int (zN (a))] (eh H) (zPi (fun (rz : Int) (Hz : ZH) => rz = (if 0 ≤ a ∧ a ≤ H.1 2 477 - 1 then 1 else 0) ∧ Hz = H)) := by
  show _ ∧ Ev zX mX11_isPlace (EvC zX (d + 1)) (zPi (fun (rz : Int) (Hz : ZH) => rz = (if 0 ≤ a ∧ a ≤ H.1 2 477 - 1 then 1 else 0) ∧ Hz = H)) 0 [(0, .ref 0), (1, .int (zN (a)))] [] (eh H)
  refine ⟨Nat.le_of_ble_eq_true rfl, ?_⟩
  have wpx := wp
  obtain ⟨wpA, wpB, wpC⟩ := wpx
  refine x_iload_n (pc := 0) dX11_isPlace_0 (List.Mem.tail _ (List.Mem.head _)) ?_
  refine z_i2l (pc := 1) dX11_isPlace_1 (by omega) (by omega) ?_
  refine z_lconst (pc := 2) 0 dX11_isPlace_2 rfl ?_
  refine x_aload_n (pc := 3) dX11_isPlace_3 (List.Mem.head _) ?_
  refine z_getR (pc := 4) (k := 2) (r := 2) dX11_isPlace_4 lf_X11_17 sh_0 rfl rf_0_2 ?_
  refine z_sipush (pc := 7) dX11_isPlace_7 sp_477 ?_
  have rd1 := ok.1 2 477
  refine z_iald (pc := 10) (j := 477) (v := H.1 2 477) dX11_isPlace_10 sh_2 rfl (Nat.le_of_ble_eq_true rfl) (by decide) rfl ?_
  refine z_iconst (pc := 11) dX11_isPlace_11 ?_
  refine z_isub (pc := 12) dX11_isPlace_12 ?_
  refine z_i2l (pc := 13) dX11_isPlace_13 (by omega) (by omega) ?_
  refine z_callSbp (pc := 14) (i := mX11_within) (S := []) [.long (zL (a)), .long (zL (0)), .long (zL (((H.1 2 477) - 1)))] dX11_isPlace_14 ml_X11_152 ok_X11_within rfl (Or.inr rfl) (Nat.le_of_ble_eq_true rfl) (c_X11_within (d := d) (v := a) (lo := 0) (hi := (((H.1 2 477) - 1))) (v1 := (by omega)) (v2 := (by omega)) (lo1 := (by omega)) (lo2 := (by omega)) (hi1 := (by omega)) (hi2 := (by omega)) (ok := ok)) (fun hc4 ok3 => ?_) (fun hc4 ok3 => ?_)
  · skip
    refine z_ireturn (pc := 17) dX11_isPlace_17 rfl (Or.inr ⟨rfl, by omega⟩) ok3 (by decide) (by decide) ?_
    exact ⟨by first | rfl | omega | simp_all, rfl⟩
  · skip
    refine z_ireturn (pc := 17) dX11_isPlace_17 rfl (Or.inr ⟨rfl, by omega⟩) ok3 (by decide) (by decide) ?_
    exact ⟨by first | rfl | omega | simp_all, rfl⟩

theorem c_X11_isWorse {d : Nat} {H : ZH} (ok : okZ H) {p q : Nat} (hp : p < 12) (hq : q < 12) (wp : WFP (H.1 2)) : EvC zX (d + 2) mX11_isWorse [.ref 0, .int (zN ((p : Int))), .int (zN ((q : Int)))] (eh H) (zPi (fun (rz : Int) (Hz : ZH) => rz = (if phurt (H.1 2) q * zmx (cross (H.1 2) p) < phurt (H.1 2) p * zmx (cross (H.1 2) q) then 1 else 0) ∧ Hz = H)) := by
  show _ ∧ Ev zX mX11_isWorse (EvC zX (d + 1)) (zPi (fun (rz : Int) (Hz : ZH) => rz = (if phurt (H.1 2) q * zmx (cross (H.1 2) p) < phurt (H.1 2) p * zmx (cross (H.1 2) q) then 1 else 0) ∧ Hz = H)) 0 [(0, .ref 0), (1, .int (zN ((p : Int)))), (2, .int (zN ((q : Int))))] [] (eh H)
  refine ⟨Nat.le_of_ble_eq_true rfl, ?_⟩
  have wpx := wp
  obtain ⟨wpA, wpB, wpC⟩ := wpx
  have c1 := cross_bd wp hp
  have c2 := cross_bd wp hq
  unfold cross at c1 c2
  have w1 := wpB p hp
  have w2 := wpB q hq
  have x1 := nn2 (x := phurt (H.1 2) p) (y := H.1 2 (490 + q) + H.1 2 (502 + q)) (A := 600) (B := 600) (by omega) (by omega) (by omega) (by omega)
  have x2 := nn2 (x := phurt (H.1 2) q) (y := H.1 2 (490 + p) + H.1 2 (502 + p)) (A := 600) (B := 600) (by omega) (by omega) (by omega) (by omega)
  have m1 : phurt (H.1 2) p * zmx (cross (H.1 2) q) = if (H.1 2 (490 + q) + H.1 2 (502 + q)) = 0 then phurt (H.1 2) p else phurt (H.1 2) p * (H.1 2 (490 + q) + H.1 2 (502 + q)) := by unfold zmx cross; (repeat' split) <;> first | omega | rfl | (rw [Int.mul_one])
  have m2 : phurt (H.1 2) q * zmx (cross (H.1 2) p) = if (H.1 2 (490 + p) + H.1 2 (502 + p)) = 0 then phurt (H.1 2) q else phurt (H.1 2) q * (H.1 2 (490 + p) + H.1 2 (502 + p)) := by unfold zmx cross; (repeat' split) <;> first | omega | rfl | (rw [Int.mul_one])
  have n1 : phurt (H.1 2) p ≤ H.1 2 (490 + p) + H.1 2 (502 + p) := by omega
  have n2 : phurt (H.1 2) q ≤ H.1 2 (490 + q) + H.1 2 (502 + q) := by omega
  have y1 : (H.1 2 (490 + q) + H.1 2 (502 + q)) = 0 → phurt (H.1 2) q * (H.1 2 (490 + p) + H.1 2 (502 + p)) = 0 := fun h => by rw [show phurt (H.1 2) q = 0 by omega, Int.zero_mul]
  have y2 : (H.1 2 (490 + p) + H.1 2 (502 + p)) = 0 → phurt (H.1 2) p * (H.1 2 (490 + q) + H.1 2 (502 + q)) = 0 := fun h => by rw [show phurt (H.1 2) p = 0 by omega, Int.zero_mul]
  refine x_aload_n (pc := 0) dX11_isWorse_0 (List.Mem.head _) ?_
  refine z_getR (pc := 1) (k := 2) (r := 2) dX11_isWorse_1 lf_X11_17 sh_0 rfl rf_0_2 ?_
  refine z_sipush (pc := 4) dX11_isWorse_4 sp_490 ?_
  refine x_iload_n (pc := 7) dX11_isWorse_7 (List.Mem.tail _ (List.Mem.head _)) ?_
  refine z_iadd (pc := 8) dX11_isWorse_8 ?_
  have rd1 := ok.1 2 (490 + p)
  refine z_iald (pc := 9) (j := 490 + p) (v := H.1 2 (490 + p)) dX11_isWorse_9 sh_2 (by omega) (by omega) (by decide) rfl ?_
  refine x_aload_n (pc := 10) dX11_isWorse_10 (List.Mem.head _) ?_
  refine z_getR (pc := 11) (k := 2) (r := 2) dX11_isWorse_11 lf_X11_17 sh_0 rfl rf_0_2 ?_
  refine z_sipush (pc := 14) dX11_isWorse_14 sp_502 ?_
  refine x_iload_n (pc := 17) dX11_isWorse_17 (List.Mem.tail _ (List.Mem.head _)) ?_
  refine z_iadd (pc := 18) dX11_isWorse_18 ?_
  have rd2 := ok.1 2 (502 + p)
  refine z_iald (pc := 19) (j := 502 + p) (v := H.1 2 (502 + p)) dX11_isWorse_19 sh_2 (by omega) (by omega) (by decide) rfl ?_
  refine z_iadd (pc := 20) dX11_isWorse_20 ?_
  refine z_i2l (pc := 21) dX11_isWorse_21 (by omega) (by omega) ?_
  refine x_lstore_n (pc := 22) dX11_isWorse_22 (Nat.le_of_ble_eq_true rfl) ?_
  show Ev _ _ _ _ _ [(3, .long (zL (((H.1 2 (490 + p)) + (H.1 2 (502 + p)))))), (0, .ref 0), (1, .int (zN ((p : Int)))), (2, .int (zN ((q : Int))))] _ _
  refine x_aload_n (pc := 23) dX11_isWorse_23 (List.Mem.tail _ (List.Mem.head _)) ?_
  refine z_getR (pc := 24) (k := 2) (r := 2) dX11_isWorse_24 lf_X11_17 sh_0 rfl rf_0_2 ?_
  refine z_sipush (pc := 27) dX11_isWorse_27 sp_490 ?_
  refine x_iload_n (pc := 30) dX11_isWorse_30 (List.Mem.tail _ (List.Mem.tail _ (List.Mem.tail _ (List.Mem.head _)))) ?_
  refine z_iadd (pc := 31) dX11_isWorse_31 ?_
  have rd3 := ok.1 2 (490 + q)
  refine z_iald (pc := 32) (j := 490 + q) (v := H.1 2 (490 + q)) dX11_isWorse_32 sh_2 (by omega) (by omega) (by decide) rfl ?_
  refine x_aload_n (pc := 33) dX11_isWorse_33 (List.Mem.tail _ (List.Mem.head _)) ?_
  refine z_getR (pc := 34) (k := 2) (r := 2) dX11_isWorse_34 lf_X11_17 sh_0 rfl rf_0_2 ?_
  refine z_sipush (pc := 37) dX11_isWorse_37 sp_502 ?_
  refine x_iload_n (pc := 40) dX11_isWorse_40 (List.Mem.tail _ (List.Mem.tail _ (List.Mem.tail _ (List.Mem.head _)))) ?_
  refine z_iadd (pc := 41) dX11_isWorse_41 ?_
  have rd4 := ok.1 2 (502 + q)
  refine z_iald (pc := 42) (j := 502 + q) (v := H.1 2 (502 + q)) dX11_isWorse_42 sh_2 (by omega) (by omega) (by decide) rfl ?_
  refine z_iadd (pc := 43) dX11_isWorse_43 ?_
  refine z_i2l (pc := 44) dX11_isWorse_44 (by omega) (by omega) ?_
  refine x_lstore (pc := 45) dX11_isWorse_45 (Nat.le_of_ble_eq_true rfl) ?_
  show Ev _ _ _ _ _ [(5, .long (zL (((H.1 2 (490 + q)) + (H.1 2 (502 + q)))))), (3, .long (zL (((H.1 2 (490 + p)) + (H.1 2 (502 + p)))))), (0, .ref 0), (1, .int (zN ((p : Int)))), (2, .int (zN ((q : Int))))] _ _
  refine x_lload_n (pc := 47) dX11_isWorse_47 (List.Mem.tail _ (List.Mem.head _)) ?_
  refine z_lconst (pc := 48) 0 dX11_isWorse_48 rfl ?_
  refine z_lcmp_ne (pc := 49) (tgt := 57) dX11_isWorse_49 dX11_isWorse_50 (by decide) (by omega) (by omega) (by decide) (by decide) (fun hb5 => ?_) (fun hb5 => ?_)
  · skip
    refine x_aload_n (pc := 57) dX11_isWorse_57 (List.Mem.tail _ (List.Mem.tail _ (List.Mem.head _))) ?_
    refine x_iload_n (pc := 58) dX11_isWorse_58 (List.Mem.tail _ (List.Mem.tail _ (List.Mem.tail _ (List.Mem.head _)))) ?_
    refine z_callVip (pc := 59) (i := mX11_hurtAt) (S := []) [.int (zN ((p : Int)))] dX11_isWorse_59 ml_X11_331 ok_X11_hurtAt rfl sh_0 rfl (Or.inl rfl) (Nat.le_of_ble_eq_true rfl) (c_X11_hurtAt (d := d) (p := p) (hp := (by omega)) (ok := ok) (wp := (by first | assumption | omega))) (fun r6a r6b ok7 => ?_)
    refine z_i2l (pc := 62) dX11_isWorse_62 (by omega) (by omega) ?_
    refine x_lload (pc := 63) dX11_isWorse_63 (List.Mem.head _) ?_
    refine z_lconst (pc := 65) 0 dX11_isWorse_65 rfl ?_
    refine z_lcmp_ne (pc := 66) (tgt := 74) dX11_isWorse_66 dX11_isWorse_67 (by decide) (by omega) (by omega) (by decide) (by decide) (fun hb8 => ?_) (fun hb8 => ?_)
    · skip
      refine x_lload (pc := 74) dX11_isWorse_74 (List.Mem.head _) ?_
      refine z_lmul (pc := 76) dX11_isWorse_76 ?_
      refine x_lstore (pc := 77) dX11_isWorse_77 (Nat.le_of_ble_eq_true rfl) ?_
      show Ev _ _ _ _ _ [(7, .long (zL (((phurt (H.1 2) p) * ((H.1 2 (490 + q)) + (H.1 2 (502 + q))))))), (5, .long (zL (((H.1 2 (490 + q)) + (H.1 2 (502 + q)))))), (3, .long (zL (((H.1 2 (490 + p)) + (H.1 2 (502 + p)))))), (0, .ref 0), (1, .int (zN ((p : Int)))), (2, .int (zN ((q : Int))))] _ _
      refine x_lload (pc := 79) dX11_isWorse_79 (List.Mem.tail _ (List.Mem.head _)) ?_
      refine z_lconst (pc := 81) 0 dX11_isWorse_81 rfl ?_
      refine z_lcmp_ne (pc := 82) (tgt := 90) dX11_isWorse_82 dX11_isWorse_83 (by decide) (by omega) (by omega) (by decide) (by decide) (fun hb9 => ?_) (fun hb9 => ?_)
      · skip
        refine x_aload_n (pc := 90) dX11_isWorse_90 (List.Mem.tail _ (List.Mem.tail _ (List.Mem.tail _ (List.Mem.head _)))) ?_
        refine x_iload_n (pc := 91) dX11_isWorse_91 (List.Mem.tail _ (List.Mem.tail _ (List.Mem.tail _ (List.Mem.tail _ (List.Mem.tail _ (List.Mem.head _)))))) ?_
        refine z_callVip (pc := 92) (i := mX11_hurtAt) (S := []) [.int (zN ((q : Int)))] dX11_isWorse_92 ml_X11_331 ok_X11_hurtAt rfl sh_0 rfl (Or.inl rfl) (Nat.le_of_ble_eq_true rfl) (c_X11_hurtAt (d := d) (p := q) (hp := (by omega)) (ok := ok7) (wp := (by first | assumption | omega))) (fun r10a r10b ok11 => ?_)
        refine z_i2l (pc := 95) dX11_isWorse_95 (by omega) (by omega) ?_
        refine x_lload_n (pc := 96) dX11_isWorse_96 (List.Mem.tail _ (List.Mem.tail _ (List.Mem.head _))) ?_
        refine z_lconst (pc := 97) 0 dX11_isWorse_97 rfl ?_
        refine z_lcmp_ne (pc := 98) (tgt := 106) dX11_isWorse_98 dX11_isWorse_99 (by decide) (by omega) (by omega) (by decide) (by decide) (fun hb12 => ?_) (fun hb12 => ?_)
        · skip
          refine x_lload_n (pc := 106) dX11_isWorse_106 (List.Mem.tail _ (List.Mem.tail _ (List.Mem.head _))) ?_
          refine z_lmul (pc := 107) dX11_isWorse_107 ?_
          refine x_lstore (pc := 108) dX11_isWorse_108 (Nat.le_of_ble_eq_true rfl) ?_
          show Ev _ _ _ _ _ [(9, .long (zL (((phurt (H.1 2) q) * ((H.1 2 (490 + p)) + (H.1 2 (502 + p))))))), (7, .long (zL (((phurt (H.1 2) p) * ((H.1 2 (490 + q)) + (H.1 2 (502 + q))))))), (5, .long (zL (((H.1 2 (490 + q)) + (H.1 2 (502 + q)))))), (3, .long (zL (((H.1 2 (490 + p)) + (H.1 2 (502 + p)))))), (0, .ref 0), (1, .int (zN ((p : Int)))), (2, .int (zN ((q : Int))))] _ _
          refine x_lload (pc := 110) dX11_isWorse_110 (List.Mem.tail _ (List.Mem.head _)) ?_
          refine x_lload (pc := 112) dX11_isWorse_112 (List.Mem.head _) ?_
          refine z_lcmp_le (pc := 114) (tgt := 122) dX11_isWorse_114 dX11_isWorse_115 (by decide) (by omega) (by omega) (by omega) (by omega) (fun hb13 => ?_) (fun hb13 => ?_)
          · skip
            refine z_iconst (pc := 122) dX11_isWorse_122 ?_
            refine z_ireturn (pc := 123) dX11_isWorse_123 rfl (Or.inr ⟨rfl, by omega⟩) ok11 (by decide) (by decide) ?_
            rw [m1, m2]
            refine ⟨?_, rfl⟩
            by_cases z1 : (H.1 2 (490 + p) + H.1 2 (502 + p)) = 0 <;> by_cases z2 : (H.1 2 (490 + q) + H.1 2 (502 + q)) = 0
            all_goals first | (exfalso; omega) | (rw [if_pos z1, if_pos z2]; split <;> omega) | (rw [if_pos z1, if_neg z2]; split <;> omega) | (rw [if_neg z1, if_pos z2]; split <;> omega) | (rw [if_neg z1, if_neg z2]; split <;> omega)
          · skip
            refine z_iconst (pc := 118) dX11_isWorse_118 ?_
            refine x_goto (pc := 119) (tgt := 123) dX11_isWorse_119 (by decide) ?_
            refine z_ireturn (pc := 123) dX11_isWorse_123 rfl (Or.inr ⟨rfl, by omega⟩) ok11 (by decide) (by decide) ?_
            rw [m1, m2]
            refine ⟨?_, rfl⟩
            by_cases z1 : (H.1 2 (490 + p) + H.1 2 (502 + p)) = 0 <;> by_cases z2 : (H.1 2 (490 + q) + H.1 2 (502 + q)) = 0
            all_goals first | (exfalso; omega) | (rw [if_pos z1, if_pos z2]; split <;> omega) | (rw [if_pos z1, if_neg z2]; split <;> omega) | (rw [if_neg z1, if_pos z2]; split <;> omega) | (rw [if_neg z1, if_neg z2]; split <;> omega)
        · skip
          refine z_lconst (pc := 102) 1 dX11_isWorse_102 rfl ?_
          refine x_goto (pc := 103) (tgt := 107) dX11_isWorse_103 (by decide) ?_
          refine z_lmul (pc := 107) dX11_isWorse_107 ?_
          refine x_lstore (pc := 108) dX11_isWorse_108 (Nat.le_of_ble_eq_true rfl) ?_
          show Ev _ _ _ _ _ [(9, .long (zL (((phurt (H.1 2) q) * 1)))), (7, .long (zL (((phurt (H.1 2) p) * ((H.1 2 (490 + q)) + (H.1 2 (502 + q))))))), (5, .long (zL (((H.1 2 (490 + q)) + (H.1 2 (502 + q)))))), (3, .long (zL (((H.1 2 (490 + p)) + (H.1 2 (502 + p)))))), (0, .ref 0), (1, .int (zN ((p : Int)))), (2, .int (zN ((q : Int))))] _ _
          refine x_lload (pc := 110) dX11_isWorse_110 (List.Mem.tail _ (List.Mem.head _)) ?_
          refine x_lload (pc := 112) dX11_isWorse_112 (List.Mem.head _) ?_
          refine z_lcmp_le (pc := 114) (tgt := 122) dX11_isWorse_114 dX11_isWorse_115 (by decide) (by omega) (by omega) (by omega) (by omega) (fun hb14 => ?_) (fun hb14 => ?_)
          · skip
            refine z_iconst (pc := 122) dX11_isWorse_122 ?_
            refine z_ireturn (pc := 123) dX11_isWorse_123 rfl (Or.inr ⟨rfl, by omega⟩) ok11 (by decide) (by decide) ?_
            rw [m1, m2]
            refine ⟨?_, rfl⟩
            by_cases z1 : (H.1 2 (490 + p) + H.1 2 (502 + p)) = 0 <;> by_cases z2 : (H.1 2 (490 + q) + H.1 2 (502 + q)) = 0
            all_goals first | (exfalso; omega) | (rw [if_pos z1, if_pos z2]; split <;> omega) | (rw [if_pos z1, if_neg z2]; split <;> omega) | (rw [if_neg z1, if_pos z2]; split <;> omega) | (rw [if_neg z1, if_neg z2]; split <;> omega)
          · skip
            refine z_iconst (pc := 118) dX11_isWorse_118 ?_
            refine x_goto (pc := 119) (tgt := 123) dX11_isWorse_119 (by decide) ?_
            refine z_ireturn (pc := 123) dX11_isWorse_123 rfl (Or.inr ⟨rfl, by omega⟩) ok11 (by decide) (by decide) ?_
            rw [m1, m2]
            refine ⟨?_, rfl⟩
            by_cases z1 : (H.1 2 (490 + p) + H.1 2 (502 + p)) = 0 <;> by_cases z2 : (H.1 2 (490 + q) + H.1 2 (502 + q)) = 0
            all_goals first | (exfalso; omega) | (rw [if_pos z1, if_pos z2]; split <;> omega) | (rw [if_pos z1, if_neg z2]; split <;> omega) | (rw [if_neg z1, if_pos z2]; split <;> omega) | (rw [if_neg z1, if_neg z2]; split <;> omega)
      · skip
        refine z_lconst (pc := 86) 0 dX11_isWorse_86 rfl ?_
        refine x_goto (pc := 87) (tgt := 108) dX11_isWorse_87 (by decide) ?_
        refine x_lstore (pc := 108) dX11_isWorse_108 (Nat.le_of_ble_eq_true rfl) ?_
        show Ev _ _ _ _ _ [(9, .long (zL (0))), (7, .long (zL (((phurt (H.1 2) p) * ((H.1 2 (490 + q)) + (H.1 2 (502 + q))))))), (5, .long (zL (((H.1 2 (490 + q)) + (H.1 2 (502 + q)))))), (3, .long (zL (((H.1 2 (490 + p)) + (H.1 2 (502 + p)))))), (0, .ref 0), (1, .int (zN ((p : Int)))), (2, .int (zN ((q : Int))))] _ _
        refine x_lload (pc := 110) dX11_isWorse_110 (List.Mem.tail _ (List.Mem.head _)) ?_
        refine x_lload (pc := 112) dX11_isWorse_112 (List.Mem.head _) ?_
        refine z_lcmp_le (pc := 114) (tgt := 122) dX11_isWorse_114 dX11_isWorse_115 (by decide) (by omega) (by omega) (by decide) (by decide) (fun hb15 => ?_) (fun hb15 => ?_)
        · skip
          refine z_iconst (pc := 122) dX11_isWorse_122 ?_
          refine z_ireturn (pc := 123) dX11_isWorse_123 rfl (Or.inr ⟨rfl, by omega⟩) ok7 (by decide) (by decide) ?_
          rw [m1, m2]
          refine ⟨?_, rfl⟩
          by_cases z1 : (H.1 2 (490 + p) + H.1 2 (502 + p)) = 0 <;> by_cases z2 : (H.1 2 (490 + q) + H.1 2 (502 + q)) = 0
          all_goals first | (exfalso; omega) | (rw [if_pos z1, if_pos z2]; split <;> omega) | (rw [if_pos z1, if_neg z2]; split <;> omega) | (rw [if_neg z1, if_pos z2]; split <;> omega) | (rw [if_neg z1, if_neg z2]; split <;> omega)
        · skip
          refine z_iconst (pc := 118) dX11_isWorse_118 ?_
          refine x_goto (pc := 119) (tgt := 123) dX11_isWorse_119 (by decide) ?_
          refine z_ireturn (pc := 123) dX11_isWorse_123 rfl (Or.inr ⟨rfl, by omega⟩) ok7 (by decide) (by decide) ?_
          rw [m1, m2]
          refine ⟨?_, rfl⟩
          by_cases z1 : (H.1 2 (490 + p) + H.1 2 (502 + p)) = 0 <;> by_cases z2 : (H.1 2 (490 + q) + H.1 2 (502 + q)) = 0
          all_goals first | (exfalso; omega) | (rw [if_pos z1, if_pos z2]; split <;> omega) | (rw [if_pos z1, if_neg z2]; split <;> omega) | (rw [if_neg z1, if_pos z2]; split <;> omega) | (rw [if_neg z1, if_neg z2]; split <;> omega)
    · skip
      refine z_lconst (pc := 70) 1 dX11_isWorse_70 rfl ?_
      refine x_goto (pc := 71) (tgt := 76) dX11_isWorse_71 (by decide) ?_
      refine z_lmul (pc := 76) dX11_isWorse_76 ?_
      refine x_lstore (pc := 77) dX11_isWorse_77 (Nat.le_of_ble_eq_true rfl) ?_
      show Ev _ _ _ _ _ [(7, .long (zL (((phurt (H.1 2) p) * 1)))), (5, .long (zL (((H.1 2 (490 + q)) + (H.1 2 (502 + q)))))), (3, .long (zL (((H.1 2 (490 + p)) + (H.1 2 (502 + p)))))), (0, .ref 0), (1, .int (zN ((p : Int)))), (2, .int (zN ((q : Int))))] _ _
      refine x_lload (pc := 79) dX11_isWorse_79 (List.Mem.tail _ (List.Mem.head _)) ?_
      refine z_lconst (pc := 81) 0 dX11_isWorse_81 rfl ?_
      refine z_lcmp_ne (pc := 82) (tgt := 90) dX11_isWorse_82 dX11_isWorse_83 (by decide) (by omega) (by omega) (by decide) (by decide) (fun hb16 => ?_) (fun hb16 => ?_)
      · skip
        refine x_aload_n (pc := 90) dX11_isWorse_90 (List.Mem.tail _ (List.Mem.tail _ (List.Mem.tail _ (List.Mem.head _)))) ?_
        refine x_iload_n (pc := 91) dX11_isWorse_91 (List.Mem.tail _ (List.Mem.tail _ (List.Mem.tail _ (List.Mem.tail _ (List.Mem.tail _ (List.Mem.head _)))))) ?_
        refine z_callVip (pc := 92) (i := mX11_hurtAt) (S := []) [.int (zN ((q : Int)))] dX11_isWorse_92 ml_X11_331 ok_X11_hurtAt rfl sh_0 rfl (Or.inl rfl) (Nat.le_of_ble_eq_true rfl) (c_X11_hurtAt (d := d) (p := q) (hp := (by omega)) (ok := ok7) (wp := (by first | assumption | omega))) (fun r17a r17b ok18 => ?_)
        refine z_i2l (pc := 95) dX11_isWorse_95 (by omega) (by omega) ?_
        refine x_lload_n (pc := 96) dX11_isWorse_96 (List.Mem.tail _ (List.Mem.tail _ (List.Mem.head _))) ?_
        refine z_lconst (pc := 97) 0 dX11_isWorse_97 rfl ?_
        refine z_lcmp_ne (pc := 98) (tgt := 106) dX11_isWorse_98 dX11_isWorse_99 (by decide) (by omega) (by omega) (by decide) (by decide) (fun hb19 => ?_) (fun hb19 => ?_)
        · skip
          refine x_lload_n (pc := 106) dX11_isWorse_106 (List.Mem.tail _ (List.Mem.tail _ (List.Mem.head _))) ?_
          refine z_lmul (pc := 107) dX11_isWorse_107 ?_
          refine x_lstore (pc := 108) dX11_isWorse_108 (Nat.le_of_ble_eq_true rfl) ?_
          show Ev _ _ _ _ _ [(9, .long (zL (((phurt (H.1 2) q) * ((H.1 2 (490 + p)) + (H.1 2 (502 + p))))))), (7, .long (zL (((phurt (H.1 2) p) * 1)))), (5, .long (zL (((H.1 2 (490 + q)) + (H.1 2 (502 + q)))))), (3, .long (zL (((H.1 2 (490 + p)) + (H.1 2 (502 + p)))))), (0, .ref 0), (1, .int (zN ((p : Int)))), (2, .int (zN ((q : Int))))] _ _
          refine x_lload (pc := 110) dX11_isWorse_110 (List.Mem.tail _ (List.Mem.head _)) ?_
          refine x_lload (pc := 112) dX11_isWorse_112 (List.Mem.head _) ?_
          refine z_lcmp_le (pc := 114) (tgt := 122) dX11_isWorse_114 dX11_isWorse_115 (by decide) (by omega) (by omega) (by omega) (by omega) (fun hb20 => ?_) (fun hb20 => ?_)
          · skip
            refine z_iconst (pc := 122) dX11_isWorse_122 ?_
            refine z_ireturn (pc := 123) dX11_isWorse_123 rfl (Or.inr ⟨rfl, by omega⟩) ok18 (by decide) (by decide) ?_
            rw [m1, m2]
            refine ⟨?_, rfl⟩
            by_cases z1 : (H.1 2 (490 + p) + H.1 2 (502 + p)) = 0 <;> by_cases z2 : (H.1 2 (490 + q) + H.1 2 (502 + q)) = 0
            all_goals first | (exfalso; omega) | (rw [if_pos z1, if_pos z2]; split <;> omega) | (rw [if_pos z1, if_neg z2]; split <;> omega) | (rw [if_neg z1, if_pos z2]; split <;> omega) | (rw [if_neg z1, if_neg z2]; split <;> omega)
          · skip
            refine z_iconst (pc := 118) dX11_isWorse_118 ?_
            refine x_goto (pc := 119) (tgt := 123) dX11_isWorse_119 (by decide) ?_
            refine z_ireturn (pc := 123) dX11_isWorse_123 rfl (Or.inr ⟨rfl, by omega⟩) ok18 (by decide) (by decide) ?_
            rw [m1, m2]
            refine ⟨?_, rfl⟩
            by_cases z1 : (H.1 2 (490 + p) + H.1 2 (502 + p)) = 0 <;> by_cases z2 : (H.1 2 (490 + q) + H.1 2 (502 + q)) = 0
            all_goals first | (exfalso; omega) | (rw [if_pos z1, if_pos z2]; split <;> omega) | (rw [if_pos z1, if_neg z2]; split <;> omega) | (rw [if_neg z1, if_pos z2]; split <;> omega) | (rw [if_neg z1, if_neg z2]; split <;> omega)
        · skip
          refine z_lconst (pc := 102) 1 dX11_isWorse_102 rfl ?_
          refine x_goto (pc := 103) (tgt := 107) dX11_isWorse_103 (by decide) ?_
          refine z_lmul (pc := 107) dX11_isWorse_107 ?_
          refine x_lstore (pc := 108) dX11_isWorse_108 (Nat.le_of_ble_eq_true rfl) ?_
          show Ev _ _ _ _ _ [(9, .long (zL (((phurt (H.1 2) q) * 1)))), (7, .long (zL (((phurt (H.1 2) p) * 1)))), (5, .long (zL (((H.1 2 (490 + q)) + (H.1 2 (502 + q)))))), (3, .long (zL (((H.1 2 (490 + p)) + (H.1 2 (502 + p)))))), (0, .ref 0), (1, .int (zN ((p : Int)))), (2, .int (zN ((q : Int))))] _ _
          refine x_lload (pc := 110) dX11_isWorse_110 (List.Mem.tail _ (List.Mem.head _)) ?_
          refine x_lload (pc := 112) dX11_isWorse_112 (List.Mem.head _) ?_
          refine z_lcmp_le (pc := 114) (tgt := 122) dX11_isWorse_114 dX11_isWorse_115 (by decide) (by omega) (by omega) (by omega) (by omega) (fun hb21 => ?_) (fun hb21 => ?_)
          · skip
            refine z_iconst (pc := 122) dX11_isWorse_122 ?_
            refine z_ireturn (pc := 123) dX11_isWorse_123 rfl (Or.inr ⟨rfl, by omega⟩) ok18 (by decide) (by decide) ?_
            rw [m1, m2]
            refine ⟨?_, rfl⟩
            by_cases z1 : (H.1 2 (490 + p) + H.1 2 (502 + p)) = 0 <;> by_cases z2 : (H.1 2 (490 + q) + H.1 2 (502 + q)) = 0
            all_goals first | (exfalso; omega) | (rw [if_pos z1, if_pos z2]; split <;> omega) | (rw [if_pos z1, if_neg z2]; split <;> omega) | (rw [if_neg z1, if_pos z2]; split <;> omega) | (rw [if_neg z1, if_neg z2]; split <;> omega)
          · skip
            refine z_iconst (pc := 118) dX11_isWorse_118 ?_
            refine x_goto (pc := 119) (tgt := 123) dX11_isWorse_119 (by decide) ?_
            refine z_ireturn (pc := 123) dX11_isWorse_123 rfl (Or.inr ⟨rfl, by omega⟩) ok18 (by decide) (by decide) ?_
            rw [m1, m2]
            refine ⟨?_, rfl⟩
            by_cases z1 : (H.1 2 (490 + p) + H.1 2 (502 + p)) = 0 <;> by_cases z2 : (H.1 2 (490 + q) + H.1 2 (502 + q)) = 0
            all_goals first | (exfalso; omega) | (rw [if_pos z1, if_pos z2]; split <;> omega) | (rw [if_pos z1, if_neg z2]; split <;> omega) | (rw [if_neg z1, if_pos z2]; split <;> omega) | (rw [if_neg z1, if_neg z2]; split <;> omega)
      · skip
        refine z_lconst (pc := 86) 0 dX11_isWorse_86 rfl ?_
        refine x_goto (pc := 87) (tgt := 108) dX11_isWorse_87 (by decide) ?_
        refine x_lstore (pc := 108) dX11_isWorse_108 (Nat.le_of_ble_eq_true rfl) ?_
        show Ev _ _ _ _ _ [(9, .long (zL (0))), (7, .long (zL (((phurt (H.1 2) p) * 1)))), (5, .long (zL (((H.1 2 (490 + q)) + (H.1 2 (502 + q)))))), (3, .long (zL (((H.1 2 (490 + p)) + (H.1 2 (502 + p)))))), (0, .ref 0), (1, .int (zN ((p : Int)))), (2, .int (zN ((q : Int))))] _ _
        refine x_lload (pc := 110) dX11_isWorse_110 (List.Mem.tail _ (List.Mem.head _)) ?_
        refine x_lload (pc := 112) dX11_isWorse_112 (List.Mem.head _) ?_
        refine z_lcmp_le (pc := 114) (tgt := 122) dX11_isWorse_114 dX11_isWorse_115 (by decide) (by omega) (by omega) (by decide) (by decide) (fun hb22 => ?_) (fun hb22 => ?_)
        · skip
          refine z_iconst (pc := 122) dX11_isWorse_122 ?_
          refine z_ireturn (pc := 123) dX11_isWorse_123 rfl (Or.inr ⟨rfl, by omega⟩) ok7 (by decide) (by decide) ?_
          rw [m1, m2]
          refine ⟨?_, rfl⟩
          by_cases z1 : (H.1 2 (490 + p) + H.1 2 (502 + p)) = 0 <;> by_cases z2 : (H.1 2 (490 + q) + H.1 2 (502 + q)) = 0
          all_goals first | (exfalso; omega) | (rw [if_pos z1, if_pos z2]; split <;> omega) | (rw [if_pos z1, if_neg z2]; split <;> omega) | (rw [if_neg z1, if_pos z2]; split <;> omega) | (rw [if_neg z1, if_neg z2]; split <;> omega)
        · skip
          refine z_iconst (pc := 118) dX11_isWorse_118 ?_
          refine x_goto (pc := 119) (tgt := 123) dX11_isWorse_119 (by decide) ?_
          refine z_ireturn (pc := 123) dX11_isWorse_123 rfl (Or.inr ⟨rfl, by omega⟩) ok7 (by decide) (by decide) ?_
          rw [m1, m2]
          refine ⟨?_, rfl⟩
          by_cases z1 : (H.1 2 (490 + p) + H.1 2 (502 + p)) = 0 <;> by_cases z2 : (H.1 2 (490 + q) + H.1 2 (502 + q)) = 0
          all_goals first | (exfalso; omega) | (rw [if_pos z1, if_pos z2]; split <;> omega) | (rw [if_pos z1, if_neg z2]; split <;> omega) | (rw [if_neg z1, if_pos z2]; split <;> omega) | (rw [if_neg z1, if_neg z2]; split <;> omega)
  · skip
    refine z_lconst (pc := 53) 0 dX11_isWorse_53 rfl ?_
    refine x_goto (pc := 54) (tgt := 77) dX11_isWorse_54 (by decide) ?_
    refine x_lstore (pc := 77) dX11_isWorse_77 (Nat.le_of_ble_eq_true rfl) ?_
    show Ev _ _ _ _ _ [(7, .long (zL (0))), (5, .long (zL (((H.1 2 (490 + q)) + (H.1 2 (502 + q)))))), (3, .long (zL (((H.1 2 (490 + p)) + (H.1 2 (502 + p)))))), (0, .ref 0), (1, .int (zN ((p : Int)))), (2, .int (zN ((q : Int))))] _ _
    refine x_lload (pc := 79) dX11_isWorse_79 (List.Mem.tail _ (List.Mem.head _)) ?_
    refine z_lconst (pc := 81) 0 dX11_isWorse_81 rfl ?_
    refine z_lcmp_ne (pc := 82) (tgt := 90) dX11_isWorse_82 dX11_isWorse_83 (by decide) (by omega) (by omega) (by decide) (by decide) (fun hb23 => ?_) (fun hb23 => ?_)
    · skip
      refine x_aload_n (pc := 90) dX11_isWorse_90 (List.Mem.tail _ (List.Mem.tail _ (List.Mem.tail _ (List.Mem.head _)))) ?_
      refine x_iload_n (pc := 91) dX11_isWorse_91 (List.Mem.tail _ (List.Mem.tail _ (List.Mem.tail _ (List.Mem.tail _ (List.Mem.tail _ (List.Mem.head _)))))) ?_
      refine z_callVip (pc := 92) (i := mX11_hurtAt) (S := []) [.int (zN ((q : Int)))] dX11_isWorse_92 ml_X11_331 ok_X11_hurtAt rfl sh_0 rfl (Or.inl rfl) (Nat.le_of_ble_eq_true rfl) (c_X11_hurtAt (d := d) (p := q) (hp := (by omega)) (ok := ok) (wp := (by first | assumption | omega))) (fun r24a r24b ok25 => ?_)
      refine z_i2l (pc := 95) dX11_isWorse_95 (by omega) (by omega) ?_
      refine x_lload_n (pc := 96) dX11_isWorse_96 (List.Mem.tail _ (List.Mem.tail _ (List.Mem.head _))) ?_
      refine z_lconst (pc := 97) 0 dX11_isWorse_97 rfl ?_
      refine z_lcmp_ne (pc := 98) (tgt := 106) dX11_isWorse_98 dX11_isWorse_99 (by decide) (by omega) (by omega) (by decide) (by decide) (fun hb26 => ?_) (fun hb26 => ?_)
      · skip
        refine x_lload_n (pc := 106) dX11_isWorse_106 (List.Mem.tail _ (List.Mem.tail _ (List.Mem.head _))) ?_
        refine z_lmul (pc := 107) dX11_isWorse_107 ?_
        refine x_lstore (pc := 108) dX11_isWorse_108 (Nat.le_of_ble_eq_true rfl) ?_
        show Ev _ _ _ _ _ [(9, .long (zL (((phurt (H.1 2) q) * ((H.1 2 (490 + p)) + (H.1 2 (502 + p))))))), (7, .long (zL (0))), (5, .long (zL (((H.1 2 (490 + q)) + (H.1 2 (502 + q)))))), (3, .long (zL (((H.1 2 (490 + p)) + (H.1 2 (502 + p)))))), (0, .ref 0), (1, .int (zN ((p : Int)))), (2, .int (zN ((q : Int))))] _ _
        refine x_lload (pc := 110) dX11_isWorse_110 (List.Mem.tail _ (List.Mem.head _)) ?_
        refine x_lload (pc := 112) dX11_isWorse_112 (List.Mem.head _) ?_
        refine z_lcmp_le (pc := 114) (tgt := 122) dX11_isWorse_114 dX11_isWorse_115 (by decide) (by decide) (by decide) (by omega) (by omega) (fun hb27 => ?_) (fun hb27 => ?_)
        · skip
          refine z_iconst (pc := 122) dX11_isWorse_122 ?_
          refine z_ireturn (pc := 123) dX11_isWorse_123 rfl (Or.inr ⟨rfl, by omega⟩) ok25 (by decide) (by decide) ?_
          rw [m1, m2]
          refine ⟨?_, rfl⟩
          by_cases z1 : (H.1 2 (490 + p) + H.1 2 (502 + p)) = 0 <;> by_cases z2 : (H.1 2 (490 + q) + H.1 2 (502 + q)) = 0
          all_goals first | (exfalso; omega) | (rw [if_pos z1, if_pos z2]; split <;> omega) | (rw [if_pos z1, if_neg z2]; split <;> omega) | (rw [if_neg z1, if_pos z2]; split <;> omega) | (rw [if_neg z1, if_neg z2]; split <;> omega)
        · skip
          refine z_iconst (pc := 118) dX11_isWorse_118 ?_
          refine x_goto (pc := 119) (tgt := 123) dX11_isWorse_119 (by decide) ?_
          refine z_ireturn (pc := 123) dX11_isWorse_123 rfl (Or.inr ⟨rfl, by omega⟩) ok25 (by decide) (by decide) ?_
          rw [m1, m2]
          refine ⟨?_, rfl⟩
          by_cases z1 : (H.1 2 (490 + p) + H.1 2 (502 + p)) = 0 <;> by_cases z2 : (H.1 2 (490 + q) + H.1 2 (502 + q)) = 0
          all_goals first | (exfalso; omega) | (rw [if_pos z1, if_pos z2]; split <;> omega) | (rw [if_pos z1, if_neg z2]; split <;> omega) | (rw [if_neg z1, if_pos z2]; split <;> omega) | (rw [if_neg z1, if_neg z2]; split <;> omega)
      · skip
        refine z_lconst (pc := 102) 1 dX11_isWorse_102 rfl ?_
        refine x_goto (pc := 103) (tgt := 107) dX11_isWorse_103 (by decide) ?_
        refine z_lmul (pc := 107) dX11_isWorse_107 ?_
        refine x_lstore (pc := 108) dX11_isWorse_108 (Nat.le_of_ble_eq_true rfl) ?_
        show Ev _ _ _ _ _ [(9, .long (zL (((phurt (H.1 2) q) * 1)))), (7, .long (zL (0))), (5, .long (zL (((H.1 2 (490 + q)) + (H.1 2 (502 + q)))))), (3, .long (zL (((H.1 2 (490 + p)) + (H.1 2 (502 + p)))))), (0, .ref 0), (1, .int (zN ((p : Int)))), (2, .int (zN ((q : Int))))] _ _
        refine x_lload (pc := 110) dX11_isWorse_110 (List.Mem.tail _ (List.Mem.head _)) ?_
        refine x_lload (pc := 112) dX11_isWorse_112 (List.Mem.head _) ?_
        refine z_lcmp_le (pc := 114) (tgt := 122) dX11_isWorse_114 dX11_isWorse_115 (by decide) (by decide) (by decide) (by omega) (by omega) (fun hb28 => ?_) (fun hb28 => ?_)
        · skip
          refine z_iconst (pc := 122) dX11_isWorse_122 ?_
          refine z_ireturn (pc := 123) dX11_isWorse_123 rfl (Or.inr ⟨rfl, by omega⟩) ok25 (by decide) (by decide) ?_
          rw [m1, m2]
          refine ⟨?_, rfl⟩
          by_cases z1 : (H.1 2 (490 + p) + H.1 2 (502 + p)) = 0 <;> by_cases z2 : (H.1 2 (490 + q) + H.1 2 (502 + q)) = 0
          all_goals first | (exfalso; omega) | (rw [if_pos z1, if_pos z2]; split <;> omega) | (rw [if_pos z1, if_neg z2]; split <;> omega) | (rw [if_neg z1, if_pos z2]; split <;> omega) | (rw [if_neg z1, if_neg z2]; split <;> omega)
        · skip
          refine z_iconst (pc := 118) dX11_isWorse_118 ?_
          refine x_goto (pc := 119) (tgt := 123) dX11_isWorse_119 (by decide) ?_
          refine z_ireturn (pc := 123) dX11_isWorse_123 rfl (Or.inr ⟨rfl, by omega⟩) ok25 (by decide) (by decide) ?_
          rw [m1, m2]
          refine ⟨?_, rfl⟩
          by_cases z1 : (H.1 2 (490 + p) + H.1 2 (502 + p)) = 0 <;> by_cases z2 : (H.1 2 (490 + q) + H.1 2 (502 + q)) = 0
          all_goals first | (exfalso; omega) | (rw [if_pos z1, if_pos z2]; split <;> omega) | (rw [if_pos z1, if_neg z2]; split <;> omega) | (rw [if_neg z1, if_pos z2]; split <;> omega) | (rw [if_neg z1, if_neg z2]; split <;> omega)
    · skip
      refine z_lconst (pc := 86) 0 dX11_isWorse_86 rfl ?_
      refine x_goto (pc := 87) (tgt := 108) dX11_isWorse_87 (by decide) ?_
      refine x_lstore (pc := 108) dX11_isWorse_108 (Nat.le_of_ble_eq_true rfl) ?_
      show Ev _ _ _ _ _ [(9, .long (zL (0))), (7, .long (zL (0))), (5, .long (zL (((H.1 2 (490 + q)) + (H.1 2 (502 + q)))))), (3, .long (zL (((H.1 2 (490 + p)) + (H.1 2 (502 + p)))))), (0, .ref 0), (1, .int (zN ((p : Int)))), (2, .int (zN ((q : Int))))] _ _
      refine x_lload (pc := 110) dX11_isWorse_110 (List.Mem.tail _ (List.Mem.head _)) ?_
      refine x_lload (pc := 112) dX11_isWorse_112 (List.Mem.head _) ?_
      refine z_lcmp_le (pc := 114) (tgt := 122) dX11_isWorse_114 dX11_isWorse_115 (by decide) (by decide) (by decide) (by decide) (by decide) (fun _ => ?_) (fun h => absurd h (by decide))
      refine z_iconst (pc := 122) dX11_isWorse_122 ?_
      refine z_ireturn (pc := 123) dX11_isWorse_123 rfl (Or.inr ⟨rfl, by omega⟩) ok (by decide) (by decide) ?_
      rw [m1, m2]
      refine ⟨?_, rfl⟩
      by_cases z1 : (H.1 2 (490 + p) + H.1 2 (502 + p)) = 0 <;> by_cases z2 : (H.1 2 (490 + q) + H.1 2 (502 + q)) = 0
      all_goals first | (exfalso; omega) | (rw [if_pos z1, if_pos z2]; split <;> omega) | (rw [if_pos z1, if_neg z2]; split <;> omega) | (rw [if_neg z1, if_pos z2]; split <;> omega) | (rw [if_neg z1, if_neg z2]; split <;> omega)

theorem c_X2_rankOf {d : Nat} {H : ZH} (ok : okZ H) {p : Nat} (hp : (p : Int) < H.1 2 477) (wp : WFP (H.1 2)) (rp : RepP H) : EvC zX (d + 2) mX2_rankOf [.ref 71, .int (zN ((p : Int)))] (eh H) (zPi (fun (rz : Int) (Hz : ZH) => rz = (prank (H.1 2) p (H.1 2 477).toNat) ∧ Hz = H)) := by
  show _ ∧ Ev zX mX2_rankOf (EvC zX (d + 1)) (zPi (fun (rz : Int) (Hz : ZH) => rz = (prank (H.1 2) p (H.1 2 477).toNat) ∧ Hz = H)) 0 [(0, .ref 71), (1, .int (zN ((p : Int))))] [] (eh H)
  refine ⟨Nat.le_of_ble_eq_true rfl, ?_⟩
  have wpx := wp
  obtain ⟨wpA, wpB, wpC⟩ := wpx
  have rpx := rp
  obtain ⟨rpA, rpB, rpC⟩ := rpx
  have c1 := cross_bd wp (p := p) (by omega)
  unfold cross at c1
  have wqp := wpB p (by omega)
  have rqp := rpB p (by omega)
  refine z_iconst (pc := 0) dX2_rankOf_0 ?_
  refine x_istore_n (pc := 1) dX2_rankOf_1 (Nat.le_of_ble_eq_true rfl) ?_
  show Ev _ _ _ _ _ [(2, .int (zN (0))), (0, .ref 71), (1, .int (zN ((p : Int))))] _ _
  refine z_iconst (pc := 2) dX2_rankOf_2 ?_
  refine x_istore_n (pc := 3) dX2_rankOf_3 (Nat.le_of_ble_eq_true rfl) ?_
  show Ev _ _ _ _ _ [(3, .int (zN (0))), (2, .int (zN (0))), (0, .ref 71), (1, .int (zN ((p : Int))))] _ _
  have lp4 : ∀ (nF : Nat) (q : Nat), ((q : Int) ≤ H.1 2 477) → (H.1 2 477).toNat - q < nF → Ev zX mX2_rankOf (EvC zX (d + 1)) (zPi (fun (rz : Int) (Hz : ZH) => rz = (prank (H.1 2) p (H.1 2 477).toNat) ∧ Hz = H)) 4 [(0, .ref 71), (1, .int (zN ((p : Int)))), (2, .int (zN (prank (H.1 2) p q))), (3, .int (zN ((q : Int))))] [] (eh H) := by
    intro nF
    induction nF with
    | zero => intro q hq hm; exact absurd hm (Nat.not_lt_zero _)
    | succ nF ih4 =>
      intro q hq hm
      have rb := prank_bd (H.1 2) p q
      refine x_iload_n (pc := 4) dX2_rankOf_4 (List.Mem.tail _ (List.Mem.tail _ (List.Mem.tail _ (List.Mem.head _)))) ?_
      refine x_aload_n (pc := 5) dX2_rankOf_5 (List.Mem.head _) ?_
      have rd1 := ok.1 71 0
      refine z_getI (pc := 6) (k := 0) (v := H.1 71 0) dX2_rankOf_6 lf_X2_36 sh_71 rfl rfl ?_
      refine z_icmp_ge (pc := 9) (tgt := 95) dX2_rankOf_9 (by decide) (by omega) (by omega) (by omega) (by omega) (fun hb2 => ?_) (fun hb2 => ?_)
      · skip
        refine x_iload_n (pc := 95) dX2_rankOf_95 (List.Mem.tail _ (List.Mem.tail _ (List.Mem.head _))) ?_
        refine z_ireturn (pc := 96) dX2_rankOf_96 rfl (Or.inl rfl) ok (by omega) (by omega) ?_
        exact ⟨by rw [show q = (H.1 2 477).toNat by omega], rfl⟩
      · skip
        have wqq := wpB q (by omega)
        have rqq := rpB q (by omega)
        have c2 := cross_bd wp (p := q) (by omega)
        have x1 := pw_bd wp (p := q) (q := p) (by omega) (by omega)
        have x2 := pw_bd wp (p := p) (q := q) (by omega) (by omega)
        have k1 : H.1 73 p + H.1 74 p = cross (H.1 2) p := by unfold cross; omega
        have k2 : H.1 73 q + H.1 74 q = cross (H.1 2) q := by unfold cross; omega
        unfold zmx at x1 x2
        rw [← k1] at x1
        rw [← k2] at x2
        refine x_aload_n (pc := 12) dX2_rankOf_12 (List.Mem.head _) ?_
        refine x_iload_n (pc := 13) dX2_rankOf_13 (List.Mem.tail _ (List.Mem.tail _ (List.Mem.tail _ (List.Mem.head _)))) ?_
        refine z_callVip (pc := 14) (i := mX2_hurtAt) (S := []) [.int (zN ((q : Int)))] dX2_rankOf_14 ml_X2_56 ok_X2_hurtAt rfl sh_71 rfl (Or.inl rfl) (Nat.le_of_ble_eq_true rfl) (c_X2_hurtAt (d := d) (p := q) (hp := (by omega)) (ok := ok) (wp := (by first | assumption | omega)) (rp := (by first | assumption | omega))) (fun r3a r3b ok4 => ?_)
        refine x_aload_n (pc := 17) dX2_rankOf_17 (List.Mem.head _) ?_
        refine z_getR (pc := 18) (k := 2) (r := 73) dX2_rankOf_18 lf_X2_15 sh_71 rfl rf_71_2 ?_
        refine x_iload_n (pc := 21) dX2_rankOf_21 (List.Mem.tail _ (List.Mem.head _)) ?_
        have rd5 := ok4.1 73 p
        refine z_iald (pc := 22) (j := p) (v := H.1 73 p) dX2_rankOf_22 sh_73 rfl (by omega) (by decide) rfl ?_
        refine x_aload_n (pc := 23) dX2_rankOf_23 (List.Mem.head _) ?_
        refine z_getR (pc := 24) (k := 3) (r := 74) dX2_rankOf_24 lf_X2_18 sh_71 rfl rf_71_3 ?_
        refine x_iload_n (pc := 27) dX2_rankOf_27 (List.Mem.tail _ (List.Mem.head _)) ?_
        have rd6 := ok4.1 74 p
        refine z_iald (pc := 28) (j := p) (v := H.1 74 p) dX2_rankOf_28 sh_74 rfl (by omega) (by decide) rfl ?_
        refine z_iadd (pc := 29) dX2_rankOf_29 ?_
        refine z_iconst (pc := 30) dX2_rankOf_30 ?_
        refine z_mmax (pc := 31) dX2_rankOf_31 ml_X2_50 (Nat.le_of_ble_eq_true rfl) (by omega) (by omega) (by decide) (by decide) ?_
        refine z_imul (pc := 34) dX2_rankOf_34 ?_
        refine x_istore (pc := 35) dX2_rankOf_35 (Nat.le_of_ble_eq_true rfl) ?_
        show Ev _ _ _ _ _ [(4, .int (zN (((phurt (H.1 2) q) * (if ((H.1 73 p) + (H.1 74 p)) < 1 then 1 else ((H.1 73 p) + (H.1 74 p))))))), (0, .ref 71), (1, .int (zN ((p : Int)))), (2, .int (zN (prank (H.1 2) p q))), (3, .int (zN ((q : Int))))] _ _
        refine x_aload_n (pc := 37) dX2_rankOf_37 (List.Mem.tail _ (List.Mem.head _)) ?_
        refine x_iload_n (pc := 38) dX2_rankOf_38 (List.Mem.tail _ (List.Mem.tail _ (List.Mem.head _))) ?_
        refine z_callVip (pc := 39) (i := mX2_hurtAt) (S := []) [.int (zN ((p : Int)))] dX2_rankOf_39 ml_X2_56 ok_X2_hurtAt rfl sh_71 rfl (Or.inl rfl) (Nat.le_of_ble_eq_true rfl) (c_X2_hurtAt (d := d) (p := p) (hp := (by omega)) (ok := ok4) (wp := (by first | assumption | omega)) (rp := (by first | assumption | omega))) (fun r7a r7b ok8 => ?_)
        refine x_aload_n (pc := 42) dX2_rankOf_42 (List.Mem.tail _ (List.Mem.head _)) ?_
        refine z_getR (pc := 43) (k := 2) (r := 73) dX2_rankOf_43 lf_X2_15 sh_71 rfl rf_71_2 ?_
        refine x_iload_n (pc := 46) dX2_rankOf_46 (List.Mem.tail _ (List.Mem.tail _ (List.Mem.tail _ (List.Mem.tail _ (List.Mem.head _))))) ?_
        have rd9 := ok8.1 73 q
        refine z_iald (pc := 47) (j := q) (v := H.1 73 q) dX2_rankOf_47 sh_73 rfl (by omega) (by decide) rfl ?_
        refine x_aload_n (pc := 48) dX2_rankOf_48 (List.Mem.tail _ (List.Mem.head _)) ?_
        refine z_getR (pc := 49) (k := 3) (r := 74) dX2_rankOf_49 lf_X2_18 sh_71 rfl rf_71_3 ?_
        refine x_iload_n (pc := 52) dX2_rankOf_52 (List.Mem.tail _ (List.Mem.tail _ (List.Mem.tail _ (List.Mem.tail _ (List.Mem.head _))))) ?_
        have rd10 := ok8.1 74 q
        refine z_iald (pc := 53) (j := q) (v := H.1 74 q) dX2_rankOf_53 sh_74 rfl (by omega) (by decide) rfl ?_
        refine z_iadd (pc := 54) dX2_rankOf_54 ?_
        refine z_iconst (pc := 55) dX2_rankOf_55 ?_
        refine z_mmax (pc := 56) dX2_rankOf_56 ml_X2_50 (Nat.le_of_ble_eq_true rfl) (by omega) (by omega) (by decide) (by decide) ?_
        refine z_imul (pc := 59) dX2_rankOf_59 ?_
        refine x_istore (pc := 60) dX2_rankOf_60 (Nat.le_of_ble_eq_true rfl) ?_
        show Ev _ _ _ _ _ [(5, .int (zN (((phurt (H.1 2) p) * (if ((H.1 73 q) + (H.1 74 q)) < 1 then 1 else ((H.1 73 q) + (H.1 74 q))))))), (4, .int (zN (((phurt (H.1 2) q) * (if ((H.1 73 p) + (H.1 74 p)) < 1 then 1 else ((H.1 73 p) + (H.1 74 p))))))), (0, .ref 71), (1, .int (zN ((p : Int)))), (2, .int (zN (prank (H.1 2) p q))), (3, .int (zN ((q : Int))))] _ _
        refine x_iload_n (pc := 62) dX2_rankOf_62 (List.Mem.tail _ (List.Mem.tail _ (List.Mem.tail _ (List.Mem.tail _ (List.Mem.head _))))) ?_
        refine x_iload (pc := 63) dX2_rankOf_63 (List.Mem.tail _ (List.Mem.head _)) ?_
        refine x_iload (pc := 65) dX2_rankOf_65 (List.Mem.head _) ?_
        refine z_icmp_gt (pc := 67) (tgt := 82) dX2_rankOf_67 (by decide) (by omega) (by omega) (by omega) (by omega) (fun hb11 => ?_) (fun hb11 => ?_)
        · skip
          refine z_iconst (pc := 82) dX2_rankOf_82 ?_
          refine x_goto (pc := 83) (tgt := 87) dX2_rankOf_83 (by decide) ?_
          refine z_iadd (pc := 87) dX2_rankOf_87 ?_
          refine x_istore_n (pc := 88) dX2_rankOf_88 (Nat.le_of_ble_eq_true rfl) ?_
          show Ev _ _ _ _ _ [(2, .int (zN ((prank (H.1 2) p q + 1)))), (5, .int (zN (((phurt (H.1 2) p) * (if ((H.1 73 q) + (H.1 74 q)) < 1 then 1 else ((H.1 73 q) + (H.1 74 q))))))), (4, .int (zN (((phurt (H.1 2) q) * (if ((H.1 73 p) + (H.1 74 p)) < 1 then 1 else ((H.1 73 p) + (H.1 74 p))))))), (0, .ref 71), (1, .int (zN ((p : Int)))), (3, .int (zN ((q : Int))))] _ _
          refine z_iinc (pc := 89) dX2_rankOf_89 (List.Mem.tail _ (List.Mem.tail _ (List.Mem.tail _ (List.Mem.tail _ (List.Mem.tail _ (List.Mem.head _)))))) (Nat.le_of_ble_eq_true rfl) ?_
          show Ev _ _ _ _ _ [(3, .int (zN ((q : Int) + 1))), (2, .int (zN ((prank (H.1 2) p q + 1)))), (5, .int (zN (((phurt (H.1 2) p) * (if ((H.1 73 q) + (H.1 74 q)) < 1 then 1 else ((H.1 73 q) + (H.1 74 q))))))), (4, .int (zN (((phurt (H.1 2) q) * (if ((H.1 73 p) + (H.1 74 p)) < 1 then 1 else ((H.1 73 p) + (H.1 74 p))))))), (0, .ref 71), (1, .int (zN ((p : Int))))] _ _
          refine x_goto (pc := 92) (tgt := 4) dX2_rankOf_92 (by decide) ?_
          refine x_weaken (L1 := [(0, .ref 71), (1, .int (zN ((p : Int)))), (2, .int (zN (prank (H.1 2) p (q + 1)))), (3, .int (zN ((((q + 1) : Nat) : Int))))]) (List.forall_mem_cons.mpr ⟨(List.Mem.tail _ (List.Mem.tail _ (List.Mem.tail _ (List.Mem.tail _ (List.Mem.head _))))), (List.forall_mem_cons.mpr ⟨(List.Mem.tail _ (List.Mem.tail _ (List.Mem.tail _ (List.Mem.tail _ (List.Mem.tail _ (List.Mem.head _)))))), (List.forall_mem_cons.mpr ⟨(mem_ci (by rw [prank_s]; unfold zmx; rw [← k1, ← k2]; first | rw [if_pos (by omega)] | rw [if_neg (by omega)]) (List.Mem.tail _ (List.Mem.head _))), (List.forall_mem_cons.mpr ⟨(mem_ci (by omega) (List.Mem.head _)), (fun _ h => absurd h List.not_mem_nil)⟩)⟩)⟩)⟩) ?_
          exact ih4 ((q + 1)) (by first | assumption | omega) (by omega)
        · skip
          refine x_iload (pc := 70) dX2_rankOf_70 (List.Mem.tail _ (List.Mem.head _)) ?_
          refine x_iload (pc := 72) dX2_rankOf_72 (List.Mem.head _) ?_
          refine z_icmp_ne (pc := 74) (tgt := 86) dX2_rankOf_74 (by decide) (by omega) (by omega) (by omega) (by omega) (fun hb12 => ?_) (fun hb12 => ?_)
          · skip
            refine z_iconst (pc := 86) dX2_rankOf_86 ?_
            refine z_iadd (pc := 87) dX2_rankOf_87 ?_
            refine x_istore_n (pc := 88) dX2_rankOf_88 (Nat.le_of_ble_eq_true rfl) ?_
            show Ev _ _ _ _ _ [(2, .int (zN ((prank (H.1 2) p q + 0)))), (5, .int (zN (((phurt (H.1 2) p) * (if ((H.1 73 q) + (H.1 74 q)) < 1 then 1 else ((H.1 73 q) + (H.1 74 q))))))), (4, .int (zN (((phurt (H.1 2) q) * (if ((H.1 73 p) + (H.1 74 p)) < 1 then 1 else ((H.1 73 p) + (H.1 74 p))))))), (0, .ref 71), (1, .int (zN ((p : Int)))), (3, .int (zN ((q : Int))))] _ _
            refine z_iinc (pc := 89) dX2_rankOf_89 (List.Mem.tail _ (List.Mem.tail _ (List.Mem.tail _ (List.Mem.tail _ (List.Mem.tail _ (List.Mem.head _)))))) (Nat.le_of_ble_eq_true rfl) ?_
            show Ev _ _ _ _ _ [(3, .int (zN ((q : Int) + 1))), (2, .int (zN ((prank (H.1 2) p q + 0)))), (5, .int (zN (((phurt (H.1 2) p) * (if ((H.1 73 q) + (H.1 74 q)) < 1 then 1 else ((H.1 73 q) + (H.1 74 q))))))), (4, .int (zN (((phurt (H.1 2) q) * (if ((H.1 73 p) + (H.1 74 p)) < 1 then 1 else ((H.1 73 p) + (H.1 74 p))))))), (0, .ref 71), (1, .int (zN ((p : Int))))] _ _
            refine x_goto (pc := 92) (tgt := 4) dX2_rankOf_92 (by decide) ?_
            refine x_weaken (L1 := [(0, .ref 71), (1, .int (zN ((p : Int)))), (2, .int (zN (prank (H.1 2) p (q + 1)))), (3, .int (zN ((((q + 1) : Nat) : Int))))]) (List.forall_mem_cons.mpr ⟨(List.Mem.tail _ (List.Mem.tail _ (List.Mem.tail _ (List.Mem.tail _ (List.Mem.head _))))), (List.forall_mem_cons.mpr ⟨(List.Mem.tail _ (List.Mem.tail _ (List.Mem.tail _ (List.Mem.tail _ (List.Mem.tail _ (List.Mem.head _)))))), (List.forall_mem_cons.mpr ⟨(mem_ci (by rw [prank_s]; unfold zmx; rw [← k1, ← k2]; first | rw [if_pos (by omega)] | rw [if_neg (by omega)]) (List.Mem.tail _ (List.Mem.head _))), (List.forall_mem_cons.mpr ⟨(mem_ci (by omega) (List.Mem.head _)), (fun _ h => absurd h List.not_mem_nil)⟩)⟩)⟩)⟩) ?_
            exact ih4 ((q + 1)) (by first | assumption | omega) (by omega)
          · skip
            refine x_iload_n (pc := 77) dX2_rankOf_77 (List.Mem.tail _ (List.Mem.tail _ (List.Mem.tail _ (List.Mem.tail _ (List.Mem.tail _ (List.Mem.head _)))))) ?_
            refine x_iload_n (pc := 78) dX2_rankOf_78 (List.Mem.tail _ (List.Mem.tail _ (List.Mem.tail _ (List.Mem.head _)))) ?_
            refine z_icmp_ge (pc := 79) (tgt := 86) dX2_rankOf_79 (by decide) (by omega) (by omega) (by omega) (by omega) (fun hb13 => ?_) (fun hb13 => ?_)
            · skip
              refine z_iconst (pc := 86) dX2_rankOf_86 ?_
              refine z_iadd (pc := 87) dX2_rankOf_87 ?_
              refine x_istore_n (pc := 88) dX2_rankOf_88 (Nat.le_of_ble_eq_true rfl) ?_
              show Ev _ _ _ _ _ [(2, .int (zN ((prank (H.1 2) p q + 0)))), (5, .int (zN (((phurt (H.1 2) p) * (if ((H.1 73 q) + (H.1 74 q)) < 1 then 1 else ((H.1 73 q) + (H.1 74 q))))))), (4, .int (zN (((phurt (H.1 2) q) * (if ((H.1 73 p) + (H.1 74 p)) < 1 then 1 else ((H.1 73 p) + (H.1 74 p))))))), (0, .ref 71), (1, .int (zN ((p : Int)))), (3, .int (zN ((q : Int))))] _ _
              refine z_iinc (pc := 89) dX2_rankOf_89 (List.Mem.tail _ (List.Mem.tail _ (List.Mem.tail _ (List.Mem.tail _ (List.Mem.tail _ (List.Mem.head _)))))) (Nat.le_of_ble_eq_true rfl) ?_
              show Ev _ _ _ _ _ [(3, .int (zN ((q : Int) + 1))), (2, .int (zN ((prank (H.1 2) p q + 0)))), (5, .int (zN (((phurt (H.1 2) p) * (if ((H.1 73 q) + (H.1 74 q)) < 1 then 1 else ((H.1 73 q) + (H.1 74 q))))))), (4, .int (zN (((phurt (H.1 2) q) * (if ((H.1 73 p) + (H.1 74 p)) < 1 then 1 else ((H.1 73 p) + (H.1 74 p))))))), (0, .ref 71), (1, .int (zN ((p : Int))))] _ _
              refine x_goto (pc := 92) (tgt := 4) dX2_rankOf_92 (by decide) ?_
              refine x_weaken (L1 := [(0, .ref 71), (1, .int (zN ((p : Int)))), (2, .int (zN (prank (H.1 2) p (q + 1)))), (3, .int (zN ((((q + 1) : Nat) : Int))))]) (List.forall_mem_cons.mpr ⟨(List.Mem.tail _ (List.Mem.tail _ (List.Mem.tail _ (List.Mem.tail _ (List.Mem.head _))))), (List.forall_mem_cons.mpr ⟨(List.Mem.tail _ (List.Mem.tail _ (List.Mem.tail _ (List.Mem.tail _ (List.Mem.tail _ (List.Mem.head _)))))), (List.forall_mem_cons.mpr ⟨(mem_ci (by rw [prank_s]; unfold zmx; rw [← k1, ← k2]; first | rw [if_pos (by omega)] | rw [if_neg (by omega)]) (List.Mem.tail _ (List.Mem.head _))), (List.forall_mem_cons.mpr ⟨(mem_ci (by omega) (List.Mem.head _)), (fun _ h => absurd h List.not_mem_nil)⟩)⟩)⟩)⟩) ?_
              exact ih4 ((q + 1)) (by first | assumption | omega) (by omega)
            · skip
              refine z_iconst (pc := 82) dX2_rankOf_82 ?_
              refine x_goto (pc := 83) (tgt := 87) dX2_rankOf_83 (by decide) ?_
              refine z_iadd (pc := 87) dX2_rankOf_87 ?_
              refine x_istore_n (pc := 88) dX2_rankOf_88 (Nat.le_of_ble_eq_true rfl) ?_
              show Ev _ _ _ _ _ [(2, .int (zN ((prank (H.1 2) p q + 1)))), (5, .int (zN (((phurt (H.1 2) p) * (if ((H.1 73 q) + (H.1 74 q)) < 1 then 1 else ((H.1 73 q) + (H.1 74 q))))))), (4, .int (zN (((phurt (H.1 2) q) * (if ((H.1 73 p) + (H.1 74 p)) < 1 then 1 else ((H.1 73 p) + (H.1 74 p))))))), (0, .ref 71), (1, .int (zN ((p : Int)))), (3, .int (zN ((q : Int))))] _ _
              refine z_iinc (pc := 89) dX2_rankOf_89 (List.Mem.tail _ (List.Mem.tail _ (List.Mem.tail _ (List.Mem.tail _ (List.Mem.tail _ (List.Mem.head _)))))) (Nat.le_of_ble_eq_true rfl) ?_
              show Ev _ _ _ _ _ [(3, .int (zN ((q : Int) + 1))), (2, .int (zN ((prank (H.1 2) p q + 1)))), (5, .int (zN (((phurt (H.1 2) p) * (if ((H.1 73 q) + (H.1 74 q)) < 1 then 1 else ((H.1 73 q) + (H.1 74 q))))))), (4, .int (zN (((phurt (H.1 2) q) * (if ((H.1 73 p) + (H.1 74 p)) < 1 then 1 else ((H.1 73 p) + (H.1 74 p))))))), (0, .ref 71), (1, .int (zN ((p : Int))))] _ _
              refine x_goto (pc := 92) (tgt := 4) dX2_rankOf_92 (by decide) ?_
              refine x_weaken (L1 := [(0, .ref 71), (1, .int (zN ((p : Int)))), (2, .int (zN (prank (H.1 2) p (q + 1)))), (3, .int (zN ((((q + 1) : Nat) : Int))))]) (List.forall_mem_cons.mpr ⟨(List.Mem.tail _ (List.Mem.tail _ (List.Mem.tail _ (List.Mem.tail _ (List.Mem.head _))))), (List.forall_mem_cons.mpr ⟨(List.Mem.tail _ (List.Mem.tail _ (List.Mem.tail _ (List.Mem.tail _ (List.Mem.tail _ (List.Mem.head _)))))), (List.forall_mem_cons.mpr ⟨(mem_ci (by rw [prank_s]; unfold zmx; rw [← k1, ← k2]; first | rw [if_pos (by omega)] | rw [if_neg (by omega)]) (List.Mem.tail _ (List.Mem.head _))), (List.forall_mem_cons.mpr ⟨(mem_ci (by omega) (List.Mem.head _)), (fun _ h => absurd h List.not_mem_nil)⟩)⟩)⟩)⟩) ?_
              exact ih4 ((q + 1)) (by first | assumption | omega) (by omega)
  refine x_weaken (L1 := [(0, .ref 71), (1, .int (zN ((p : Int)))), (2, .int (zN (prank (H.1 2) p 0))), (3, .int (zN (((0 : Nat) : Int))))]) (List.forall_mem_cons.mpr ⟨(List.Mem.tail _ (List.Mem.tail _ (List.Mem.head _))), (List.forall_mem_cons.mpr ⟨(List.Mem.tail _ (List.Mem.tail _ (List.Mem.tail _ (List.Mem.head _)))), (List.forall_mem_cons.mpr ⟨(mem_ci (rfl) (List.Mem.tail _ (List.Mem.head _))), (List.forall_mem_cons.mpr ⟨(mem_ci (by omega) (List.Mem.head _)), (fun _ h => absurd h List.not_mem_nil)⟩)⟩)⟩)⟩) ?_
  exact lp4 ((H.1 2 477).toNat - 0 + 1) (0) (by first | assumption | omega) (Nat.lt_succ_self _)

theorem c_X10_ranked {d : Nat} {H : ZH} (ok : okZ H) {k : Int} (k1 : -2147483648 ≤ k) (k2 : k ≤ 2147483647) (wp : WFP (H.1 2)) (rp : RepP H) : EvC zX (d + 3) mX10_ranked [.ref 20, .int (zN (k))] (eh H) (zPi (fun (rz : Int) (Hz : ZH) => rz = (S_ranked (H.1 2) k) ∧ Hz = H)) := by
  show _ ∧ Ev zX mX10_ranked (EvC zX (d + 2)) (zPi (fun (rz : Int) (Hz : ZH) => rz = (S_ranked (H.1 2) k) ∧ Hz = H)) 0 [(0, .ref 20), (1, .int (zN (k)))] [] (eh H)
  refine ⟨Nat.le_of_ble_eq_true rfl, ?_⟩
  have wpx := wp
  obtain ⟨wpA, wpB, wpC⟩ := wpx
  have rpx := rp
  obtain ⟨rpA, rpB, rpC⟩ := rpx
  refine z_iconst (pc := 0) dX10_ranked_0 ?_
  refine x_istore_n (pc := 1) dX10_ranked_1 (Nat.le_of_ble_eq_true rfl) ?_
  show Ev _ _ _ _ _ [(2, .int (zN (0))), (0, .ref 20), (1, .int (zN (k)))] _ _
  have lp2 : ∀ (nF : Nat) (p : Nat), ((p : Int) ≤ H.1 2 477) → (zfirst (H.1 2) k (H.1 2 477).toNat (H.1 2 477).toNat 0 = zfirst (H.1 2) k (H.1 2 477).toNat ((H.1 2 477).toNat - p) p) → (H.1 2 477).toNat - p < nF → Ev zX mX10_ranked (EvC zX (d + 2)) (zPi (fun (rz : Int) (Hz : ZH) => rz = (S_ranked (H.1 2) k) ∧ Hz = H)) 2 [(0, .ref 20), (1, .int (zN (k))), (2, .int (zN ((p : Int))))] [] (eh H) := by
    intro nF
    induction nF with
    | zero => intro p hp hz hm; exact absurd hm (Nat.not_lt_zero _)
    | succ nF ih2 =>
      intro p hp hz hm
      have rb := prank_bd (H.1 2) p (H.1 2 477).toNat
      refine x_iload_n (pc := 2) dX10_ranked_2 (List.Mem.tail _ (List.Mem.tail _ (List.Mem.head _))) ?_
      refine x_aload_n (pc := 3) dX10_ranked_3 (List.Mem.head _) ?_
      refine z_getR (pc := 4) (k := 3) (r := 98) dX10_ranked_4 lf_X10_23 sh_20 rfl rf_20_3 ?_
      refine z_getR (pc := 7) (k := 2) (r := 71) dX10_ranked_7 lf_X10_293 sh_98 rfl rf_98_2 ?_
      have rd1 := ok.1 71 0
      refine z_getI (pc := 10) (k := 0) (v := H.1 71 0) dX10_ranked_10 lf_X10_297 sh_71 rfl rfl ?_
      refine z_icmp_ge (pc := 13) (tgt := 39) dX10_ranked_13 (by decide) (by omega) (by omega) (by omega) (by omega) (fun hb2 => ?_) (fun hb2 => ?_)
      · skip
        refine z_iconst (pc := 39) dX10_ranked_39 ?_
        refine z_ireturn (pc := 40) dX10_ranked_40 rfl (Or.inl rfl) ok (by decide) (by decide) ?_
        refine ⟨?_, rfl⟩
        unfold S_ranked
        rw [hz, show (H.1 2 477).toNat - p = 0 by omega]
        rfl
      · skip
        refine x_aload_n (pc := 16) dX10_ranked_16 (List.Mem.head _) ?_
        refine z_getR (pc := 17) (k := 3) (r := 98) dX10_ranked_17 lf_X10_23 sh_20 rfl rf_20_3 ?_
        refine z_getR (pc := 20) (k := 2) (r := 71) dX10_ranked_20 lf_X10_293 sh_98 rfl rf_98_2 ?_
        refine x_iload_n (pc := 23) dX10_ranked_23 (List.Mem.tail _ (List.Mem.tail _ (List.Mem.head _))) ?_
        refine z_callVip (pc := 24) (i := mX2_rankOf) (S := []) [.int (zN ((p : Int)))] dX10_ranked_24 ml_X10_351 ok_X2_rankOf rfl sh_71 rfl (Or.inl rfl) (Nat.le_of_ble_eq_true rfl) (c_X2_rankOf (d := d) (p := p) (hp := (by omega)) (ok := ok) (wp := (by first | assumption | omega)) (rp := (by first | assumption | omega))) (fun r3a r3b ok4 => ?_)
        refine x_iload_n (pc := 27) dX10_ranked_27 (List.Mem.tail _ (List.Mem.head _)) ?_
        refine z_icmp_ne (pc := 28) (tgt := 33) dX10_ranked_28 (by decide) (by omega) (by omega) (by omega) (by omega) (fun hb5 => ?_) (fun hb5 => ?_)
        · skip
          refine z_iinc (pc := 33) dX10_ranked_33 (List.Mem.tail _ (List.Mem.tail _ (List.Mem.head _))) (Nat.le_of_ble_eq_true rfl) ?_
          show Ev _ _ _ _ _ [(2, .int (zN ((p : Int) + 1))), (0, .ref 20), (1, .int (zN (k)))] _ _
          refine x_goto (pc := 36) (tgt := 2) dX10_ranked_36 (by decide) ?_
          refine x_weaken (L1 := [(0, .ref 20), (1, .int (zN (k))), (2, .int (zN ((((p + 1) : Nat) : Int))))]) (List.forall_mem_cons.mpr ⟨(List.Mem.tail _ (List.Mem.head _)), (List.forall_mem_cons.mpr ⟨(List.Mem.tail _ (List.Mem.tail _ (List.Mem.head _))), (List.forall_mem_cons.mpr ⟨(mem_ci (by omega) (List.Mem.head _)), (fun _ h => absurd h List.not_mem_nil)⟩)⟩)⟩) ?_
          exact ih2 ((p + 1)) (by first | assumption | omega) (by rw [hz, show (H.1 2 477).toNat - p = ((H.1 2 477).toNat - (p + 1)) + 1 by omega]; exact if_neg (by omega)) (by omega)
        · skip
          refine x_iload_n (pc := 31) dX10_ranked_31 (List.Mem.tail _ (List.Mem.tail _ (List.Mem.head _))) ?_
          refine z_ireturn (pc := 32) dX10_ranked_32 rfl (Or.inl rfl) ok4 (by omega) (by omega) ?_
          refine ⟨?_, rfl⟩
          unfold S_ranked
          rw [hz, show (H.1 2 477).toNat - p = ((H.1 2 477).toNat - (p + 1)) + 1 by omega]
          exact (if_pos (by omega)).symm
  refine x_weaken (L1 := [(0, .ref 20), (1, .int (zN (k))), (2, .int (zN (((0 : Nat) : Int))))]) (List.forall_mem_cons.mpr ⟨(List.Mem.tail _ (List.Mem.head _)), (List.forall_mem_cons.mpr ⟨(List.Mem.tail _ (List.Mem.tail _ (List.Mem.head _))), (List.forall_mem_cons.mpr ⟨(mem_ci (by omega) (List.Mem.head _)), (fun _ h => absurd h List.not_mem_nil)⟩)⟩)⟩) ?_
  exact lp2 ((H.1 2 477).toNat - 0 + 1) (0) (by first | assumption | omega) (rfl) (Nat.lt_succ_self _)

theorem c_X11_ranked {d : Nat} {H : ZH} (ok : okZ H) {k : Int} (k1 : -2147483648 ≤ k) (k2 : k ≤ 2147483647) (th : H.1 0 0 = 0) (wp : WFP (H.1 2)) : EvC zX (d + 3) mX11_ranked [.ref 0, .int (zN (k))] (eh H) (zPi (fun (rz : Int) (Hz : ZH) => rz = (S_ranked (H.1 2) k) ∧ Hz = H)) := by
  show _ ∧ Ev zX mX11_ranked (EvC zX (d + 2)) (zPi (fun (rz : Int) (Hz : ZH) => rz = (S_ranked (H.1 2) k) ∧ Hz = H)) 0 [(0, .ref 0), (1, .int (zN (k)))] [] (eh H)
  refine ⟨Nat.le_of_ble_eq_true rfl, ?_⟩
  have wpx := wp
  obtain ⟨wpA, wpB, wpC⟩ := wpx
  refine x_aload_n (pc := 0) dX11_ranked_0 (List.Mem.head _) ?_
  refine z_iconst (pc := 1) dX11_ranked_1 ?_
  refine z_putI (pc := 2) (k := 0) dX11_ranked_2 lp_X11_1 sh_0 rfl ?_
  have ok1 := okI ok 0 0 (v := 0) (by decide) (by decide)
  rw [wI_same th]
  refine x_aload_n (pc := 5) dX11_ranked_5 (List.Mem.head _) ?_
  refine x_iload_n (pc := 6) dX11_ranked_6 (List.Mem.tail _ (List.Mem.head _)) ?_
  refine z_callVbp (pc := 7) (i := mX11_isPlace) (S := []) [.int (zN (k))] dX11_ranked_7 ml_X11_316 ok_X11_isPlace rfl sh_0 rfl (Or.inr rfl) (Nat.le_of_ble_eq_true rfl) (c_X11_isPlace (d := d) (a := k) (a1 := (by omega)) (a2 := (by omega)) (ok := ok) (wp := (by first | assumption | omega))) (fun hc4 ok3 => ?_) (fun hc4 ok3 => ?_)
  · skip
    refine z_if_ne (pc := 10) (tgt := 15) dX11_ranked_10 (by decide) (by decide) (by decide) (fun _ => ?_) (fun h => absurd h (by decide))
    refine z_iconst (pc := 15) dX11_ranked_15 ?_
    refine x_istore_n (pc := 16) dX11_ranked_16 (Nat.le_of_ble_eq_true rfl) ?_
    show Ev _ _ _ _ _ [(2, .int (zN (0))), (0, .ref 0), (1, .int (zN (k)))] _ _
    have lp17 : ∀ (nF : Nat) (p : Nat), ((p : Int) ≤ H.1 2 477) → (zfirst (H.1 2) k (H.1 2 477).toNat (H.1 2 477).toNat 0 = zfirst (H.1 2) k (H.1 2 477).toNat ((H.1 2 477).toNat - p) p) → (H.1 2 477).toNat - p < nF → Ev zX mX11_ranked (EvC zX (d + 2)) (zPi (fun (rz : Int) (Hz : ZH) => rz = (S_ranked (H.1 2) k) ∧ Hz = H)) 17 [(0, .ref 0), (1, .int (zN (k))), (2, .int (zN ((p : Int))))] [] (eh H) := by
      intro nF
      induction nF with
      | zero => intro p hp hz hm; exact absurd hm (Nat.not_lt_zero _)
      | succ nF ih17 =>
        intro p hp hz hm
        refine x_iload_n (pc := 17) dX11_ranked_17 (List.Mem.tail _ (List.Mem.tail _ (List.Mem.head _))) ?_
        refine x_aload_n (pc := 18) dX11_ranked_18 (List.Mem.head _) ?_
        refine z_getR (pc := 19) (k := 2) (r := 2) dX11_ranked_19 lf_X11_17 sh_0 rfl rf_0_2 ?_
        refine z_sipush (pc := 22) dX11_ranked_22 sp_477 ?_
        have rd6 := ok3.1 2 477
        refine z_iald (pc := 25) (j := 477) (v := H.1 2 477) dX11_ranked_25 sh_2 rfl (Nat.le_of_ble_eq_true rfl) (by decide) rfl ?_
        refine z_icmp_ge (pc := 26) (tgt := 100) dX11_ranked_26 (by decide) (by omega) (by omega) (by omega) (by omega) (fun hb7 => ?_) (fun hb7 => ?_)
        · skip
          refine z_iconst (pc := 100) dX11_ranked_100 ?_
          refine z_ireturn (pc := 101) dX11_ranked_101 rfl (Or.inl rfl) ok3 (by decide) (by decide) ?_
          refine ⟨?_, rfl⟩
          unfold S_ranked
          rw [hz, show (H.1 2 477).toNat - p = 0 by omega]
          rfl
        · skip
          refine z_iconst (pc := 29) dX11_ranked_29 ?_
          refine x_istore_n (pc := 30) dX11_ranked_30 (Nat.le_of_ble_eq_true rfl) ?_
          show Ev _ _ _ _ _ [(3, .int (zN (0))), (0, .ref 0), (1, .int (zN (k))), (2, .int (zN ((p : Int))))] _ _
          refine z_iconst (pc := 31) dX11_ranked_31 ?_
          refine x_istore (pc := 32) dX11_ranked_32 (Nat.le_of_ble_eq_true rfl) ?_
          show Ev _ _ _ _ _ [(4, .int (zN (0))), (3, .int (zN (0))), (0, .ref 0), (1, .int (zN (k))), (2, .int (zN ((p : Int))))] _ _
          have lp34 : ∀ (nF : Nat) (q : Nat), ((q : Int) ≤ H.1 2 477) → (H.1 2 477).toNat - q < nF → Ev zX mX11_ranked (EvC zX (d + 2)) (zPi (fun (rz : Int) (Hz : ZH) => rz = (S_ranked (H.1 2) k) ∧ Hz = H)) 34 [(0, .ref 0), (1, .int (zN (k))), (2, .int (zN ((p : Int)))), (3, .int (zN (prank (H.1 2) p q))), (4, .int (zN ((q : Int))))] [] (eh H) := by
            intro nF
            induction nF with
            | zero => intro q hq hm; exact absurd hm (Nat.not_lt_zero _)
            | succ nF ih34 =>
              intro q hq hm
              have rb := prank_bd (H.1 2) p q
              refine x_iload (pc := 34) dX11_ranked_34 (List.Mem.tail _ (List.Mem.tail _ (List.Mem.tail _ (List.Mem.tail _ (List.Mem.head _))))) ?_
              refine x_aload_n (pc := 36) dX11_ranked_36 (List.Mem.head _) ?_
              refine z_getR (pc := 37) (k := 2) (r := 2) dX11_ranked_37 lf_X11_17 sh_0 rfl rf_0_2 ?_
              refine z_sipush (pc := 40) dX11_ranked_40 sp_477 ?_
              have rd8 := ok3.1 2 477
              refine z_iald (pc := 43) (j := 477) (v := H.1 2 477) dX11_ranked_43 sh_2 rfl (Nat.le_of_ble_eq_true rfl) (by decide) rfl ?_
              refine z_icmp_ge (pc := 44) (tgt := 87) dX11_ranked_44 (by decide) (by omega) (by omega) (by omega) (by omega) (fun hb9 => ?_) (fun hb9 => ?_)
              · skip
                have eq : q = (H.1 2 477).toNat := by omega
                refine x_iload_n (pc := 87) dX11_ranked_87 (List.Mem.tail _ (List.Mem.tail _ (List.Mem.tail _ (List.Mem.head _)))) ?_
                refine x_iload_n (pc := 88) dX11_ranked_88 (List.Mem.tail _ (List.Mem.head _)) ?_
                refine z_icmp_ne (pc := 89) (tgt := 94) dX11_ranked_89 (by decide) (by omega) (by omega) (by omega) (by omega) (fun hb10 => ?_) (fun hb10 => ?_)
                · skip
                  refine z_iinc (pc := 94) dX11_ranked_94 (List.Mem.tail _ (List.Mem.tail _ (List.Mem.head _))) (Nat.le_of_ble_eq_true rfl) ?_
                  show Ev _ _ _ _ _ [(2, .int (zN ((p : Int) + 1))), (0, .ref 0), (1, .int (zN (k))), (3, .int (zN (prank (H.1 2) p q))), (4, .int (zN ((q : Int))))] _ _
                  refine x_goto (pc := 97) (tgt := 17) dX11_ranked_97 (by decide) ?_
                  refine x_weaken (L1 := [(0, .ref 0), (1, .int (zN (k))), (2, .int (zN ((((p + 1) : Nat) : Int))))]) (List.forall_mem_cons.mpr ⟨(List.Mem.tail _ (List.Mem.head _)), (List.forall_mem_cons.mpr ⟨(List.Mem.tail _ (List.Mem.tail _ (List.Mem.head _))), (List.forall_mem_cons.mpr ⟨(mem_ci (by omega) (List.Mem.head _)), (fun _ h => absurd h List.not_mem_nil)⟩)⟩)⟩) ?_
                  exact ih17 ((p + 1)) (by first | assumption | omega) (by rw [hz, show (H.1 2 477).toNat - p = ((H.1 2 477).toNat - (p + 1)) + 1 by omega]; exact if_neg (by rw [← eq]; omega)) (by omega)
                · skip
                  refine x_iload_n (pc := 92) dX11_ranked_92 (List.Mem.tail _ (List.Mem.tail _ (List.Mem.head _))) ?_
                  refine z_ireturn (pc := 93) dX11_ranked_93 rfl (Or.inl rfl) ok3 (by omega) (by omega) ?_
                  refine ⟨?_, rfl⟩
                  unfold S_ranked
                  rw [hz, show (H.1 2 477).toNat - p = ((H.1 2 477).toNat - (p + 1)) + 1 by omega]
                  exact (if_pos (by rw [← eq]; omega)).symm
              · skip
                refine x_iload_n (pc := 47) dX11_ranked_47 (List.Mem.tail _ (List.Mem.tail _ (List.Mem.tail _ (List.Mem.head _)))) ?_
                refine x_aload_n (pc := 48) dX11_ranked_48 (List.Mem.head _) ?_
                refine x_iload (pc := 49) dX11_ranked_49 (List.Mem.tail _ (List.Mem.tail _ (List.Mem.tail _ (List.Mem.tail _ (List.Mem.head _))))) ?_
                refine x_iload_n (pc := 51) dX11_ranked_51 (List.Mem.tail _ (List.Mem.tail _ (List.Mem.head _))) ?_
                refine z_callVbp (pc := 52) (i := mX11_isWorse) (S := [.int (zN (prank (H.1 2) p q))]) [.int (zN ((q : Int))), .int (zN ((p : Int)))] dX11_ranked_52 ml_X11_344 ok_X11_isWorse rfl sh_0 rfl (Or.inr rfl) (Nat.le_of_ble_eq_true rfl) (c_X11_isWorse (d := d) (p := q) (q := p) (hp := (by omega)) (hq := (by omega)) (ok := ok3) (wp := (by first | assumption | omega))) (fun hc13 ok12 => ?_) (fun hc13 ok12 => ?_)
                · skip
                  refine z_if_ne (pc := 55) (tgt := 74) dX11_ranked_55 (by decide) (by decide) (by decide) (fun _ => ?_) (fun h => absurd h (by decide))
                  refine z_iconst (pc := 74) dX11_ranked_74 ?_
                  refine x_goto (pc := 75) (tgt := 79) dX11_ranked_75 (by decide) ?_
                  refine z_iadd (pc := 79) dX11_ranked_79 ?_
                  refine x_istore_n (pc := 80) dX11_ranked_80 (Nat.le_of_ble_eq_true rfl) ?_
                  show Ev _ _ _ _ _ [(3, .int (zN ((prank (H.1 2) p q + 1)))), (0, .ref 0), (1, .int (zN (k))), (2, .int (zN ((p : Int)))), (4, .int (zN ((q : Int))))] _ _
                  refine z_iinc (pc := 81) dX11_ranked_81 (List.Mem.tail _ (List.Mem.tail _ (List.Mem.tail _ (List.Mem.tail _ (List.Mem.head _))))) (Nat.le_of_ble_eq_true rfl) ?_
                  show Ev _ _ _ _ _ [(4, .int (zN ((q : Int) + 1))), (3, .int (zN ((prank (H.1 2) p q + 1)))), (0, .ref 0), (1, .int (zN (k))), (2, .int (zN ((p : Int))))] _ _
                  refine x_goto (pc := 84) (tgt := 34) dX11_ranked_84 (by decide) ?_
                  refine x_weaken (L1 := [(0, .ref 0), (1, .int (zN (k))), (2, .int (zN ((p : Int)))), (3, .int (zN (prank (H.1 2) p (q + 1)))), (4, .int (zN ((((q + 1) : Nat) : Int))))]) (List.forall_mem_cons.mpr ⟨(List.Mem.tail _ (List.Mem.tail _ (List.Mem.head _))), (List.forall_mem_cons.mpr ⟨(List.Mem.tail _ (List.Mem.tail _ (List.Mem.tail _ (List.Mem.head _)))), (List.forall_mem_cons.mpr ⟨(List.Mem.tail _ (List.Mem.tail _ (List.Mem.tail _ (List.Mem.tail _ (List.Mem.head _))))), (List.forall_mem_cons.mpr ⟨(mem_ci (by show prank (H.1 2) p q + (if pwor (H.1 2) q p = true ∨ q < p ∧ ¬ pwor (H.1 2) p q = true then 1 else 0) = _; unfold pwor; simp only [decide_eq_true_eq]; first | rw [if_pos (by omega)] | rw [if_neg (by omega)]) (List.Mem.tail _ (List.Mem.head _))), (List.forall_mem_cons.mpr ⟨(mem_ci (by omega) (List.Mem.head _)), (fun _ h => absurd h List.not_mem_nil)⟩)⟩)⟩)⟩)⟩) ?_
                  exact ih34 ((q + 1)) (by first | assumption | omega) (by omega)
                · skip
                  refine z_if_ne (pc := 55) (tgt := 74) dX11_ranked_55 (by decide) (by decide) (by decide) (fun h => absurd h (by decide)) (fun _ => ?_)
                  refine x_iload (pc := 58) dX11_ranked_58 (List.Mem.tail _ (List.Mem.tail _ (List.Mem.tail _ (List.Mem.tail _ (List.Mem.head _))))) ?_
                  refine x_iload_n (pc := 60) dX11_ranked_60 (List.Mem.tail _ (List.Mem.tail _ (List.Mem.head _))) ?_
                  refine z_icmp_ge (pc := 61) (tgt := 78) dX11_ranked_61 (by decide) (by omega) (by omega) (by omega) (by omega) (fun hb16 => ?_) (fun hb16 => ?_)
                  · skip
                    refine z_iconst (pc := 78) dX11_ranked_78 ?_
                    refine z_iadd (pc := 79) dX11_ranked_79 ?_
                    refine x_istore_n (pc := 80) dX11_ranked_80 (Nat.le_of_ble_eq_true rfl) ?_
                    show Ev _ _ _ _ _ [(3, .int (zN ((prank (H.1 2) p q + 0)))), (0, .ref 0), (1, .int (zN (k))), (2, .int (zN ((p : Int)))), (4, .int (zN ((q : Int))))] _ _
                    refine z_iinc (pc := 81) dX11_ranked_81 (List.Mem.tail _ (List.Mem.tail _ (List.Mem.tail _ (List.Mem.tail _ (List.Mem.head _))))) (Nat.le_of_ble_eq_true rfl) ?_
                    show Ev _ _ _ _ _ [(4, .int (zN ((q : Int) + 1))), (3, .int (zN ((prank (H.1 2) p q + 0)))), (0, .ref 0), (1, .int (zN (k))), (2, .int (zN ((p : Int))))] _ _
                    refine x_goto (pc := 84) (tgt := 34) dX11_ranked_84 (by decide) ?_
                    refine x_weaken (L1 := [(0, .ref 0), (1, .int (zN (k))), (2, .int (zN ((p : Int)))), (3, .int (zN (prank (H.1 2) p (q + 1)))), (4, .int (zN ((((q + 1) : Nat) : Int))))]) (List.forall_mem_cons.mpr ⟨(List.Mem.tail _ (List.Mem.tail _ (List.Mem.head _))), (List.forall_mem_cons.mpr ⟨(List.Mem.tail _ (List.Mem.tail _ (List.Mem.tail _ (List.Mem.head _)))), (List.forall_mem_cons.mpr ⟨(List.Mem.tail _ (List.Mem.tail _ (List.Mem.tail _ (List.Mem.tail _ (List.Mem.head _))))), (List.forall_mem_cons.mpr ⟨(mem_ci (by show prank (H.1 2) p q + (if pwor (H.1 2) q p = true ∨ q < p ∧ ¬ pwor (H.1 2) p q = true then 1 else 0) = _; unfold pwor; simp only [decide_eq_true_eq]; first | rw [if_pos (by omega)] | rw [if_neg (by omega)]) (List.Mem.tail _ (List.Mem.head _))), (List.forall_mem_cons.mpr ⟨(mem_ci (by omega) (List.Mem.head _)), (fun _ h => absurd h List.not_mem_nil)⟩)⟩)⟩)⟩)⟩) ?_
                    exact ih34 ((q + 1)) (by first | assumption | omega) (by omega)
                  · skip
                    refine x_aload_n (pc := 64) dX11_ranked_64 (List.Mem.head _) ?_
                    refine x_iload_n (pc := 65) dX11_ranked_65 (List.Mem.tail _ (List.Mem.tail _ (List.Mem.head _))) ?_
                    refine x_iload (pc := 66) dX11_ranked_66 (List.Mem.tail _ (List.Mem.tail _ (List.Mem.tail _ (List.Mem.tail _ (List.Mem.head _))))) ?_
                    refine z_callVbp (pc := 68) (i := mX11_isWorse) (S := [.int (zN (prank (H.1 2) p q))]) [.int (zN ((p : Int))), .int (zN ((q : Int)))] dX11_ranked_68 ml_X11_344 ok_X11_isWorse rfl sh_0 rfl (Or.inr rfl) (Nat.le_of_ble_eq_true rfl) (c_X11_isWorse (d := d) (p := p) (q := q) (hp := (by omega)) (hq := (by omega)) (ok := ok12) (wp := (by first | assumption | omega))) (fun hc19 ok18 => ?_) (fun hc19 ok18 => ?_)
                    · skip
                      refine z_if_ne (pc := 71) (tgt := 78) dX11_ranked_71 (by decide) (by decide) (by decide) (fun _ => ?_) (fun h => absurd h (by decide))
                      refine z_iconst (pc := 78) dX11_ranked_78 ?_
                      refine z_iadd (pc := 79) dX11_ranked_79 ?_
                      refine x_istore_n (pc := 80) dX11_ranked_80 (Nat.le_of_ble_eq_true rfl) ?_
                      show Ev _ _ _ _ _ [(3, .int (zN ((prank (H.1 2) p q + 0)))), (0, .ref 0), (1, .int (zN (k))), (2, .int (zN ((p : Int)))), (4, .int (zN ((q : Int))))] _ _
                      refine z_iinc (pc := 81) dX11_ranked_81 (List.Mem.tail _ (List.Mem.tail _ (List.Mem.tail _ (List.Mem.tail _ (List.Mem.head _))))) (Nat.le_of_ble_eq_true rfl) ?_
                      show Ev _ _ _ _ _ [(4, .int (zN ((q : Int) + 1))), (3, .int (zN ((prank (H.1 2) p q + 0)))), (0, .ref 0), (1, .int (zN (k))), (2, .int (zN ((p : Int))))] _ _
                      refine x_goto (pc := 84) (tgt := 34) dX11_ranked_84 (by decide) ?_
                      refine x_weaken (L1 := [(0, .ref 0), (1, .int (zN (k))), (2, .int (zN ((p : Int)))), (3, .int (zN (prank (H.1 2) p (q + 1)))), (4, .int (zN ((((q + 1) : Nat) : Int))))]) (List.forall_mem_cons.mpr ⟨(List.Mem.tail _ (List.Mem.tail _ (List.Mem.head _))), (List.forall_mem_cons.mpr ⟨(List.Mem.tail _ (List.Mem.tail _ (List.Mem.tail _ (List.Mem.head _)))), (List.forall_mem_cons.mpr ⟨(List.Mem.tail _ (List.Mem.tail _ (List.Mem.tail _ (List.Mem.tail _ (List.Mem.head _))))), (List.forall_mem_cons.mpr ⟨(mem_ci (by show prank (H.1 2) p q + (if pwor (H.1 2) q p = true ∨ q < p ∧ ¬ pwor (H.1 2) p q = true then 1 else 0) = _; unfold pwor; simp only [decide_eq_true_eq]; first | rw [if_pos (by omega)] | rw [if_neg (by omega)]) (List.Mem.tail _ (List.Mem.head _))), (List.forall_mem_cons.mpr ⟨(mem_ci (by omega) (List.Mem.head _)), (fun _ h => absurd h List.not_mem_nil)⟩)⟩)⟩)⟩)⟩) ?_
                      exact ih34 ((q + 1)) (by first | assumption | omega) (by omega)
                    · skip
                      refine z_if_ne (pc := 71) (tgt := 78) dX11_ranked_71 (by decide) (by decide) (by decide) (fun h => absurd h (by decide)) (fun _ => ?_)
                      refine z_iconst (pc := 74) dX11_ranked_74 ?_
                      refine x_goto (pc := 75) (tgt := 79) dX11_ranked_75 (by decide) ?_
                      refine z_iadd (pc := 79) dX11_ranked_79 ?_
                      refine x_istore_n (pc := 80) dX11_ranked_80 (Nat.le_of_ble_eq_true rfl) ?_
                      show Ev _ _ _ _ _ [(3, .int (zN ((prank (H.1 2) p q + 1)))), (0, .ref 0), (1, .int (zN (k))), (2, .int (zN ((p : Int)))), (4, .int (zN ((q : Int))))] _ _
                      refine z_iinc (pc := 81) dX11_ranked_81 (List.Mem.tail _ (List.Mem.tail _ (List.Mem.tail _ (List.Mem.tail _ (List.Mem.head _))))) (Nat.le_of_ble_eq_true rfl) ?_
                      show Ev _ _ _ _ _ [(4, .int (zN ((q : Int) + 1))), (3, .int (zN ((prank (H.1 2) p q + 1)))), (0, .ref 0), (1, .int (zN (k))), (2, .int (zN ((p : Int))))] _ _
                      refine x_goto (pc := 84) (tgt := 34) dX11_ranked_84 (by decide) ?_
                      refine x_weaken (L1 := [(0, .ref 0), (1, .int (zN (k))), (2, .int (zN ((p : Int)))), (3, .int (zN (prank (H.1 2) p (q + 1)))), (4, .int (zN ((((q + 1) : Nat) : Int))))]) (List.forall_mem_cons.mpr ⟨(List.Mem.tail _ (List.Mem.tail _ (List.Mem.head _))), (List.forall_mem_cons.mpr ⟨(List.Mem.tail _ (List.Mem.tail _ (List.Mem.tail _ (List.Mem.head _)))), (List.forall_mem_cons.mpr ⟨(List.Mem.tail _ (List.Mem.tail _ (List.Mem.tail _ (List.Mem.tail _ (List.Mem.head _))))), (List.forall_mem_cons.mpr ⟨(mem_ci (by show prank (H.1 2) p q + (if pwor (H.1 2) q p = true ∨ q < p ∧ ¬ pwor (H.1 2) p q = true then 1 else 0) = _; unfold pwor; simp only [decide_eq_true_eq]; first | rw [if_pos (by omega)] | rw [if_neg (by omega)]) (List.Mem.tail _ (List.Mem.head _))), (List.forall_mem_cons.mpr ⟨(mem_ci (by omega) (List.Mem.head _)), (fun _ h => absurd h List.not_mem_nil)⟩)⟩)⟩)⟩)⟩) ?_
                      exact ih34 ((q + 1)) (by first | assumption | omega) (by omega)
          refine x_weaken (L1 := [(0, .ref 0), (1, .int (zN (k))), (2, .int (zN ((p : Int)))), (3, .int (zN (prank (H.1 2) p 0))), (4, .int (zN (((0 : Nat) : Int))))]) (List.forall_mem_cons.mpr ⟨(List.Mem.tail _ (List.Mem.tail _ (List.Mem.head _))), (List.forall_mem_cons.mpr ⟨(List.Mem.tail _ (List.Mem.tail _ (List.Mem.tail _ (List.Mem.head _)))), (List.forall_mem_cons.mpr ⟨(List.Mem.tail _ (List.Mem.tail _ (List.Mem.tail _ (List.Mem.tail _ (List.Mem.head _))))), (List.forall_mem_cons.mpr ⟨(mem_ci (rfl) (List.Mem.tail _ (List.Mem.head _))), (List.forall_mem_cons.mpr ⟨(mem_ci (by omega) (List.Mem.head _)), (fun _ h => absurd h List.not_mem_nil)⟩)⟩)⟩)⟩)⟩) ?_
          exact lp34 ((H.1 2 477).toNat - 0 + 1) (0) (by first | assumption | omega) (Nat.lt_succ_self _)
    refine x_weaken (L1 := [(0, .ref 0), (1, .int (zN (k))), (2, .int (zN (((0 : Nat) : Int))))]) (List.forall_mem_cons.mpr ⟨(List.Mem.tail _ (List.Mem.head _)), (List.forall_mem_cons.mpr ⟨(List.Mem.tail _ (List.Mem.tail _ (List.Mem.head _))), (List.forall_mem_cons.mpr ⟨(mem_ci (by omega) (List.Mem.head _)), (fun _ h => absurd h List.not_mem_nil)⟩)⟩)⟩) ?_
    exact lp17 ((H.1 2 477).toNat - 0 + 1) (0) (by first | assumption | omega) (rfl) (Nat.lt_succ_self _)
  · skip
    have hbad : k < 0 ∨ H.1 2 477 ≤ k := by omega
    refine z_if_ne (pc := 10) (tgt := 15) dX11_ranked_10 (by decide) (by decide) (by decide) (fun h => absurd h (by decide)) (fun _ => ?_)
    refine z_iconst (pc := 13) dX11_ranked_13 ?_
    refine z_ireturn (pc := 14) dX11_ranked_14 rfl (Or.inl rfl) ok3 (by decide) (by decide) ?_
    refine ⟨?_, rfl⟩
    unfold S_ranked
    exact (zfirst_none (by omega) (by omega)).symm

theorem c_X10_place {d : Nat} {H : ZH} (ok : okZ H) {pa old others ho hu : Int} (pa01 : pa = 0 ∨ pa = 1) (old1 : -2147483648 ≤ old) (old2 : old ≤ 2147483647) (others1 : -2147483648 ≤ others) (others2 : others ≤ 2147483647) (ho1 : -2147483648 ≤ ho) (ho2 : ho ≤ 2147483647) (hu1 : -2147483648 ≤ hu) (hu2 : hu ≤ 2147483647) (cn : cntOK H 25) (wp : WFP (H.1 2)) (rp : RepP H) : EvC zX (d + 2) mX10_place [.ref 20, .int (zN (pa)), .int (zN (old)), .int (zN (others)), .int (zN (ho)), .int (zN (hu))] (eh H) (zPi (fun (r : Int) (H1 : ZH) => r = (S_place (H.1 2) old others ho hu).1 ∧ H1 = if (S_place (H.1 2) old others ho hu).2 = 6 then (wI (wI (wI (wI (wI (wI (wI (wI H 119 0 (-1)) 72 (H.1 2 477).toNat pa) 73 (H.1 2 477).toNat old) 74 (H.1 2 477).toNat others) 75 (H.1 2 477).toNat ho) 76 (H.1 2 477).toNat hu) 77 (H.1 2 477).toNat 0) 71 0 (H.1 2 477 + 1)) else bumpC (S_place (H.1 2) old others ho hu).2 H)) := by
  show _ ∧ Ev zX mX10_place (EvC zX (d + 1)) (zPi (fun (r : Int) (H1 : ZH) => r = (S_place (H.1 2) old others ho hu).1 ∧ H1 = if (S_place (H.1 2) old others ho hu).2 = 6 then (wI (wI (wI (wI (wI (wI (wI (wI H 119 0 (-1)) 72 (H.1 2 477).toNat pa) 73 (H.1 2 477).toNat old) 74 (H.1 2 477).toNat others) 75 (H.1 2 477).toNat ho) 76 (H.1 2 477).toNat hu) 77 (H.1 2 477).toNat 0) 71 0 (H.1 2 477 + 1)) else bumpC (S_place (H.1 2) old others ho hu).2 H)) 0 [(0, .ref 20), (1, .int (zN (pa))), (2, .int (zN (old))), (3, .int (zN (others))), (4, .int (zN (ho))), (5, .int (zN (hu)))] [] (eh H)
  refine ⟨Nat.le_of_ble_eq_true rfl, ?_⟩
  have wpx := wp
  obtain ⟨wpA, wpB, wpC⟩ := wpx
  have rpx := rp
  obtain ⟨rpA, rpB, rpC⟩ := rpx
  refine x_aload_n (pc := 0) dX10_place_0 (List.Mem.head _) ?_
  refine z_getR (pc := 1) (k := 3) (r := 98) dX10_place_1 lf_X10_23 sh_20 rfl rf_20_3 ?_
  refine z_getR (pc := 4) (k := 2) (r := 71) dX10_place_4 lf_X10_293 sh_98 rfl rf_98_2 ?_
  refine z_getI (pc := 7) (k := 0) (v := (H.1 2 477)) dX10_place_7 lf_X10_297 sh_71 rfl (by rw [rpA]) ?_
  refine z_bipush (pc := 10) dX10_place_10 bp_12 ?_
  refine z_icmp_lt (pc := 12) (tgt := 22) dX10_place_12 (by decide) (by omega) (by omega) (by decide) (by decide) (fun hb1 => ?_) (fun hb1 => ?_)
  · skip
    refine x_iload_n (pc := 22) dX10_place_22 (List.Mem.tail _ (List.Mem.tail _ (List.Mem.head _))) ?_
    refine z_sipush (pc := 23) dX10_place_23 sp_300 ?_
    refine z_callSbp (pc := 26) (i := mX10_isWithin) (S := []) [.int (zN (old)), .int (zN (300))] dX10_place_26 ml_X10_302 ok_X10_isWithin rfl (Or.inr rfl) (Nat.le_of_ble_eq_true rfl) (c_X10_isWithin (d := d) (v := old) (hi := 300) (v1 := (by omega)) (v2 := (by omega)) (hi1 := (by omega)) (hi2 := (by omega)) (ok := ok)) (fun hc4 ok3 => ?_) (fun hc4 ok3 => ?_)
    · skip
      refine z_if_eq (pc := 29) (tgt := 60) dX10_place_29 (by decide) (by decide) (by decide) (fun h => absurd h (by decide)) (fun _ => ?_)
      refine x_iload_n (pc := 32) dX10_place_32 (List.Mem.tail _ (List.Mem.tail _ (List.Mem.tail _ (List.Mem.head _)))) ?_
      refine z_sipush (pc := 33) dX10_place_33 sp_300 ?_
      refine z_callSbp (pc := 36) (i := mX10_isWithin) (S := []) [.int (zN (others)), .int (zN (300))] dX10_place_36 ml_X10_302 ok_X10_isWithin rfl (Or.inr rfl) (Nat.le_of_ble_eq_true rfl) (c_X10_isWithin (d := d) (v := others) (hi := 300) (v1 := (by omega)) (v2 := (by omega)) (hi1 := (by omega)) (hi2 := (by omega)) (ok := ok3)) (fun hc8 ok7 => ?_) (fun hc8 ok7 => ?_)
      · skip
        refine z_if_eq (pc := 39) (tgt := 60) dX10_place_39 (by decide) (by decide) (by decide) (fun h => absurd h (by decide)) (fun _ => ?_)
        refine x_iload (pc := 42) dX10_place_42 (List.Mem.tail _ (List.Mem.tail _ (List.Mem.tail _ (List.Mem.tail _ (List.Mem.head _))))) ?_
        refine x_iload_n (pc := 44) dX10_place_44 (List.Mem.tail _ (List.Mem.tail _ (List.Mem.head _))) ?_
        refine z_callSbp (pc := 45) (i := mX10_isWithin) (S := []) [.int (zN (ho)), .int (zN (old))] dX10_place_45 ml_X10_302 ok_X10_isWithin rfl (Or.inr rfl) (Nat.le_of_ble_eq_true rfl) (c_X10_isWithin (d := d) (v := ho) (hi := old) (v1 := (by omega)) (v2 := (by omega)) (hi1 := (by omega)) (hi2 := (by omega)) (ok := ok7)) (fun hc12 ok11 => ?_) (fun hc12 ok11 => ?_)
        · skip
          refine z_if_eq (pc := 48) (tgt := 60) dX10_place_48 (by decide) (by decide) (by decide) (fun h => absurd h (by decide)) (fun _ => ?_)
          refine x_iload (pc := 51) dX10_place_51 (List.Mem.tail _ (List.Mem.tail _ (List.Mem.tail _ (List.Mem.tail _ (List.Mem.tail _ (List.Mem.head _)))))) ?_
          refine x_iload_n (pc := 53) dX10_place_53 (List.Mem.tail _ (List.Mem.tail _ (List.Mem.tail _ (List.Mem.head _)))) ?_
          refine z_callSbp (pc := 54) (i := mX10_isWithin) (S := []) [.int (zN (hu)), .int (zN (others))] dX10_place_54 ml_X10_302 ok_X10_isWithin rfl (Or.inr rfl) (Nat.le_of_ble_eq_true rfl) (c_X10_isWithin (d := d) (v := hu) (hi := others) (v1 := (by omega)) (v2 := (by omega)) (hi1 := (by omega)) (hi2 := (by omega)) (ok := ok11)) (fun hc16 ok15 => ?_) (fun hc16 ok15 => ?_)
          · skip
            refine z_if_ne (pc := 57) (tgt := 67) dX10_place_57 (by decide) (by decide) (by decide) (fun _ => ?_) (fun h => absurd h (by decide))
            refine x_aload_n (pc := 67) dX10_place_67 (List.Mem.head _) ?_
            refine z_getR (pc := 68) (k := 12) (r := 119) dX10_place_68 lf_X10_75 sh_20 rfl rf_20_12 ?_
            refine z_iconst (pc := 71) dX10_place_71 ?_
            refine z_putI (pc := 72) (k := 0) dX10_place_72 lp_X10_306 sh_119 rfl ?_
            have ok18 := okI ok15 119 0 (v := (-1)) (by decide) (by decide)
            refine x_aload_n (pc := 75) dX10_place_75 (List.Mem.head _) ?_
            refine z_getR (pc := 76) (k := 3) (r := 98) dX10_place_76 lf_X10_23 sh_20 rfl rf_20_3 ?_
            refine z_getR (pc := 79) (k := 2) (r := 71) dX10_place_79 lf_X10_293 sh_98 rfl rf_98_2 ?_
            refine x_astore (pc := 82) dX10_place_82 (Nat.le_of_ble_eq_true rfl) ?_
            show Ev _ _ _ _ _ [(6, .ref 71), (0, .ref 20), (1, .int (zN (pa))), (2, .int (zN (old))), (3, .int (zN (others))), (4, .int (zN (ho))), (5, .int (zN (hu)))] _ _
            refine x_aload (pc := 84) dX10_place_84 (List.Mem.head _) ?_
            refine z_getI (pc := 86) (k := 0) (v := (H.1 2 477)) dX10_place_86 lf_X10_297 sh_71 rfl (by rw [wI1c (by omega), rpA]) ?_
            refine x_istore (pc := 89) dX10_place_89 (Nat.le_of_ble_eq_true rfl) ?_
            show Ev _ _ _ _ _ [(7, .int (zN (((H.1 2 477))))), (6, .ref 71), (0, .ref 20), (1, .int (zN (pa))), (2, .int (zN (old))), (3, .int (zN (others))), (4, .int (zN (ho))), (5, .int (zN (hu)))] _ _
            refine x_aload (pc := 91) dX10_place_91 (List.Mem.tail _ (List.Mem.head _)) ?_
            refine z_getR (pc := 93) (k := 1) (r := 72) dX10_place_93 lf_X10_309 sh_71 rfl rf_71_1 ?_
            refine x_iload (pc := 96) dX10_place_96 (List.Mem.head _) ?_
            refine x_iload_n (pc := 98) dX10_place_98 (List.Mem.tail _ (List.Mem.tail _ (List.Mem.tail _ (List.Mem.head _)))) ?_
            refine z_if_eq (pc := 99) (tgt := 106) dX10_place_99 (by decide) (by omega) (by omega) (fun hb19 => ?_) (fun hb19 => ?_)
            · skip
              refine z_iconst (pc := 106) dX10_place_106 ?_
              refine z_iast (pc := 107) (j := (((H.1 2 477))).toNat) (v := 0) dX10_place_107 sh_72 (by omega) (by omega) (by decide) ?_
              have ok20 := okI ok18 72 ((((H.1 2 477))).toNat) (v := 0) (by decide) (by decide)
              refine x_aload (pc := 108) dX10_place_108 (List.Mem.tail _ (List.Mem.head _)) ?_
              refine z_getR (pc := 110) (k := 2) (r := 73) dX10_place_110 lf_X10_312 sh_71 rfl rf_71_2 ?_
              refine x_iload (pc := 113) dX10_place_113 (List.Mem.head _) ?_
              refine x_iload_n (pc := 115) dX10_place_115 (List.Mem.tail _ (List.Mem.tail _ (List.Mem.tail _ (List.Mem.tail _ (List.Mem.head _))))) ?_
              refine z_iast (pc := 116) (j := (((H.1 2 477))).toNat) (v := old) dX10_place_116 sh_73 (by omega) (by omega) (by decide) ?_
              have ok21 := okI ok20 73 ((((H.1 2 477))).toNat) (v := old) (by omega) (by omega)
              refine x_aload (pc := 117) dX10_place_117 (List.Mem.tail _ (List.Mem.head _)) ?_
              refine z_getR (pc := 119) (k := 3) (r := 74) dX10_place_119 lf_X10_315 sh_71 rfl rf_71_3 ?_
              refine x_iload (pc := 122) dX10_place_122 (List.Mem.head _) ?_
              refine x_iload_n (pc := 124) dX10_place_124 (List.Mem.tail _ (List.Mem.tail _ (List.Mem.tail _ (List.Mem.tail _ (List.Mem.tail _ (List.Mem.head _)))))) ?_
              refine z_iast (pc := 125) (j := (((H.1 2 477))).toNat) (v := others) dX10_place_125 sh_74 (by omega) (by omega) (by decide) ?_
              have ok22 := okI ok21 74 ((((H.1 2 477))).toNat) (v := others) (by omega) (by omega)
              refine x_aload (pc := 126) dX10_place_126 (List.Mem.tail _ (List.Mem.head _)) ?_
              refine z_getR (pc := 128) (k := 4) (r := 75) dX10_place_128 lf_X10_318 sh_71 rfl rf_71_4 ?_
              refine x_iload (pc := 131) dX10_place_131 (List.Mem.head _) ?_
              refine x_iload (pc := 133) dX10_place_133 (List.Mem.tail _ (List.Mem.tail _ (List.Mem.tail _ (List.Mem.tail _ (List.Mem.tail _ (List.Mem.tail _ (List.Mem.head _))))))) ?_
              refine z_iast (pc := 135) (j := (((H.1 2 477))).toNat) (v := ho) dX10_place_135 sh_75 (by omega) (by omega) (by decide) ?_
              have ok23 := okI ok22 75 ((((H.1 2 477))).toNat) (v := ho) (by omega) (by omega)
              refine x_aload (pc := 136) dX10_place_136 (List.Mem.tail _ (List.Mem.head _)) ?_
              refine z_getR (pc := 138) (k := 5) (r := 76) dX10_place_138 lf_X10_321 sh_71 rfl rf_71_5 ?_
              refine x_iload (pc := 141) dX10_place_141 (List.Mem.head _) ?_
              refine x_iload (pc := 143) dX10_place_143 (List.Mem.tail _ (List.Mem.tail _ (List.Mem.tail _ (List.Mem.tail _ (List.Mem.tail _ (List.Mem.tail _ (List.Mem.tail _ (List.Mem.head _)))))))) ?_
              refine z_iast (pc := 145) (j := (((H.1 2 477))).toNat) (v := hu) dX10_place_145 sh_76 (by omega) (by omega) (by decide) ?_
              have ok24 := okI ok23 76 ((((H.1 2 477))).toNat) (v := hu) (by omega) (by omega)
              refine x_aload (pc := 146) dX10_place_146 (List.Mem.tail _ (List.Mem.head _)) ?_
              refine z_getR (pc := 148) (k := 6) (r := 77) dX10_place_148 lf_X10_324 sh_71 rfl rf_71_6 ?_
              refine x_iload (pc := 151) dX10_place_151 (List.Mem.head _) ?_
              refine z_iconst (pc := 153) dX10_place_153 ?_
              refine z_iast (pc := 154) (j := (((H.1 2 477))).toNat) (v := 0) dX10_place_154 sh_77 (by omega) (by omega) (by decide) ?_
              have ok25 := okI ok24 77 ((((H.1 2 477))).toNat) (v := 0) (by decide) (by decide)
              refine x_aload (pc := 155) dX10_place_155 (List.Mem.tail _ (List.Mem.head _)) ?_
              refine x_dup (pc := 157) dX10_place_157 rfl ?_
              refine z_getI (pc := 158) (k := 0) (v := (H.1 2 477)) dX10_place_158 lf_X10_297 sh_71 rfl (by rw [wI1c (by omega), wI1c (by omega), wI1c (by omega), wI1c (by omega), wI1c (by omega), wI1c (by omega), wI1c (by omega), rpA]) ?_
              refine z_iconst (pc := 161) dX10_place_161 ?_
              refine z_iadd (pc := 162) dX10_place_162 ?_
              refine z_putI (pc := 163) (k := 0) dX10_place_163 lp_X10_297 sh_71 rfl ?_
              have ok26 := okI ok25 71 0 (v := (((H.1 2 477)) + 1)) (by omega) (by omega)
              refine x_iload (pc := 166) dX10_place_166 (List.Mem.head _) ?_
              refine z_ireturn (pc := 168) dX10_place_168 rfl (Or.inl rfl) ok26 (by omega) (by omega) ?_
              have e : S_place (H.1 2) old others ho hu = (H.1 2 477, 6) := by unfold S_place; rw [if_pos (by omega), if_pos (by omega)]
              rw [e]
              first | exact ⟨rfl, rfl⟩ | (rw [show pa = 1 by omega]; exact ⟨rfl, rfl⟩) | (rw [show pa = 0 by omega]; exact ⟨rfl, rfl⟩)
            · skip
              refine z_iconst (pc := 102) dX10_place_102 ?_
              refine x_goto (pc := 103) (tgt := 107) dX10_place_103 (by decide) ?_
              refine z_iast (pc := 107) (j := (((H.1 2 477))).toNat) (v := 1) dX10_place_107 sh_72 (by omega) (by omega) (by decide) ?_
              have ok27 := okI ok18 72 ((((H.1 2 477))).toNat) (v := 1) (by decide) (by decide)
              refine x_aload (pc := 108) dX10_place_108 (List.Mem.tail _ (List.Mem.head _)) ?_
              refine z_getR (pc := 110) (k := 2) (r := 73) dX10_place_110 lf_X10_312 sh_71 rfl rf_71_2 ?_
              refine x_iload (pc := 113) dX10_place_113 (List.Mem.head _) ?_
              refine x_iload_n (pc := 115) dX10_place_115 (List.Mem.tail _ (List.Mem.tail _ (List.Mem.tail _ (List.Mem.tail _ (List.Mem.head _))))) ?_
              refine z_iast (pc := 116) (j := (((H.1 2 477))).toNat) (v := old) dX10_place_116 sh_73 (by omega) (by omega) (by decide) ?_
              have ok28 := okI ok27 73 ((((H.1 2 477))).toNat) (v := old) (by omega) (by omega)
              refine x_aload (pc := 117) dX10_place_117 (List.Mem.tail _ (List.Mem.head _)) ?_
              refine z_getR (pc := 119) (k := 3) (r := 74) dX10_place_119 lf_X10_315 sh_71 rfl rf_71_3 ?_
              refine x_iload (pc := 122) dX10_place_122 (List.Mem.head _) ?_
              refine x_iload_n (pc := 124) dX10_place_124 (List.Mem.tail _ (List.Mem.tail _ (List.Mem.tail _ (List.Mem.tail _ (List.Mem.tail _ (List.Mem.head _)))))) ?_
              refine z_iast (pc := 125) (j := (((H.1 2 477))).toNat) (v := others) dX10_place_125 sh_74 (by omega) (by omega) (by decide) ?_
              have ok29 := okI ok28 74 ((((H.1 2 477))).toNat) (v := others) (by omega) (by omega)
              refine x_aload (pc := 126) dX10_place_126 (List.Mem.tail _ (List.Mem.head _)) ?_
              refine z_getR (pc := 128) (k := 4) (r := 75) dX10_place_128 lf_X10_318 sh_71 rfl rf_71_4 ?_
              refine x_iload (pc := 131) dX10_place_131 (List.Mem.head _) ?_
              refine x_iload (pc := 133) dX10_place_133 (List.Mem.tail _ (List.Mem.tail _ (List.Mem.tail _ (List.Mem.tail _ (List.Mem.tail _ (List.Mem.tail _ (List.Mem.head _))))))) ?_
              refine z_iast (pc := 135) (j := (((H.1 2 477))).toNat) (v := ho) dX10_place_135 sh_75 (by omega) (by omega) (by decide) ?_
              have ok30 := okI ok29 75 ((((H.1 2 477))).toNat) (v := ho) (by omega) (by omega)
              refine x_aload (pc := 136) dX10_place_136 (List.Mem.tail _ (List.Mem.head _)) ?_
              refine z_getR (pc := 138) (k := 5) (r := 76) dX10_place_138 lf_X10_321 sh_71 rfl rf_71_5 ?_
              refine x_iload (pc := 141) dX10_place_141 (List.Mem.head _) ?_
              refine x_iload (pc := 143) dX10_place_143 (List.Mem.tail _ (List.Mem.tail _ (List.Mem.tail _ (List.Mem.tail _ (List.Mem.tail _ (List.Mem.tail _ (List.Mem.tail _ (List.Mem.head _)))))))) ?_
              refine z_iast (pc := 145) (j := (((H.1 2 477))).toNat) (v := hu) dX10_place_145 sh_76 (by omega) (by omega) (by decide) ?_
              have ok31 := okI ok30 76 ((((H.1 2 477))).toNat) (v := hu) (by omega) (by omega)
              refine x_aload (pc := 146) dX10_place_146 (List.Mem.tail _ (List.Mem.head _)) ?_
              refine z_getR (pc := 148) (k := 6) (r := 77) dX10_place_148 lf_X10_324 sh_71 rfl rf_71_6 ?_
              refine x_iload (pc := 151) dX10_place_151 (List.Mem.head _) ?_
              refine z_iconst (pc := 153) dX10_place_153 ?_
              refine z_iast (pc := 154) (j := (((H.1 2 477))).toNat) (v := 0) dX10_place_154 sh_77 (by omega) (by omega) (by decide) ?_
              have ok32 := okI ok31 77 ((((H.1 2 477))).toNat) (v := 0) (by decide) (by decide)
              refine x_aload (pc := 155) dX10_place_155 (List.Mem.tail _ (List.Mem.head _)) ?_
              refine x_dup (pc := 157) dX10_place_157 rfl ?_
              refine z_getI (pc := 158) (k := 0) (v := (H.1 2 477)) dX10_place_158 lf_X10_297 sh_71 rfl (by rw [wI1c (by omega), wI1c (by omega), wI1c (by omega), wI1c (by omega), wI1c (by omega), wI1c (by omega), wI1c (by omega), rpA]) ?_
              refine z_iconst (pc := 161) dX10_place_161 ?_
              refine z_iadd (pc := 162) dX10_place_162 ?_
              refine z_putI (pc := 163) (k := 0) dX10_place_163 lp_X10_297 sh_71 rfl ?_
              have ok33 := okI ok32 71 0 (v := (((H.1 2 477)) + 1)) (by omega) (by omega)
              refine x_iload (pc := 166) dX10_place_166 (List.Mem.head _) ?_
              refine z_ireturn (pc := 168) dX10_place_168 rfl (Or.inl rfl) ok33 (by omega) (by omega) ?_
              have e : S_place (H.1 2) old others ho hu = (H.1 2 477, 6) := by unfold S_place; rw [if_pos (by omega), if_pos (by omega)]
              rw [e]
              first | exact ⟨rfl, rfl⟩ | (rw [show pa = 1 by omega]; exact ⟨rfl, rfl⟩) | (rw [show pa = 0 by omega]; exact ⟨rfl, rfl⟩)
          · skip
            refine z_if_ne (pc := 57) (tgt := 67) dX10_place_57 (by decide) (by decide) (by decide) (fun h => absurd h (by decide)) (fun _ => ?_)
            refine x_aload_n (pc := 60) dX10_place_60 (List.Mem.head _) ?_
            refine z_bipush (pc := 61) dX10_place_61 bp_m3 ?_
            refine z_callVip (pc := 63) (i := mX10_refuse) (S := []) [.int (zN ((-3)))] dX10_place_63 ml_X10_97 ok_X10_refuse rfl sh_20 rfl (Or.inl rfl) (Nat.le_of_ble_eq_true rfl) (c_X10_refuse (d := d) (code := ((-3))) (code1 := (by omega)) (code2 := (by omega)) (ok := ok15) (cn := (by first | assumption | omega))) (fun r35a r35b ok36 => ?_)
            show Ev _ _ _ _ _ _ _ (eh (wI H 25 ((refIx ((-3)))) (H.1 25 (refIx ((-3))) + 1)))
            refine z_ireturn (pc := 66) dX10_place_66 rfl (Or.inl rfl) ok36 (by omega) (by omega) ?_
            have e : S_place (H.1 2) old others ho hu = (-3, 1) := by unfold S_place; rw [if_pos (by omega), if_neg (by omega)]
            rw [e]
            exact ⟨rfl, rfl⟩
        · skip
          refine z_if_eq (pc := 48) (tgt := 60) dX10_place_48 (by decide) (by decide) (by decide) (fun _ => ?_) (fun h => absurd h (by decide))
          refine x_aload_n (pc := 60) dX10_place_60 (List.Mem.head _) ?_
          refine z_bipush (pc := 61) dX10_place_61 bp_m3 ?_
          refine z_callVip (pc := 63) (i := mX10_refuse) (S := []) [.int (zN ((-3)))] dX10_place_63 ml_X10_97 ok_X10_refuse rfl sh_20 rfl (Or.inl rfl) (Nat.le_of_ble_eq_true rfl) (c_X10_refuse (d := d) (code := ((-3))) (code1 := (by omega)) (code2 := (by omega)) (ok := ok11) (cn := (by first | assumption | omega))) (fun r38a r38b ok39 => ?_)
          show Ev _ _ _ _ _ _ _ (eh (wI H 25 ((refIx ((-3)))) (H.1 25 (refIx ((-3))) + 1)))
          refine z_ireturn (pc := 66) dX10_place_66 rfl (Or.inl rfl) ok39 (by omega) (by omega) ?_
          have e : S_place (H.1 2) old others ho hu = (-3, 1) := by unfold S_place; rw [if_pos (by omega), if_neg (by omega)]
          rw [e]
          exact ⟨rfl, rfl⟩
      · skip
        refine z_if_eq (pc := 39) (tgt := 60) dX10_place_39 (by decide) (by decide) (by decide) (fun _ => ?_) (fun h => absurd h (by decide))
        refine x_aload_n (pc := 60) dX10_place_60 (List.Mem.head _) ?_
        refine z_bipush (pc := 61) dX10_place_61 bp_m3 ?_
        refine z_callVip (pc := 63) (i := mX10_refuse) (S := []) [.int (zN ((-3)))] dX10_place_63 ml_X10_97 ok_X10_refuse rfl sh_20 rfl (Or.inl rfl) (Nat.le_of_ble_eq_true rfl) (c_X10_refuse (d := d) (code := ((-3))) (code1 := (by omega)) (code2 := (by omega)) (ok := ok7) (cn := (by first | assumption | omega))) (fun r41a r41b ok42 => ?_)
        show Ev _ _ _ _ _ _ _ (eh (wI H 25 ((refIx ((-3)))) (H.1 25 (refIx ((-3))) + 1)))
        refine z_ireturn (pc := 66) dX10_place_66 rfl (Or.inl rfl) ok42 (by omega) (by omega) ?_
        have e : S_place (H.1 2) old others ho hu = (-3, 1) := by unfold S_place; rw [if_pos (by omega), if_neg (by omega)]
        rw [e]
        exact ⟨rfl, rfl⟩
    · skip
      refine z_if_eq (pc := 29) (tgt := 60) dX10_place_29 (by decide) (by decide) (by decide) (fun _ => ?_) (fun h => absurd h (by decide))
      refine x_aload_n (pc := 60) dX10_place_60 (List.Mem.head _) ?_
      refine z_bipush (pc := 61) dX10_place_61 bp_m3 ?_
      refine z_callVip (pc := 63) (i := mX10_refuse) (S := []) [.int (zN ((-3)))] dX10_place_63 ml_X10_97 ok_X10_refuse rfl sh_20 rfl (Or.inl rfl) (Nat.le_of_ble_eq_true rfl) (c_X10_refuse (d := d) (code := ((-3))) (code1 := (by omega)) (code2 := (by omega)) (ok := ok3) (cn := (by first | assumption | omega))) (fun r44a r44b ok45 => ?_)
      show Ev _ _ _ _ _ _ _ (eh (wI H 25 ((refIx ((-3)))) (H.1 25 (refIx ((-3))) + 1)))
      refine z_ireturn (pc := 66) dX10_place_66 rfl (Or.inl rfl) ok45 (by omega) (by omega) ?_
      have e : S_place (H.1 2) old others ho hu = (-3, 1) := by unfold S_place; rw [if_pos (by omega), if_neg (by omega)]
      rw [e]
      exact ⟨rfl, rfl⟩
  · skip
    refine x_aload_n (pc := 15) dX10_place_15 (List.Mem.head _) ?_
    refine z_bipush (pc := 16) dX10_place_16 bp_m5 ?_
    refine z_callVip (pc := 18) (i := mX10_refuse) (S := []) [.int (zN ((-5)))] dX10_place_18 ml_X10_97 ok_X10_refuse rfl sh_20 rfl (Or.inl rfl) (Nat.le_of_ble_eq_true rfl) (c_X10_refuse (d := d) (code := ((-5))) (code1 := (by omega)) (code2 := (by omega)) (ok := ok) (cn := (by first | assumption | omega))) (fun r46a r46b ok47 => ?_)
    show Ev _ _ _ _ _ _ _ (eh (wI H 25 ((refIx ((-5)))) (H.1 25 (refIx ((-5))) + 1)))
    refine z_ireturn (pc := 21) dX10_place_21 rfl (Or.inl rfl) ok47 (by omega) (by omega) ?_
    have e : S_place (H.1 2) old others ho hu = (-5, 2) := by unfold S_place; rw [if_neg (by omega)]
    rw [e]
    exact ⟨rfl, rfl⟩

theorem c_X11_place {d : Nat} {H : ZH} (ok : okZ H) {pa old others ho hu : Int} (pa01 : pa = 0 ∨ pa = 1) (old1 : -2147483648 ≤ old) (old2 : old ≤ 2147483647) (others1 : -2147483648 ≤ others) (others2 : others ≤ 2147483647) (ho1 : -2147483648 ≤ ho) (ho2 : ho ≤ 2147483647) (hu1 : -2147483648 ≤ hu) (hu2 : hu ≤ 2147483647) (cm : cntOK H 1) (th : H.1 0 0 = 0) (wp : WFP (H.1 2)) : EvC zX (d + 2) mX11_place [.ref 0, .int (zN (pa)), .int (zN (old)), .int (zN (others)), .int (zN (ho)), .int (zN (hu))] (eh H) (zPi (fun (r : Int) (H1 : ZH) => r = (S_place (H.1 2) old others ho hu).1 ∧ H1 = if (S_place (H.1 2) old others ho hu).2 = 6 then (wI (wI (wI (wI (wI (wI (wI H 2 (478 + (H.1 2 477).toNat) pa) 2 (490 + (H.1 2 477).toNat) old) 2 (502 + (H.1 2 477).toNat) others) 2 (514 + (H.1 2 477).toNat) ho) 2 (526 + (H.1 2 477).toNat) hu) 2 (538 + (H.1 2 477).toNat) 0) 2 477 (H.1 2 477 + 1)) else bumpM (S_place (H.1 2) old others ho hu).2 H)) := by
  show _ ∧ Ev zX mX11_place (EvC zX (d + 1)) (zPi (fun (r : Int) (H1 : ZH) => r = (S_place (H.1 2) old others ho hu).1 ∧ H1 = if (S_place (H.1 2) old others ho hu).2 = 6 then (wI (wI (wI (wI (wI (wI (wI H 2 (478 + (H.1 2 477).toNat) pa) 2 (490 + (H.1 2 477).toNat) old) 2 (502 + (H.1 2 477).toNat) others) 2 (514 + (H.1 2 477).toNat) ho) 2 (526 + (H.1 2 477).toNat) hu) 2 (538 + (H.1 2 477).toNat) 0) 2 477 (H.1 2 477 + 1)) else bumpM (S_place (H.1 2) old others ho hu).2 H)) 0 [(0, .ref 0), (1, .int (zN (pa))), (2, .int (zN (old))), (3, .int (zN (others))), (4, .int (zN (ho))), (5, .int (zN (hu)))] [] (eh H)
  refine ⟨Nat.le_of_ble_eq_true rfl, ?_⟩
  have wpx := wp
  obtain ⟨wpA, wpB, wpC⟩ := wpx
  refine x_aload_n (pc := 0) dX11_place_0 (List.Mem.head _) ?_
  refine z_iconst (pc := 1) dX11_place_1 ?_
  refine z_putI (pc := 2) (k := 0) dX11_place_2 lp_X11_1 sh_0 rfl ?_
  have ok1 := okI ok 0 0 (v := 0) (by decide) (by decide)
  rw [wI_same th]
  refine x_aload_n (pc := 5) dX11_place_5 (List.Mem.head _) ?_
  refine z_getR (pc := 6) (k := 2) (r := 2) dX11_place_6 lf_X11_17 sh_0 rfl rf_0_2 ?_
  refine z_sipush (pc := 9) dX11_place_9 sp_477 ?_
  have rd2 := ok.1 2 477
  refine z_iald (pc := 12) (j := 477) (v := H.1 2 477) dX11_place_12 sh_2 rfl (Nat.le_of_ble_eq_true rfl) (by decide) rfl ?_
  refine z_bipush (pc := 13) dX11_place_13 bp_12 ?_
  refine z_icmp_ne (pc := 15) (tgt := 25) dX11_place_15 (by decide) (by omega) (by omega) (by decide) (by decide) (fun hb3 => ?_) (fun hb3 => ?_)
  · skip
    refine x_iload_n (pc := 25) dX11_place_25 (List.Mem.tail _ (List.Mem.tail _ (List.Mem.head _))) ?_
    refine z_i2l (pc := 26) dX11_place_26 (by omega) (by omega) ?_
    refine z_lconst (pc := 27) 0 dX11_place_27 rfl ?_
    refine z_ldc2_w (pc := 28) 300 dX11_place_28 cl_X11_314 (by decide) ?_
    refine z_callSbp (pc := 31) (i := mX11_within) (S := []) [.long (zL (old)), .long (zL (0)), .long (zL (300))] dX11_place_31 ml_X11_152 ok_X11_within rfl (Or.inr rfl) (Nat.le_of_ble_eq_true rfl) (c_X11_within (d := d) (v := old) (lo := 0) (hi := 300) (v1 := (by omega)) (v2 := (by omega)) (lo1 := (by omega)) (lo2 := (by omega)) (hi1 := (by omega)) (hi2 := (by omega)) (ok := ok)) (fun hc6 ok5 => ?_) (fun hc6 ok5 => ?_)
    · skip
      refine z_if_eq (pc := 34) (tgt := 73) dX11_place_34 (by decide) (by decide) (by decide) (fun h => absurd h (by decide)) (fun _ => ?_)
      refine x_iload_n (pc := 37) dX11_place_37 (List.Mem.tail _ (List.Mem.tail _ (List.Mem.tail _ (List.Mem.head _)))) ?_
      refine z_i2l (pc := 38) dX11_place_38 (by omega) (by omega) ?_
      refine z_lconst (pc := 39) 0 dX11_place_39 rfl ?_
      refine z_ldc2_w (pc := 40) 300 dX11_place_40 cl_X11_314 (by decide) ?_
      refine z_callSbp (pc := 43) (i := mX11_within) (S := []) [.long (zL (others)), .long (zL (0)), .long (zL (300))] dX11_place_43 ml_X11_152 ok_X11_within rfl (Or.inr rfl) (Nat.le_of_ble_eq_true rfl) (c_X11_within (d := d) (v := others) (lo := 0) (hi := 300) (v1 := (by omega)) (v2 := (by omega)) (lo1 := (by omega)) (lo2 := (by omega)) (hi1 := (by omega)) (hi2 := (by omega)) (ok := ok5)) (fun hc10 ok9 => ?_) (fun hc10 ok9 => ?_)
      · skip
        refine z_if_eq (pc := 46) (tgt := 73) dX11_place_46 (by decide) (by decide) (by decide) (fun h => absurd h (by decide)) (fun _ => ?_)
        refine x_iload (pc := 49) dX11_place_49 (List.Mem.tail _ (List.Mem.tail _ (List.Mem.tail _ (List.Mem.tail _ (List.Mem.head _))))) ?_
        refine z_i2l (pc := 51) dX11_place_51 (by omega) (by omega) ?_
        refine z_lconst (pc := 52) 0 dX11_place_52 rfl ?_
        refine x_iload_n (pc := 53) dX11_place_53 (List.Mem.tail _ (List.Mem.tail _ (List.Mem.head _))) ?_
        refine z_i2l (pc := 54) dX11_place_54 (by omega) (by omega) ?_
        refine z_callSbp (pc := 55) (i := mX11_within) (S := []) [.long (zL (ho)), .long (zL (0)), .long (zL (old))] dX11_place_55 ml_X11_152 ok_X11_within rfl (Or.inr rfl) (Nat.le_of_ble_eq_true rfl) (c_X11_within (d := d) (v := ho) (lo := 0) (hi := old) (v1 := (by omega)) (v2 := (by omega)) (lo1 := (by omega)) (lo2 := (by omega)) (hi1 := (by omega)) (hi2 := (by omega)) (ok := ok9)) (fun hc14 ok13 => ?_) (fun hc14 ok13 => ?_)
        · skip
          refine z_if_eq (pc := 58) (tgt := 73) dX11_place_58 (by decide) (by decide) (by decide) (fun h => absurd h (by decide)) (fun _ => ?_)
          refine x_iload (pc := 61) dX11_place_61 (List.Mem.tail _ (List.Mem.tail _ (List.Mem.tail _ (List.Mem.tail _ (List.Mem.tail _ (List.Mem.head _)))))) ?_
          refine z_i2l (pc := 63) dX11_place_63 (by omega) (by omega) ?_
          refine z_lconst (pc := 64) 0 dX11_place_64 rfl ?_
          refine x_iload_n (pc := 65) dX11_place_65 (List.Mem.tail _ (List.Mem.tail _ (List.Mem.tail _ (List.Mem.head _)))) ?_
          refine z_i2l (pc := 66) dX11_place_66 (by omega) (by omega) ?_
          refine z_callSbp (pc := 67) (i := mX11_within) (S := []) [.long (zL (hu)), .long (zL (0)), .long (zL (others))] dX11_place_67 ml_X11_152 ok_X11_within rfl (Or.inr rfl) (Nat.le_of_ble_eq_true rfl) (c_X11_within (d := d) (v := hu) (lo := 0) (hi := others) (v1 := (by omega)) (v2 := (by omega)) (lo1 := (by omega)) (lo2 := (by omega)) (hi1 := (by omega)) (hi2 := (by omega)) (ok := ok13)) (fun hc18 ok17 => ?_) (fun hc18 ok17 => ?_)
          · skip
            refine z_if_ne (pc := 70) (tgt := 80) dX11_place_70 (by decide) (by decide) (by decide) (fun _ => ?_) (fun h => absurd h (by decide))
            refine x_aload_n (pc := 80) dX11_place_80 (List.Mem.head _) ?_
            refine z_getR (pc := 81) (k := 2) (r := 2) dX11_place_81 lf_X11_17 sh_0 rfl rf_0_2 ?_
            refine z_sipush (pc := 84) dX11_place_84 sp_477 ?_
            have rd20 := ok17.1 2 477
            refine z_iald (pc := 87) (j := 477) (v := H.1 2 477) dX11_place_87 sh_2 rfl (Nat.le_of_ble_eq_true rfl) (by decide) rfl ?_
            refine x_istore (pc := 88) dX11_place_88 (Nat.le_of_ble_eq_true rfl) ?_
            show Ev _ _ _ _ _ [(6, .int (zN ((H.1 2 477)))), (0, .ref 0), (1, .int (zN (pa))), (2, .int (zN (old))), (3, .int (zN (others))), (4, .int (zN (ho))), (5, .int (zN (hu)))] _ _
            refine x_aload_n (pc := 90) dX11_place_90 (List.Mem.tail _ (List.Mem.head _)) ?_
            refine z_getR (pc := 91) (k := 2) (r := 2) dX11_place_91 lf_X11_17 sh_0 rfl rf_0_2 ?_
            refine z_sipush (pc := 94) dX11_place_94 sp_478 ?_
            refine x_iload (pc := 97) dX11_place_97 (List.Mem.head _) ?_
            refine z_iadd (pc := 99) dX11_place_99 ?_
            refine x_iload_n (pc := 100) dX11_place_100 (List.Mem.tail _ (List.Mem.tail _ (List.Mem.head _))) ?_
            refine z_if_eq (pc := 101) (tgt := 108) dX11_place_101 (by decide) (by omega) (by omega) (fun hb21 => ?_) (fun hb21 => ?_)
            · skip
              refine z_iconst (pc := 108) dX11_place_108 ?_
              refine z_iast (pc := 109) (j := 478 + (H.1 2 477).toNat) (v := 0) dX11_place_109 sh_2 (by omega) (by omega) (by decide) ?_
              have ok22 := okI ok17 2 (478 + (H.1 2 477).toNat) (v := 0) (by decide) (by decide)
              refine x_aload_n (pc := 110) dX11_place_110 (List.Mem.tail _ (List.Mem.head _)) ?_
              refine z_getR (pc := 111) (k := 2) (r := 2) dX11_place_111 lf_X11_17 sh_0 rfl rf_0_2 ?_
              refine z_sipush (pc := 114) dX11_place_114 sp_490 ?_
              refine x_iload (pc := 117) dX11_place_117 (List.Mem.head _) ?_
              refine z_iadd (pc := 119) dX11_place_119 ?_
              refine x_iload_n (pc := 120) dX11_place_120 (List.Mem.tail _ (List.Mem.tail _ (List.Mem.tail _ (List.Mem.head _)))) ?_
              refine z_iast (pc := 121) (j := 490 + (H.1 2 477).toNat) (v := old) dX11_place_121 sh_2 (by omega) (by omega) (by decide) ?_
              have ok23 := okI ok22 2 (490 + (H.1 2 477).toNat) (v := old) (by omega) (by omega)
              refine x_aload_n (pc := 122) dX11_place_122 (List.Mem.tail _ (List.Mem.head _)) ?_
              refine z_getR (pc := 123) (k := 2) (r := 2) dX11_place_123 lf_X11_17 sh_0 rfl rf_0_2 ?_
              refine z_sipush (pc := 126) dX11_place_126 sp_502 ?_
              refine x_iload (pc := 129) dX11_place_129 (List.Mem.head _) ?_
              refine z_iadd (pc := 131) dX11_place_131 ?_
              refine x_iload_n (pc := 132) dX11_place_132 (List.Mem.tail _ (List.Mem.tail _ (List.Mem.tail _ (List.Mem.tail _ (List.Mem.head _))))) ?_
              refine z_iast (pc := 133) (j := 502 + (H.1 2 477).toNat) (v := others) dX11_place_133 sh_2 (by omega) (by omega) (by decide) ?_
              have ok24 := okI ok23 2 (502 + (H.1 2 477).toNat) (v := others) (by omega) (by omega)
              refine x_aload_n (pc := 134) dX11_place_134 (List.Mem.tail _ (List.Mem.head _)) ?_
              refine z_getR (pc := 135) (k := 2) (r := 2) dX11_place_135 lf_X11_17 sh_0 rfl rf_0_2 ?_
              refine z_sipush (pc := 138) dX11_place_138 sp_514 ?_
              refine x_iload (pc := 141) dX11_place_141 (List.Mem.head _) ?_
              refine z_iadd (pc := 143) dX11_place_143 ?_
              refine x_iload (pc := 144) dX11_place_144 (List.Mem.tail _ (List.Mem.tail _ (List.Mem.tail _ (List.Mem.tail _ (List.Mem.tail _ (List.Mem.head _)))))) ?_
              refine z_iast (pc := 146) (j := 514 + (H.1 2 477).toNat) (v := ho) dX11_place_146 sh_2 (by omega) (by omega) (by decide) ?_
              have ok25 := okI ok24 2 (514 + (H.1 2 477).toNat) (v := ho) (by omega) (by omega)
              refine x_aload_n (pc := 147) dX11_place_147 (List.Mem.tail _ (List.Mem.head _)) ?_
              refine z_getR (pc := 148) (k := 2) (r := 2) dX11_place_148 lf_X11_17 sh_0 rfl rf_0_2 ?_
              refine z_sipush (pc := 151) dX11_place_151 sp_526 ?_
              refine x_iload (pc := 154) dX11_place_154 (List.Mem.head _) ?_
              refine z_iadd (pc := 156) dX11_place_156 ?_
              refine x_iload (pc := 157) dX11_place_157 (List.Mem.tail _ (List.Mem.tail _ (List.Mem.tail _ (List.Mem.tail _ (List.Mem.tail _ (List.Mem.tail _ (List.Mem.head _))))))) ?_
              refine z_iast (pc := 159) (j := 526 + (H.1 2 477).toNat) (v := hu) dX11_place_159 sh_2 (by omega) (by omega) (by decide) ?_
              have ok26 := okI ok25 2 (526 + (H.1 2 477).toNat) (v := hu) (by omega) (by omega)
              refine x_aload_n (pc := 160) dX11_place_160 (List.Mem.tail _ (List.Mem.head _)) ?_
              refine z_getR (pc := 161) (k := 2) (r := 2) dX11_place_161 lf_X11_17 sh_0 rfl rf_0_2 ?_
              refine z_sipush (pc := 164) dX11_place_164 sp_538 ?_
              refine x_iload (pc := 167) dX11_place_167 (List.Mem.head _) ?_
              refine z_iadd (pc := 169) dX11_place_169 ?_
              refine z_iconst (pc := 170) dX11_place_170 ?_
              refine z_iast (pc := 171) (j := 538 + (H.1 2 477).toNat) (v := 0) dX11_place_171 sh_2 (by omega) (by omega) (by decide) ?_
              have ok27 := okI ok26 2 (538 + (H.1 2 477).toNat) (v := 0) (by decide) (by decide)
              refine x_aload_n (pc := 172) dX11_place_172 (List.Mem.tail _ (List.Mem.head _)) ?_
              refine z_getR (pc := 173) (k := 2) (r := 2) dX11_place_173 lf_X11_17 sh_0 rfl rf_0_2 ?_
              refine z_sipush (pc := 176) dX11_place_176 sp_477 ?_
              refine x_dup2 (pc := 179) dX11_place_179 rfl rfl ?_
              skip
              have rd28 := ok17.1 2 477
              refine z_iald (pc := 180) (j := 477) (v := H.1 2 477) dX11_place_180 sh_2 rfl (Nat.le_of_ble_eq_true rfl) (by decide) (by rw [wI1k (by omega), wI1k (by omega), wI1k (by omega), wI1k (by omega), wI1k (by omega), wI1k (by omega)]) ?_
              refine z_iconst (pc := 181) dX11_place_181 ?_
              refine z_iadd (pc := 182) dX11_place_182 ?_
              refine z_iast (pc := 183) (j := 477) (v := ((H.1 2 477) + 1)) dX11_place_183 sh_2 rfl (Nat.le_of_ble_eq_true rfl) (by decide) ?_
              have ok29 := okI ok27 2 477 (v := ((H.1 2 477) + 1)) (by omega) (by omega)
              refine x_iload (pc := 184) dX11_place_184 (List.Mem.head _) ?_
              refine z_ireturn (pc := 186) dX11_place_186 rfl (Or.inl rfl) ok29 (by omega) (by omega) ?_
              have e : S_place (H.1 2) old others ho hu = (H.1 2 477, 6) := by unfold S_place; rw [if_pos (by omega), if_pos (by omega)]
              rw [e]
              first | exact ⟨rfl, rfl⟩ | (rw [show pa = 1 by omega]; exact ⟨rfl, rfl⟩) | (rw [show pa = 0 by omega]; exact ⟨rfl, rfl⟩)
            · skip
              refine z_iconst (pc := 104) dX11_place_104 ?_
              refine x_goto (pc := 105) (tgt := 109) dX11_place_105 (by decide) ?_
              refine z_iast (pc := 109) (j := 478 + (H.1 2 477).toNat) (v := 1) dX11_place_109 sh_2 (by omega) (by omega) (by decide) ?_
              have ok30 := okI ok17 2 (478 + (H.1 2 477).toNat) (v := 1) (by decide) (by decide)
              refine x_aload_n (pc := 110) dX11_place_110 (List.Mem.tail _ (List.Mem.head _)) ?_
              refine z_getR (pc := 111) (k := 2) (r := 2) dX11_place_111 lf_X11_17 sh_0 rfl rf_0_2 ?_
              refine z_sipush (pc := 114) dX11_place_114 sp_490 ?_
              refine x_iload (pc := 117) dX11_place_117 (List.Mem.head _) ?_
              refine z_iadd (pc := 119) dX11_place_119 ?_
              refine x_iload_n (pc := 120) dX11_place_120 (List.Mem.tail _ (List.Mem.tail _ (List.Mem.tail _ (List.Mem.head _)))) ?_
              refine z_iast (pc := 121) (j := 490 + (H.1 2 477).toNat) (v := old) dX11_place_121 sh_2 (by omega) (by omega) (by decide) ?_
              have ok31 := okI ok30 2 (490 + (H.1 2 477).toNat) (v := old) (by omega) (by omega)
              refine x_aload_n (pc := 122) dX11_place_122 (List.Mem.tail _ (List.Mem.head _)) ?_
              refine z_getR (pc := 123) (k := 2) (r := 2) dX11_place_123 lf_X11_17 sh_0 rfl rf_0_2 ?_
              refine z_sipush (pc := 126) dX11_place_126 sp_502 ?_
              refine x_iload (pc := 129) dX11_place_129 (List.Mem.head _) ?_
              refine z_iadd (pc := 131) dX11_place_131 ?_
              refine x_iload_n (pc := 132) dX11_place_132 (List.Mem.tail _ (List.Mem.tail _ (List.Mem.tail _ (List.Mem.tail _ (List.Mem.head _))))) ?_
              refine z_iast (pc := 133) (j := 502 + (H.1 2 477).toNat) (v := others) dX11_place_133 sh_2 (by omega) (by omega) (by decide) ?_
              have ok32 := okI ok31 2 (502 + (H.1 2 477).toNat) (v := others) (by omega) (by omega)
              refine x_aload_n (pc := 134) dX11_place_134 (List.Mem.tail _ (List.Mem.head _)) ?_
              refine z_getR (pc := 135) (k := 2) (r := 2) dX11_place_135 lf_X11_17 sh_0 rfl rf_0_2 ?_
              refine z_sipush (pc := 138) dX11_place_138 sp_514 ?_
              refine x_iload (pc := 141) dX11_place_141 (List.Mem.head _) ?_
              refine z_iadd (pc := 143) dX11_place_143 ?_
              refine x_iload (pc := 144) dX11_place_144 (List.Mem.tail _ (List.Mem.tail _ (List.Mem.tail _ (List.Mem.tail _ (List.Mem.tail _ (List.Mem.head _)))))) ?_
              refine z_iast (pc := 146) (j := 514 + (H.1 2 477).toNat) (v := ho) dX11_place_146 sh_2 (by omega) (by omega) (by decide) ?_
              have ok33 := okI ok32 2 (514 + (H.1 2 477).toNat) (v := ho) (by omega) (by omega)
              refine x_aload_n (pc := 147) dX11_place_147 (List.Mem.tail _ (List.Mem.head _)) ?_
              refine z_getR (pc := 148) (k := 2) (r := 2) dX11_place_148 lf_X11_17 sh_0 rfl rf_0_2 ?_
              refine z_sipush (pc := 151) dX11_place_151 sp_526 ?_
              refine x_iload (pc := 154) dX11_place_154 (List.Mem.head _) ?_
              refine z_iadd (pc := 156) dX11_place_156 ?_
              refine x_iload (pc := 157) dX11_place_157 (List.Mem.tail _ (List.Mem.tail _ (List.Mem.tail _ (List.Mem.tail _ (List.Mem.tail _ (List.Mem.tail _ (List.Mem.head _))))))) ?_
              refine z_iast (pc := 159) (j := 526 + (H.1 2 477).toNat) (v := hu) dX11_place_159 sh_2 (by omega) (by omega) (by decide) ?_
              have ok34 := okI ok33 2 (526 + (H.1 2 477).toNat) (v := hu) (by omega) (by omega)
              refine x_aload_n (pc := 160) dX11_place_160 (List.Mem.tail _ (List.Mem.head _)) ?_
              refine z_getR (pc := 161) (k := 2) (r := 2) dX11_place_161 lf_X11_17 sh_0 rfl rf_0_2 ?_
              refine z_sipush (pc := 164) dX11_place_164 sp_538 ?_
              refine x_iload (pc := 167) dX11_place_167 (List.Mem.head _) ?_
              refine z_iadd (pc := 169) dX11_place_169 ?_
              refine z_iconst (pc := 170) dX11_place_170 ?_
              refine z_iast (pc := 171) (j := 538 + (H.1 2 477).toNat) (v := 0) dX11_place_171 sh_2 (by omega) (by omega) (by decide) ?_
              have ok35 := okI ok34 2 (538 + (H.1 2 477).toNat) (v := 0) (by decide) (by decide)
              refine x_aload_n (pc := 172) dX11_place_172 (List.Mem.tail _ (List.Mem.head _)) ?_
              refine z_getR (pc := 173) (k := 2) (r := 2) dX11_place_173 lf_X11_17 sh_0 rfl rf_0_2 ?_
              refine z_sipush (pc := 176) dX11_place_176 sp_477 ?_
              refine x_dup2 (pc := 179) dX11_place_179 rfl rfl ?_
              skip
              have rd36 := ok17.1 2 477
              refine z_iald (pc := 180) (j := 477) (v := H.1 2 477) dX11_place_180 sh_2 rfl (Nat.le_of_ble_eq_true rfl) (by decide) (by rw [wI1k (by omega), wI1k (by omega), wI1k (by omega), wI1k (by omega), wI1k (by omega), wI1k (by omega)]) ?_
              refine z_iconst (pc := 181) dX11_place_181 ?_
              refine z_iadd (pc := 182) dX11_place_182 ?_
              refine z_iast (pc := 183) (j := 477) (v := ((H.1 2 477) + 1)) dX11_place_183 sh_2 rfl (Nat.le_of_ble_eq_true rfl) (by decide) ?_
              have ok37 := okI ok35 2 477 (v := ((H.1 2 477) + 1)) (by omega) (by omega)
              refine x_iload (pc := 184) dX11_place_184 (List.Mem.head _) ?_
              refine z_ireturn (pc := 186) dX11_place_186 rfl (Or.inl rfl) ok37 (by omega) (by omega) ?_
              have e : S_place (H.1 2) old others ho hu = (H.1 2 477, 6) := by unfold S_place; rw [if_pos (by omega), if_pos (by omega)]
              rw [e]
              first | exact ⟨rfl, rfl⟩ | (rw [show pa = 1 by omega]; exact ⟨rfl, rfl⟩) | (rw [show pa = 0 by omega]; exact ⟨rfl, rfl⟩)
          · skip
            refine z_if_ne (pc := 70) (tgt := 80) dX11_place_70 (by decide) (by decide) (by decide) (fun h => absurd h (by decide)) (fun _ => ?_)
            refine x_aload_n (pc := 73) dX11_place_73 (List.Mem.head _) ?_
            refine z_bipush (pc := 74) dX11_place_74 bp_m3 ?_
            refine z_callVip (pc := 76) (i := mX11_no) (S := []) [.int (zN ((-3)))] dX11_place_76 ml_X11_89 ok_X11_no rfl sh_0 rfl (Or.inl rfl) (Nat.le_of_ble_eq_true rfl) (c_X11_no (d := d) (code := ((-3))) (code1 := (by omega)) (code2 := (by omega)) (ok := ok17) (cn := (by first | assumption | omega))) (fun r39a r39b ok40 => ?_)
            show Ev _ _ _ _ _ _ _ (eh (wI H 1 ((refIx ((-3)))) (H.1 1 (refIx ((-3))) + 1)))
            refine z_ireturn (pc := 79) dX11_place_79 rfl (Or.inl rfl) ok40 (by omega) (by omega) ?_
            have e : S_place (H.1 2) old others ho hu = (-3, 1) := by unfold S_place; rw [if_pos (by omega), if_neg (by omega)]
            rw [e]
            exact ⟨rfl, rfl⟩
        · skip
          refine z_if_eq (pc := 58) (tgt := 73) dX11_place_58 (by decide) (by decide) (by decide) (fun _ => ?_) (fun h => absurd h (by decide))
          refine x_aload_n (pc := 73) dX11_place_73 (List.Mem.head _) ?_
          refine z_bipush (pc := 74) dX11_place_74 bp_m3 ?_
          refine z_callVip (pc := 76) (i := mX11_no) (S := []) [.int (zN ((-3)))] dX11_place_76 ml_X11_89 ok_X11_no rfl sh_0 rfl (Or.inl rfl) (Nat.le_of_ble_eq_true rfl) (c_X11_no (d := d) (code := ((-3))) (code1 := (by omega)) (code2 := (by omega)) (ok := ok13) (cn := (by first | assumption | omega))) (fun r42a r42b ok43 => ?_)
          show Ev _ _ _ _ _ _ _ (eh (wI H 1 ((refIx ((-3)))) (H.1 1 (refIx ((-3))) + 1)))
          refine z_ireturn (pc := 79) dX11_place_79 rfl (Or.inl rfl) ok43 (by omega) (by omega) ?_
          have e : S_place (H.1 2) old others ho hu = (-3, 1) := by unfold S_place; rw [if_pos (by omega), if_neg (by omega)]
          rw [e]
          exact ⟨rfl, rfl⟩
      · skip
        refine z_if_eq (pc := 46) (tgt := 73) dX11_place_46 (by decide) (by decide) (by decide) (fun _ => ?_) (fun h => absurd h (by decide))
        refine x_aload_n (pc := 73) dX11_place_73 (List.Mem.head _) ?_
        refine z_bipush (pc := 74) dX11_place_74 bp_m3 ?_
        refine z_callVip (pc := 76) (i := mX11_no) (S := []) [.int (zN ((-3)))] dX11_place_76 ml_X11_89 ok_X11_no rfl sh_0 rfl (Or.inl rfl) (Nat.le_of_ble_eq_true rfl) (c_X11_no (d := d) (code := ((-3))) (code1 := (by omega)) (code2 := (by omega)) (ok := ok9) (cn := (by first | assumption | omega))) (fun r45a r45b ok46 => ?_)
        show Ev _ _ _ _ _ _ _ (eh (wI H 1 ((refIx ((-3)))) (H.1 1 (refIx ((-3))) + 1)))
        refine z_ireturn (pc := 79) dX11_place_79 rfl (Or.inl rfl) ok46 (by omega) (by omega) ?_
        have e : S_place (H.1 2) old others ho hu = (-3, 1) := by unfold S_place; rw [if_pos (by omega), if_neg (by omega)]
        rw [e]
        exact ⟨rfl, rfl⟩
    · skip
      refine z_if_eq (pc := 34) (tgt := 73) dX11_place_34 (by decide) (by decide) (by decide) (fun _ => ?_) (fun h => absurd h (by decide))
      refine x_aload_n (pc := 73) dX11_place_73 (List.Mem.head _) ?_
      refine z_bipush (pc := 74) dX11_place_74 bp_m3 ?_
      refine z_callVip (pc := 76) (i := mX11_no) (S := []) [.int (zN ((-3)))] dX11_place_76 ml_X11_89 ok_X11_no rfl sh_0 rfl (Or.inl rfl) (Nat.le_of_ble_eq_true rfl) (c_X11_no (d := d) (code := ((-3))) (code1 := (by omega)) (code2 := (by omega)) (ok := ok5) (cn := (by first | assumption | omega))) (fun r48a r48b ok49 => ?_)
      show Ev _ _ _ _ _ _ _ (eh (wI H 1 ((refIx ((-3)))) (H.1 1 (refIx ((-3))) + 1)))
      refine z_ireturn (pc := 79) dX11_place_79 rfl (Or.inl rfl) ok49 (by omega) (by omega) ?_
      have e : S_place (H.1 2) old others ho hu = (-3, 1) := by unfold S_place; rw [if_pos (by omega), if_neg (by omega)]
      rw [e]
      exact ⟨rfl, rfl⟩
  · skip
    refine x_aload_n (pc := 18) dX11_place_18 (List.Mem.head _) ?_
    refine z_bipush (pc := 19) dX11_place_19 bp_m5 ?_
    refine z_callVip (pc := 21) (i := mX11_no) (S := []) [.int (zN ((-5)))] dX11_place_21 ml_X11_89 ok_X11_no rfl sh_0 rfl (Or.inl rfl) (Nat.le_of_ble_eq_true rfl) (c_X11_no (d := d) (code := ((-5))) (code1 := (by omega)) (code2 := (by omega)) (ok := ok) (cn := (by first | assumption | omega))) (fun r50a r50b ok51 => ?_)
    show Ev _ _ _ _ _ _ _ (eh (wI H 1 ((refIx ((-5)))) (H.1 1 (refIx ((-5))) + 1)))
    refine z_ireturn (pc := 24) dX11_place_24 rfl (Or.inl rfl) ok51 (by omega) (by omega) ?_
    have e : S_place (H.1 2) old others ho hu = (-5, 2) := by unfold S_place; rw [if_neg (by omega)]
    rw [e]
    exact ⟨rfl, rfl⟩

theorem c_X10_behind {d : Nat} {H : ZH} (ok : okZ H) {p v : Int} (p1 : -2147483648 ≤ p) (p2 : p ≤ 2147483647) (v1 : -2147483648 ≤ v) (v2 : v ≤ 2147483647) (cn : cntOK H 25) (wp : WFP (H.1 2)) (rp : RepP H) : EvC zX (d + 2) mX10_behind [.ref 20, .int (zN (p)), .int (zN (v))] (eh H) (zPi (fun (r : Int) (H1 : ZH) => r = (S_behind (H.1 2) p v).1 ∧ H1 = if (S_behind (H.1 2) p v).2 = 6 then wI H 77 p.toNat v else bumpC (S_behind (H.1 2) p v).2 H)) := by
  show _ ∧ Ev zX mX10_behind (EvC zX (d + 1)) (zPi (fun (r : Int) (H1 : ZH) => r = (S_behind (H.1 2) p v).1 ∧ H1 = if (S_behind (H.1 2) p v).2 = 6 then wI H 77 p.toNat v else bumpC (S_behind (H.1 2) p v).2 H)) 0 [(0, .ref 20), (1, .int (zN (p))), (2, .int (zN (v)))] [] (eh H)
  refine ⟨Nat.le_of_ble_eq_true rfl, ?_⟩
  have wpx := wp
  obtain ⟨wpA, wpB, wpC⟩ := wpx
  have rpx := rp
  obtain ⟨rpA, rpB, rpC⟩ := rpx
  refine x_aload_n (pc := 0) dX10_behind_0 (List.Mem.head _) ?_
  refine x_iload_n (pc := 1) dX10_behind_1 (List.Mem.tail _ (List.Mem.head _)) ?_
  refine z_callVbp (pc := 2) (i := mX10_isPlace) (S := []) [.int (zN (p))] dX10_behind_2 ml_X10_327 ok_X10_isPlace rfl sh_20 rfl (Or.inr rfl) (Nat.le_of_ble_eq_true rfl) (c_X10_isPlace (d := d) (a := p) (a1 := (by omega)) (a2 := (by omega)) (ok := ok) (wp := (by first | assumption | omega)) (rp := (by first | assumption | omega))) (fun hc3 ok2 => ?_) (fun hc3 ok2 => ?_)
  · skip
    refine z_if_ne (pc := 5) (tgt := 15) dX10_behind_5 (by decide) (by decide) (by decide) (fun _ => ?_) (fun h => absurd h (by decide))
    refine x_iload_n (pc := 15) dX10_behind_15 (List.Mem.tail _ (List.Mem.tail _ (List.Mem.head _))) ?_
    refine z_sipush (pc := 16) dX10_behind_16 sp_600 ?_
    refine z_callSbp (pc := 19) (i := mX10_isWithin) (S := []) [.int (zN (v)), .int (zN (600))] dX10_behind_19 ml_X10_302 ok_X10_isWithin rfl (Or.inr rfl) (Nat.le_of_ble_eq_true rfl) (c_X10_isWithin (d := d) (v := v) (hi := 600) (v1 := (by omega)) (v2 := (by omega)) (hi1 := (by omega)) (hi2 := (by omega)) (ok := ok2)) (fun hc7 ok6 => ?_) (fun hc7 ok6 => ?_)
    · skip
      refine z_if_ne (pc := 22) (tgt := 32) dX10_behind_22 (by decide) (by decide) (by decide) (fun _ => ?_) (fun h => absurd h (by decide))
      have rq := rpB p.toNat (by omega)
      refine x_aload_n (pc := 32) dX10_behind_32 (List.Mem.head _) ?_
      refine z_getR (pc := 33) (k := 3) (r := 98) dX10_behind_33 lf_X10_23 sh_20 rfl rf_20_3 ?_
      refine z_getR (pc := 36) (k := 2) (r := 71) dX10_behind_36 lf_X10_293 sh_98 rfl rf_98_2 ?_
      refine z_getR (pc := 39) (k := 6) (r := 77) dX10_behind_39 lf_X10_324 sh_71 rfl rf_71_6 ?_
      refine x_iload_n (pc := 42) dX10_behind_42 (List.Mem.tail _ (List.Mem.head _)) ?_
      have rd9 := ok6.1 77 p.toNat
      refine z_iald (pc := 43) (j := p.toNat) (v := H.1 77 p.toNat) dX10_behind_43 sh_77 (by omega) (by omega) (by decide) rfl ?_
      refine x_istore_n (pc := 44) dX10_behind_44 (Nat.le_of_ble_eq_true rfl) ?_
      show Ev _ _ _ _ _ [(3, .int (zN ((H.1 77 p.toNat)))), (0, .ref 20), (1, .int (zN (p))), (2, .int (zN (v)))] _ _
      refine x_aload_n (pc := 45) dX10_behind_45 (List.Mem.tail _ (List.Mem.head _)) ?_
      refine z_getR (pc := 46) (k := 3) (r := 98) dX10_behind_46 lf_X10_23 sh_20 rfl rf_20_3 ?_
      refine z_getR (pc := 49) (k := 2) (r := 71) dX10_behind_49 lf_X10_293 sh_98 rfl rf_98_2 ?_
      refine z_getR (pc := 52) (k := 6) (r := 77) dX10_behind_52 lf_X10_324 sh_71 rfl rf_71_6 ?_
      refine x_iload_n (pc := 55) dX10_behind_55 (List.Mem.tail _ (List.Mem.tail _ (List.Mem.head _))) ?_
      refine x_iload_n (pc := 56) dX10_behind_56 (List.Mem.tail _ (List.Mem.tail _ (List.Mem.tail _ (List.Mem.head _)))) ?_
      refine z_iast (pc := 57) (j := p.toNat) (v := v) dX10_behind_57 sh_77 (by omega) (by omega) (by decide) ?_
      have ok10 := okI ok6 77 p.toNat (v := v) (by omega) (by omega)
      refine x_iload_n (pc := 58) dX10_behind_58 (List.Mem.head _) ?_
      refine z_ireturn (pc := 59) dX10_behind_59 rfl (Or.inl rfl) ok10 (by omega) (by omega) ?_
      have e : S_behind (H.1 2) p v = (H.1 2 (538 + p.toNat), 6) := by unfold S_behind; rw [if_pos (by omega), if_pos (by omega)]
      rw [e]
      exact ⟨by omega, rfl⟩
    · skip
      refine z_if_ne (pc := 22) (tgt := 32) dX10_behind_22 (by decide) (by decide) (by decide) (fun h => absurd h (by decide)) (fun _ => ?_)
      refine x_aload_n (pc := 25) dX10_behind_25 (List.Mem.head _) ?_
      refine z_bipush (pc := 26) dX10_behind_26 bp_m3 ?_
      refine z_callVip (pc := 28) (i := mX10_refuse) (S := []) [.int (zN ((-3)))] dX10_behind_28 ml_X10_97 ok_X10_refuse rfl sh_20 rfl (Or.inl rfl) (Nat.le_of_ble_eq_true rfl) (c_X10_refuse (d := d) (code := ((-3))) (code1 := (by omega)) (code2 := (by omega)) (ok := ok6) (cn := (by first | assumption | omega))) (fun r12a r12b ok13 => ?_)
      show Ev _ _ _ _ _ _ _ (eh (wI H 25 ((refIx ((-3)))) (H.1 25 (refIx ((-3))) + 1)))
      refine z_ireturn (pc := 31) dX10_behind_31 rfl (Or.inl rfl) ok13 (by omega) (by omega) ?_
      have e : S_behind (H.1 2) p v = (-3, 1) := by unfold S_behind; rw [if_pos (by omega), if_neg (by omega)]
      rw [e]
      exact ⟨rfl, rfl⟩
  · skip
    refine z_if_ne (pc := 5) (tgt := 15) dX10_behind_5 (by decide) (by decide) (by decide) (fun h => absurd h (by decide)) (fun _ => ?_)
    refine x_aload_n (pc := 8) dX10_behind_8 (List.Mem.head _) ?_
    refine z_bipush (pc := 9) dX10_behind_9 bp_m2 ?_
    refine z_callVip (pc := 11) (i := mX10_refuse) (S := []) [.int (zN ((-2)))] dX10_behind_11 ml_X10_97 ok_X10_refuse rfl sh_20 rfl (Or.inl rfl) (Nat.le_of_ble_eq_true rfl) (c_X10_refuse (d := d) (code := ((-2))) (code1 := (by omega)) (code2 := (by omega)) (ok := ok2) (cn := (by first | assumption | omega))) (fun r15a r15b ok16 => ?_)
    show Ev _ _ _ _ _ _ _ (eh (wI H 25 ((refIx ((-2)))) (H.1 25 (refIx ((-2))) + 1)))
    refine z_ireturn (pc := 14) dX10_behind_14 rfl (Or.inl rfl) ok16 (by omega) (by omega) ?_
    have e : S_behind (H.1 2) p v = (-2, 0) := by unfold S_behind; rw [if_neg (by omega)]
    rw [e]
    exact ⟨rfl, rfl⟩

theorem c_X11_behind {d : Nat} {H : ZH} (ok : okZ H) {p v : Int} (p1 : -2147483648 ≤ p) (p2 : p ≤ 2147483647) (v1 : -2147483648 ≤ v) (v2 : v ≤ 2147483647) (cm : cntOK H 1) (th : H.1 0 0 = 0) (wp : WFP (H.1 2)) : EvC zX (d + 3) mX11_behind [.ref 0, .int (zN (p)), .int (zN (v))] (eh H) (zPi (fun (r : Int) (H1 : ZH) => r = (S_behind (H.1 2) p v).1 ∧ H1 = if (S_behind (H.1 2) p v).2 = 6 then wI H 2 (538 + p.toNat) v else bumpM (S_behind (H.1 2) p v).2 H)) := by
  show _ ∧ Ev zX mX11_behind (EvC zX (d + 2)) (zPi (fun (r : Int) (H1 : ZH) => r = (S_behind (H.1 2) p v).1 ∧ H1 = if (S_behind (H.1 2) p v).2 = 6 then wI H 2 (538 + p.toNat) v else bumpM (S_behind (H.1 2) p v).2 H)) 0 [(0, .ref 0), (1, .int (zN (p))), (2, .int (zN (v)))] [] (eh H)
  refine ⟨Nat.le_of_ble_eq_true rfl, ?_⟩
  have wpx := wp
  obtain ⟨wpA, wpB, wpC⟩ := wpx
  refine x_aload_n (pc := 0) dX11_behind_0 (List.Mem.head _) ?_
  refine z_iconst (pc := 1) dX11_behind_1 ?_
  refine z_putI (pc := 2) (k := 0) dX11_behind_2 lp_X11_1 sh_0 rfl ?_
  have ok1 := okI ok 0 0 (v := 0) (by decide) (by decide)
  rw [wI_same th]
  refine x_aload_n (pc := 5) dX11_behind_5 (List.Mem.head _) ?_
  refine x_iload_n (pc := 6) dX11_behind_6 (List.Mem.tail _ (List.Mem.head _)) ?_
  refine z_callVbp (pc := 7) (i := mX11_isPlace) (S := []) [.int (zN (p))] dX11_behind_7 ml_X11_316 ok_X11_isPlace rfl sh_0 rfl (Or.inr rfl) (Nat.le_of_ble_eq_true rfl) (c_X11_isPlace (d := d) (a := p) (a1 := (by omega)) (a2 := (by omega)) (ok := ok) (wp := (by first | assumption | omega))) (fun hc4 ok3 => ?_) (fun hc4 ok3 => ?_)
  · skip
    refine z_if_ne (pc := 10) (tgt := 20) dX11_behind_10 (by decide) (by decide) (by decide) (fun _ => ?_) (fun h => absurd h (by decide))
    refine x_iload_n (pc := 20) dX11_behind_20 (List.Mem.tail _ (List.Mem.tail _ (List.Mem.head _))) ?_
    refine z_i2l (pc := 21) dX11_behind_21 (by omega) (by omega) ?_
    refine z_lconst (pc := 22) 0 dX11_behind_22 rfl ?_
    refine z_ldc2_w (pc := 23) 600 dX11_behind_23 cl_X11_319 (by decide) ?_
    refine z_callSbp (pc := 26) (i := mX11_within) (S := []) [.long (zL (v)), .long (zL (0)), .long (zL (600))] dX11_behind_26 ml_X11_152 ok_X11_within rfl (Or.inr rfl) (Nat.le_of_ble_eq_true rfl) (c_X11_within (d := d + 1) (v := v) (lo := 0) (hi := 600) (v1 := (by omega)) (v2 := (by omega)) (lo1 := (by omega)) (lo2 := (by omega)) (hi1 := (by omega)) (hi2 := (by omega)) (ok := ok3)) (fun hc8 ok7 => ?_) (fun hc8 ok7 => ?_)
    · skip
      refine z_if_ne (pc := 29) (tgt := 39) dX11_behind_29 (by decide) (by decide) (by decide) (fun _ => ?_) (fun h => absurd h (by decide))
      refine x_aload_n (pc := 39) dX11_behind_39 (List.Mem.head _) ?_
      refine z_getR (pc := 40) (k := 2) (r := 2) dX11_behind_40 lf_X11_17 sh_0 rfl rf_0_2 ?_
      refine z_sipush (pc := 43) dX11_behind_43 sp_538 ?_
      refine x_iload_n (pc := 46) dX11_behind_46 (List.Mem.tail _ (List.Mem.head _)) ?_
      refine z_iadd (pc := 47) dX11_behind_47 ?_
      have rd10 := ok7.1 2 (538 + p.toNat)
      refine z_iald (pc := 48) (j := 538 + p.toNat) (v := H.1 2 (538 + p.toNat)) dX11_behind_48 sh_2 (by omega) (by omega) (by decide) rfl ?_
      refine x_istore_n (pc := 49) dX11_behind_49 (Nat.le_of_ble_eq_true rfl) ?_
      show Ev _ _ _ _ _ [(3, .int (zN ((H.1 2 (538 + p.toNat))))), (0, .ref 0), (1, .int (zN (p))), (2, .int (zN (v)))] _ _
      refine x_aload_n (pc := 50) dX11_behind_50 (List.Mem.tail _ (List.Mem.head _)) ?_
      refine z_getR (pc := 51) (k := 2) (r := 2) dX11_behind_51 lf_X11_17 sh_0 rfl rf_0_2 ?_
      refine z_sipush (pc := 54) dX11_behind_54 sp_538 ?_
      refine x_iload_n (pc := 57) dX11_behind_57 (List.Mem.tail _ (List.Mem.tail _ (List.Mem.head _))) ?_
      refine z_iadd (pc := 58) dX11_behind_58 ?_
      refine x_iload_n (pc := 59) dX11_behind_59 (List.Mem.tail _ (List.Mem.tail _ (List.Mem.tail _ (List.Mem.head _)))) ?_
      refine z_iast (pc := 60) (j := 538 + p.toNat) (v := v) dX11_behind_60 sh_2 (by omega) (by omega) (by decide) ?_
      have ok11 := okI ok7 2 (538 + p.toNat) (v := v) (by omega) (by omega)
      refine x_iload_n (pc := 61) dX11_behind_61 (List.Mem.head _) ?_
      refine z_ireturn (pc := 62) dX11_behind_62 rfl (Or.inl rfl) ok11 (by omega) (by omega) ?_
      have e : S_behind (H.1 2) p v = (H.1 2 (538 + p.toNat), 6) := by unfold S_behind; rw [if_pos (by omega), if_pos (by omega)]
      rw [e]
      exact ⟨rfl, rfl⟩
    · skip
      refine z_if_ne (pc := 29) (tgt := 39) dX11_behind_29 (by decide) (by decide) (by decide) (fun h => absurd h (by decide)) (fun _ => ?_)
      refine x_aload_n (pc := 32) dX11_behind_32 (List.Mem.head _) ?_
      refine z_bipush (pc := 33) dX11_behind_33 bp_m3 ?_
      refine z_callVip (pc := 35) (i := mX11_no) (S := []) [.int (zN ((-3)))] dX11_behind_35 ml_X11_89 ok_X11_no rfl sh_0 rfl (Or.inl rfl) (Nat.le_of_ble_eq_true rfl) (c_X11_no (d := d + 1) (code := ((-3))) (code1 := (by omega)) (code2 := (by omega)) (ok := ok7) (cn := (by first | assumption | omega))) (fun r13a r13b ok14 => ?_)
      show Ev _ _ _ _ _ _ _ (eh (wI H 1 ((refIx ((-3)))) (H.1 1 (refIx ((-3))) + 1)))
      refine z_ireturn (pc := 38) dX11_behind_38 rfl (Or.inl rfl) ok14 (by omega) (by omega) ?_
      have e : S_behind (H.1 2) p v = (-3, 1) := by unfold S_behind; rw [if_pos (by omega), if_neg (by omega)]
      rw [e]
      exact ⟨rfl, rfl⟩
  · skip
    refine z_if_ne (pc := 10) (tgt := 20) dX11_behind_10 (by decide) (by decide) (by decide) (fun h => absurd h (by decide)) (fun _ => ?_)
    refine x_aload_n (pc := 13) dX11_behind_13 (List.Mem.head _) ?_
    refine z_bipush (pc := 14) dX11_behind_14 bp_m2 ?_
    refine z_callVip (pc := 16) (i := mX11_no) (S := []) [.int (zN ((-2)))] dX11_behind_16 ml_X11_89 ok_X11_no rfl sh_0 rfl (Or.inl rfl) (Nat.le_of_ble_eq_true rfl) (c_X11_no (d := d + 1) (code := ((-2))) (code1 := (by omega)) (code2 := (by omega)) (ok := ok3) (cn := (by first | assumption | omega))) (fun r16a r16b ok17 => ?_)
    show Ev _ _ _ _ _ _ _ (eh (wI H 1 ((refIx ((-2)))) (H.1 1 (refIx ((-2))) + 1)))
    refine z_ireturn (pc := 19) dX11_behind_19 rfl (Or.inl rfl) ok17 (by omega) (by omega) ?_
    have e : S_behind (H.1 2) p v = (-2, 0) := by unfold S_behind; rw [if_neg (by omega)]
    rw [e]
    exact ⟨rfl, rfl⟩

theorem c_X10_at {d : Nat} {H : ZH} (ok : okZ H) {p what : Int} (p1 : -2147483648 ≤ p) (p2 : p ≤ 2147483647) (what1 : -2147483648 ≤ what) (what2 : what ≤ 2147483647) (cn : cntOK H 25) (wp : WFP (H.1 2)) (rp : RepP H) : EvC zX (d + 2) mX10_at [.ref 20, .int (zN (p)), .int (zN (what))] (eh H) (zPi (fun (r : Int) (H1 : ZH) => r = (S_at (H.1 2) p what).1 ∧ H1 = bumpC (S_at (H.1 2) p what).2 H)) := by
  show _ ∧ Ev zX mX10_at (EvC zX (d + 1)) (zPi (fun (r : Int) (H1 : ZH) => r = (S_at (H.1 2) p what).1 ∧ H1 = bumpC (S_at (H.1 2) p what).2 H)) 0 [(0, .ref 20), (1, .int (zN (p))), (2, .int (zN (what)))] [] (eh H)
  refine ⟨Nat.le_of_ble_eq_true rfl, ?_⟩
  have wpx := wp
  obtain ⟨wpA, wpB, wpC⟩ := wpx
  have rpx := rp
  obtain ⟨rpA, rpB, rpC⟩ := rpx
  refine x_aload_n (pc := 0) dX10_at_0 (List.Mem.head _) ?_
  refine x_iload_n (pc := 1) dX10_at_1 (List.Mem.tail _ (List.Mem.head _)) ?_
  refine z_callVbp (pc := 2) (i := mX10_isPlace) (S := []) [.int (zN (p))] dX10_at_2 ml_X10_327 ok_X10_isPlace rfl sh_20 rfl (Or.inr rfl) (Nat.le_of_ble_eq_true rfl) (c_X10_isPlace (d := d) (a := p) (a1 := (by omega)) (a2 := (by omega)) (ok := ok) (wp := (by first | assumption | omega)) (rp := (by first | assumption | omega))) (fun hc3 ok2 => ?_) (fun hc3 ok2 => ?_)
  · skip
    refine z_if_ne (pc := 5) (tgt := 15) dX10_at_5 (by decide) (by decide) (by decide) (fun _ => ?_) (fun h => absurd h (by decide))
    have rq := rpB p.toNat (by omega)
    refine x_iload_n (pc := 15) dX10_at_15 (List.Mem.tail _ (List.Mem.tail _ (List.Mem.head _))) ?_
    rcases Int.decEq (what) (0) with hk5_0 | hk5_0
    rotate_left
    · skip
      refine z_tabIn (pc := 16) (0) (tgt := 56) dX10_at_16 hk5_0 (by omega) (by omega) (by decide) (by decide) rfl (by decide) ?_
      refine x_aload_n (pc := 56) dX10_at_56 (List.Mem.head _) ?_
      refine z_getR (pc := 57) (k := 3) (r := 98) dX10_at_57 lf_X10_23 sh_20 rfl rf_20_3 ?_
      refine z_getR (pc := 60) (k := 2) (r := 71) dX10_at_60 lf_X10_293 sh_98 rfl rf_98_2 ?_
      refine z_getR (pc := 63) (k := 1) (r := 72) dX10_at_63 lf_X10_309 sh_71 rfl rf_71_1 ?_
      refine x_iload_n (pc := 66) dX10_at_66 (List.Mem.tail _ (List.Mem.head _)) ?_
      have rd6 := ok2.1 72 p.toNat
      refine z_iald (pc := 67) (j := p.toNat) (v := H.1 72 p.toNat) dX10_at_67 sh_72 (by omega) (by omega) (by decide) rfl ?_
      refine z_ireturn (pc := 68) dX10_at_68 rfl (Or.inl rfl) ok2 (by omega) (by omega) ?_
      have e : S_at (H.1 2) p what = (H.1 2 (478 + p.toNat), 6) := by unfold S_at; rw [if_pos (by omega), show 478 + 12 * what.toNat + p.toNat = 478 + p.toNat by omega]
      rw [e]
      exact ⟨by omega, rfl⟩
    rcases Int.decEq (what) (1) with hk5_1 | hk5_1
    rotate_left
    · skip
      refine z_tabIn (pc := 16) (1) (tgt := 69) dX10_at_16 hk5_1 (by omega) (by omega) (by decide) (by decide) rfl (by decide) ?_
      refine x_aload_n (pc := 69) dX10_at_69 (List.Mem.head _) ?_
      refine z_getR (pc := 70) (k := 3) (r := 98) dX10_at_70 lf_X10_23 sh_20 rfl rf_20_3 ?_
      refine z_getR (pc := 73) (k := 2) (r := 71) dX10_at_73 lf_X10_293 sh_98 rfl rf_98_2 ?_
      refine z_getR (pc := 76) (k := 2) (r := 73) dX10_at_76 lf_X10_312 sh_71 rfl rf_71_2 ?_
      refine x_iload_n (pc := 79) dX10_at_79 (List.Mem.tail _ (List.Mem.head _)) ?_
      have rd7 := ok2.1 73 p.toNat
      refine z_iald (pc := 80) (j := p.toNat) (v := H.1 73 p.toNat) dX10_at_80 sh_73 (by omega) (by omega) (by decide) rfl ?_
      refine z_ireturn (pc := 81) dX10_at_81 rfl (Or.inl rfl) ok2 (by omega) (by omega) ?_
      have e : S_at (H.1 2) p what = (H.1 2 (490 + p.toNat), 6) := by unfold S_at; rw [if_pos (by omega), show 478 + 12 * what.toNat + p.toNat = 490 + p.toNat by omega]
      rw [e]
      exact ⟨by omega, rfl⟩
    rcases Int.decEq (what) (2) with hk5_2 | hk5_2
    rotate_left
    · skip
      refine z_tabIn (pc := 16) (2) (tgt := 82) dX10_at_16 hk5_2 (by omega) (by omega) (by decide) (by decide) rfl (by decide) ?_
      refine x_aload_n (pc := 82) dX10_at_82 (List.Mem.head _) ?_
      refine z_getR (pc := 83) (k := 3) (r := 98) dX10_at_83 lf_X10_23 sh_20 rfl rf_20_3 ?_
      refine z_getR (pc := 86) (k := 2) (r := 71) dX10_at_86 lf_X10_293 sh_98 rfl rf_98_2 ?_
      refine z_getR (pc := 89) (k := 3) (r := 74) dX10_at_89 lf_X10_315 sh_71 rfl rf_71_3 ?_
      refine x_iload_n (pc := 92) dX10_at_92 (List.Mem.tail _ (List.Mem.head _)) ?_
      have rd8 := ok2.1 74 p.toNat
      refine z_iald (pc := 93) (j := p.toNat) (v := H.1 74 p.toNat) dX10_at_93 sh_74 (by omega) (by omega) (by decide) rfl ?_
      refine z_ireturn (pc := 94) dX10_at_94 rfl (Or.inl rfl) ok2 (by omega) (by omega) ?_
      have e : S_at (H.1 2) p what = (H.1 2 (502 + p.toNat), 6) := by unfold S_at; rw [if_pos (by omega), show 478 + 12 * what.toNat + p.toNat = 502 + p.toNat by omega]
      rw [e]
      exact ⟨by omega, rfl⟩
    rcases Int.decEq (what) (3) with hk5_3 | hk5_3
    rotate_left
    · skip
      refine z_tabIn (pc := 16) (3) (tgt := 95) dX10_at_16 hk5_3 (by omega) (by omega) (by decide) (by decide) rfl (by decide) ?_
      refine x_aload_n (pc := 95) dX10_at_95 (List.Mem.head _) ?_
      refine z_getR (pc := 96) (k := 3) (r := 98) dX10_at_96 lf_X10_23 sh_20 rfl rf_20_3 ?_
      refine z_getR (pc := 99) (k := 2) (r := 71) dX10_at_99 lf_X10_293 sh_98 rfl rf_98_2 ?_
      refine z_getR (pc := 102) (k := 4) (r := 75) dX10_at_102 lf_X10_318 sh_71 rfl rf_71_4 ?_
      refine x_iload_n (pc := 105) dX10_at_105 (List.Mem.tail _ (List.Mem.head _)) ?_
      have rd9 := ok2.1 75 p.toNat
      refine z_iald (pc := 106) (j := p.toNat) (v := H.1 75 p.toNat) dX10_at_106 sh_75 (by omega) (by omega) (by decide) rfl ?_
      refine z_ireturn (pc := 107) dX10_at_107 rfl (Or.inl rfl) ok2 (by omega) (by omega) ?_
      have e : S_at (H.1 2) p what = (H.1 2 (514 + p.toNat), 6) := by unfold S_at; rw [if_pos (by omega), show 478 + 12 * what.toNat + p.toNat = 514 + p.toNat by omega]
      rw [e]
      exact ⟨by omega, rfl⟩
    rcases Int.decEq (what) (4) with hk5_4 | hk5_4
    rotate_left
    · skip
      refine z_tabIn (pc := 16) (4) (tgt := 108) dX10_at_16 hk5_4 (by omega) (by omega) (by decide) (by decide) rfl (by decide) ?_
      refine x_aload_n (pc := 108) dX10_at_108 (List.Mem.head _) ?_
      refine z_getR (pc := 109) (k := 3) (r := 98) dX10_at_109 lf_X10_23 sh_20 rfl rf_20_3 ?_
      refine z_getR (pc := 112) (k := 2) (r := 71) dX10_at_112 lf_X10_293 sh_98 rfl rf_98_2 ?_
      refine z_getR (pc := 115) (k := 5) (r := 76) dX10_at_115 lf_X10_321 sh_71 rfl rf_71_5 ?_
      refine x_iload_n (pc := 118) dX10_at_118 (List.Mem.tail _ (List.Mem.head _)) ?_
      have rd10 := ok2.1 76 p.toNat
      refine z_iald (pc := 119) (j := p.toNat) (v := H.1 76 p.toNat) dX10_at_119 sh_76 (by omega) (by omega) (by decide) rfl ?_
      refine z_ireturn (pc := 120) dX10_at_120 rfl (Or.inl rfl) ok2 (by omega) (by omega) ?_
      have e : S_at (H.1 2) p what = (H.1 2 (526 + p.toNat), 6) := by unfold S_at; rw [if_pos (by omega), show 478 + 12 * what.toNat + p.toNat = 526 + p.toNat by omega]
      rw [e]
      exact ⟨by omega, rfl⟩
    rcases Int.decEq (what) (5) with hk5_5 | hk5_5
    rotate_left
    · skip
      refine z_tabIn (pc := 16) (5) (tgt := 121) dX10_at_16 hk5_5 (by omega) (by omega) (by decide) (by decide) rfl (by decide) ?_
      refine x_aload_n (pc := 121) dX10_at_121 (List.Mem.head _) ?_
      refine z_getR (pc := 122) (k := 3) (r := 98) dX10_at_122 lf_X10_23 sh_20 rfl rf_20_3 ?_
      refine z_getR (pc := 125) (k := 2) (r := 71) dX10_at_125 lf_X10_293 sh_98 rfl rf_98_2 ?_
      refine z_getR (pc := 128) (k := 6) (r := 77) dX10_at_128 lf_X10_324 sh_71 rfl rf_71_6 ?_
      refine x_iload_n (pc := 131) dX10_at_131 (List.Mem.tail _ (List.Mem.head _)) ?_
      have rd11 := ok2.1 77 p.toNat
      refine z_iald (pc := 132) (j := p.toNat) (v := H.1 77 p.toNat) dX10_at_132 sh_77 (by omega) (by omega) (by decide) rfl ?_
      refine z_ireturn (pc := 133) dX10_at_133 rfl (Or.inl rfl) ok2 (by omega) (by omega) ?_
      have e : S_at (H.1 2) p what = (H.1 2 (538 + p.toNat), 6) := by unfold S_at; rw [if_pos (by omega), show 478 + 12 * what.toNat + p.toNat = 538 + p.toNat by omega]
      rw [e]
      exact ⟨by omega, rfl⟩
    refine z_tabOut (pc := 16) (tgt := 134) dX10_at_16 (by omega) (by omega) (by omega) (by decide) ?_
    refine x_aload_n (pc := 134) dX10_at_134 (List.Mem.head _) ?_
    refine z_bipush (pc := 135) dX10_at_135 bp_m2 ?_
    refine z_callVip (pc := 137) (i := mX10_refuse) (S := []) [.int (zN ((-2)))] dX10_at_137 ml_X10_97 ok_X10_refuse rfl sh_20 rfl (Or.inl rfl) (Nat.le_of_ble_eq_true rfl) (c_X10_refuse (d := d) (code := ((-2))) (code1 := (by omega)) (code2 := (by omega)) (ok := ok2) (cn := (by first | assumption | omega))) (fun r12a r12b ok13 => ?_)
    show Ev _ _ _ _ _ _ _ (eh (wI H 25 ((refIx ((-2)))) (H.1 25 (refIx ((-2))) + 1)))
    refine z_ireturn (pc := 140) dX10_at_140 rfl (Or.inl rfl) ok13 (by omega) (by omega) ?_
    have e : S_at (H.1 2) p what = (-2, 0) := by unfold S_at; rw [if_neg (by omega)]
    rw [e]
    exact ⟨rfl, rfl⟩
  · skip
    refine z_if_ne (pc := 5) (tgt := 15) dX10_at_5 (by decide) (by decide) (by decide) (fun h => absurd h (by decide)) (fun _ => ?_)
    refine x_aload_n (pc := 8) dX10_at_8 (List.Mem.head _) ?_
    refine z_bipush (pc := 9) dX10_at_9 bp_m2 ?_
    refine z_callVip (pc := 11) (i := mX10_refuse) (S := []) [.int (zN ((-2)))] dX10_at_11 ml_X10_97 ok_X10_refuse rfl sh_20 rfl (Or.inl rfl) (Nat.le_of_ble_eq_true rfl) (c_X10_refuse (d := d) (code := ((-2))) (code1 := (by omega)) (code2 := (by omega)) (ok := ok2) (cn := (by first | assumption | omega))) (fun r15a r15b ok16 => ?_)
    show Ev _ _ _ _ _ _ _ (eh (wI H 25 ((refIx ((-2)))) (H.1 25 (refIx ((-2))) + 1)))
    refine z_ireturn (pc := 14) dX10_at_14 rfl (Or.inl rfl) ok16 (by omega) (by omega) ?_
    have e : S_at (H.1 2) p what = (-2, 0) := by unfold S_at; rw [if_neg (by omega)]
    rw [e]
    exact ⟨rfl, rfl⟩

theorem c_X11_at {d : Nat} {H : ZH} (ok : okZ H) {p what : Int} (p1 : -2147483648 ≤ p) (p2 : p ≤ 2147483647) (what1 : -2147483648 ≤ what) (what2 : what ≤ 2147483647) (cm : cntOK H 1) (th : H.1 0 0 = 0) (wp : WFP (H.1 2)) : EvC zX (d + 3) mX11_at [.ref 0, .int (zN (p)), .int (zN (what))] (eh H) (zPi (fun (r : Int) (H1 : ZH) => r = (S_at (H.1 2) p what).1 ∧ H1 = bumpM (S_at (H.1 2) p what).2 H)) := by
  show _ ∧ Ev zX mX11_at (EvC zX (d + 2)) (zPi (fun (r : Int) (H1 : ZH) => r = (S_at (H.1 2) p what).1 ∧ H1 = bumpM (S_at (H.1 2) p what).2 H)) 0 [(0, .ref 0), (1, .int (zN (p))), (2, .int (zN (what)))] [] (eh H)
  refine ⟨Nat.le_of_ble_eq_true rfl, ?_⟩
  have wpx := wp
  obtain ⟨wpA, wpB, wpC⟩ := wpx
  refine x_aload_n (pc := 0) dX11_at_0 (List.Mem.head _) ?_
  refine z_iconst (pc := 1) dX11_at_1 ?_
  refine z_putI (pc := 2) (k := 0) dX11_at_2 lp_X11_1 sh_0 rfl ?_
  have ok1 := okI ok 0 0 (v := 0) (by decide) (by decide)
  rw [wI_same th]
  refine x_aload_n (pc := 5) dX11_at_5 (List.Mem.head _) ?_
  refine x_iload_n (pc := 6) dX11_at_6 (List.Mem.tail _ (List.Mem.head _)) ?_
  refine z_callVbp (pc := 7) (i := mX11_isPlace) (S := []) [.int (zN (p))] dX11_at_7 ml_X11_316 ok_X11_isPlace rfl sh_0 rfl (Or.inr rfl) (Nat.le_of_ble_eq_true rfl) (c_X11_isPlace (d := d) (a := p) (a1 := (by omega)) (a2 := (by omega)) (ok := ok) (wp := (by first | assumption | omega))) (fun hc4 ok3 => ?_) (fun hc4 ok3 => ?_)
  · skip
    refine z_if_eq (pc := 10) (tgt := 25) dX11_at_10 (by decide) (by decide) (by decide) (fun h => absurd h (by decide)) (fun _ => ?_)
    refine x_iload_n (pc := 13) dX11_at_13 (List.Mem.tail _ (List.Mem.tail _ (List.Mem.head _))) ?_
    refine z_i2l (pc := 14) dX11_at_14 (by omega) (by omega) ?_
    refine z_lconst (pc := 15) 0 dX11_at_15 rfl ?_
    refine z_ldc2_w (pc := 16) 5 dX11_at_16 cl_X11_172 (by decide) ?_
    refine z_callSbp (pc := 19) (i := mX11_within) (S := []) [.long (zL (what)), .long (zL (0)), .long (zL (5))] dX11_at_19 ml_X11_152 ok_X11_within rfl (Or.inr rfl) (Nat.le_of_ble_eq_true rfl) (c_X11_within (d := d + 1) (v := what) (lo := 0) (hi := 5) (v1 := (by omega)) (v2 := (by omega)) (lo1 := (by omega)) (lo2 := (by omega)) (hi1 := (by omega)) (hi2 := (by omega)) (ok := ok3)) (fun hc8 ok7 => ?_) (fun hc8 ok7 => ?_)
    · skip
      refine z_if_ne (pc := 22) (tgt := 32) dX11_at_22 (by decide) (by decide) (by decide) (fun _ => ?_) (fun h => absurd h (by decide))
      refine x_aload_n (pc := 32) dX11_at_32 (List.Mem.head _) ?_
      refine z_getR (pc := 33) (k := 2) (r := 2) dX11_at_33 lf_X11_17 sh_0 rfl rf_0_2 ?_
      refine z_sipush (pc := 36) dX11_at_36 sp_478 ?_
      refine z_bipush (pc := 39) dX11_at_39 bp_12 ?_
      refine x_iload_n (pc := 41) dX11_at_41 (List.Mem.tail _ (List.Mem.tail _ (List.Mem.head _))) ?_
      refine z_imul (pc := 42) dX11_at_42 ?_
      refine z_iadd (pc := 43) dX11_at_43 ?_
      refine x_iload_n (pc := 44) dX11_at_44 (List.Mem.tail _ (List.Mem.head _)) ?_
      refine z_iadd (pc := 45) dX11_at_45 ?_
      have rd10 := ok7.1 2 (478 + 12 * what.toNat + p.toNat)
      refine z_iald (pc := 46) (j := 478 + 12 * what.toNat + p.toNat) (v := H.1 2 (478 + 12 * what.toNat + p.toNat)) dX11_at_46 sh_2 (by omega) (by omega) (by decide) rfl ?_
      refine z_ireturn (pc := 47) dX11_at_47 rfl (Or.inl rfl) ok7 (by omega) (by omega) ?_
      have e : S_at (H.1 2) p what = (H.1 2 (478 + 12 * what.toNat + p.toNat), 6) := by unfold S_at; rw [if_pos (by omega)]
      rw [e]
      exact ⟨rfl, rfl⟩
    · skip
      refine z_if_ne (pc := 22) (tgt := 32) dX11_at_22 (by decide) (by decide) (by decide) (fun h => absurd h (by decide)) (fun _ => ?_)
      refine x_aload_n (pc := 25) dX11_at_25 (List.Mem.head _) ?_
      refine z_bipush (pc := 26) dX11_at_26 bp_m2 ?_
      refine z_callVip (pc := 28) (i := mX11_no) (S := []) [.int (zN ((-2)))] dX11_at_28 ml_X11_89 ok_X11_no rfl sh_0 rfl (Or.inl rfl) (Nat.le_of_ble_eq_true rfl) (c_X11_no (d := d + 1) (code := ((-2))) (code1 := (by omega)) (code2 := (by omega)) (ok := ok7) (cn := (by first | assumption | omega))) (fun r12a r12b ok13 => ?_)
      show Ev _ _ _ _ _ _ _ (eh (wI H 1 ((refIx ((-2)))) (H.1 1 (refIx ((-2))) + 1)))
      refine z_ireturn (pc := 31) dX11_at_31 rfl (Or.inl rfl) ok13 (by omega) (by omega) ?_
      have e : S_at (H.1 2) p what = (-2, 0) := by unfold S_at; rw [if_neg (by omega)]
      rw [e]
      exact ⟨rfl, rfl⟩
  · skip
    refine z_if_eq (pc := 10) (tgt := 25) dX11_at_10 (by decide) (by decide) (by decide) (fun _ => ?_) (fun h => absurd h (by decide))
    refine x_aload_n (pc := 25) dX11_at_25 (List.Mem.head _) ?_
    refine z_bipush (pc := 26) dX11_at_26 bp_m2 ?_
    refine z_callVip (pc := 28) (i := mX11_no) (S := []) [.int (zN ((-2)))] dX11_at_28 ml_X11_89 ok_X11_no rfl sh_0 rfl (Or.inl rfl) (Nat.le_of_ble_eq_true rfl) (c_X11_no (d := d + 1) (code := ((-2))) (code1 := (by omega)) (code2 := (by omega)) (ok := ok3) (cn := (by first | assumption | omega))) (fun r15a r15b ok16 => ?_)
    show Ev _ _ _ _ _ _ _ (eh (wI H 1 ((refIx ((-2)))) (H.1 1 (refIx ((-2))) + 1)))
    refine z_ireturn (pc := 31) dX11_at_31 rfl (Or.inl rfl) ok16 (by omega) (by omega) ?_
    have e : S_at (H.1 2) p what = (-2, 0) := by unfold S_at; rw [if_neg (by omega)]
    rw [e]
    exact ⟨rfl, rfl⟩

theorem c_X10_rate {d : Nat} {H : ZH} (ok : okZ H) {w what : Int} (w01 : w = 0 ∨ w = 1) (what1 : -2147483648 ≤ what) (what2 : what ≤ 2147483647) (cn : cntOK H 25) (wp : WFP (H.1 2)) (rp : RepP H) : EvC zX (d + 2) mX10_rate [.ref 20, .int (zN (w)), .int (zN (what))] (eh H) (zPi (fun (r : Int) (H1 : ZH) => r = (S_rate (H.1 2) w what).1 ∧ H1 = bumpC (S_rate (H.1 2) w what).2 H)) := by
  show _ ∧ Ev zX mX10_rate (EvC zX (d + 1)) (zPi (fun (r : Int) (H1 : ZH) => r = (S_rate (H.1 2) w what).1 ∧ H1 = bumpC (S_rate (H.1 2) w what).2 H)) 0 [(0, .ref 20), (1, .int (zN (w))), (2, .int (zN (what)))] [] (eh H)
  refine ⟨Nat.le_of_ble_eq_true rfl, ?_⟩
  have wpx := wp
  obtain ⟨wpA, wpB, wpC⟩ := wpx
  have rpx := rp
  obtain ⟨rpA, rpB, rpC⟩ := rpx
  have sm := psums12 wp w
  have sw := psums wp w
  unfold rhurt rcros at sm
  refine x_iload_n (pc := 0) dX10_rate_0 (List.Mem.tail _ (List.Mem.tail _ (List.Mem.head _))) ?_
  refine z_if_lt (pc := 1) (tgt := 9) dX10_rate_1 (by decide) (by omega) (by omega) (fun hb1 => ?_) (fun hb1 => ?_)
  · skip
    refine x_aload_n (pc := 9) dX10_rate_9 (List.Mem.head _) ?_
    refine z_bipush (pc := 10) dX10_rate_10 bp_m2 ?_
    refine z_callVip (pc := 12) (i := mX10_refuse) (S := []) [.int (zN ((-2)))] dX10_rate_12 ml_X10_97 ok_X10_refuse rfl sh_20 rfl (Or.inl rfl) (Nat.le_of_ble_eq_true rfl) (c_X10_refuse (d := d) (code := ((-2))) (code1 := (by omega)) (code2 := (by omega)) (ok := ok) (cn := (by first | assumption | omega))) (fun r2a r2b ok3 => ?_)
    show Ev _ _ _ _ _ _ _ (eh (wI H 25 ((refIx ((-2)))) (H.1 25 (refIx ((-2))) + 1)))
    refine z_ireturn (pc := 15) dX10_rate_15 rfl (Or.inl rfl) ok3 (by omega) (by omega) ?_
    have e : S_rate (H.1 2) w what = (-2, 0) := by unfold S_rate; rw [if_neg (by omega)]
    rw [e]
    exact ⟨rfl, rfl⟩
  · skip
    refine x_iload_n (pc := 4) dX10_rate_4 (List.Mem.tail _ (List.Mem.tail _ (List.Mem.head _))) ?_
    refine z_iconst (pc := 5) dX10_rate_5 ?_
    refine z_icmp_le (pc := 6) (tgt := 16) dX10_rate_6 (by decide) (by omega) (by omega) (by decide) (by decide) (fun hb4 => ?_) (fun hb4 => ?_)
    · skip
      refine x_aload_n (pc := 16) dX10_rate_16 (List.Mem.head _) ?_
      refine z_getR (pc := 17) (k := 3) (r := 98) dX10_rate_17 lf_X10_23 sh_20 rfl rf_20_3 ?_
      refine z_getR (pc := 20) (k := 2) (r := 71) dX10_rate_20 lf_X10_293 sh_98 rfl rf_98_2 ?_
      refine x_astore_n (pc := 23) dX10_rate_23 (Nat.le_of_ble_eq_true rfl) ?_
      show Ev _ _ _ _ _ [(3, .ref 71), (0, .ref 20), (1, .int (zN (w))), (2, .int (zN (what)))] _ _
      refine x_aload_n (pc := 24) dX10_rate_24 (List.Mem.head _) ?_
      refine x_aload_n (pc := 25) dX10_rate_25 (List.Mem.head _) ?_
      refine z_getR (pc := 26) (k := 4) (r := 75) dX10_rate_26 lf_X10_318 sh_71 rfl rf_71_4 ?_
      refine x_iload_n (pc := 29) dX10_rate_29 (List.Mem.tail _ (List.Mem.tail _ (List.Mem.head _))) ?_
      refine z_callVip (pc := 30) (i := mX2_sumOf) (S := []) [.ref 75, .int (zN (w))] dX10_rate_30 ml_X10_330 ok_X2_sumOf rfl sh_71 rfl (Or.inl rfl) (Nat.le_of_ble_eq_true rfl) (c_X2_sumOf (d := d) (c := 75) (fr := 514) (b := w) (b01 := (by omega)) (ok := ok) (sh := sh_75) (wp := (by first | assumption | omega)) (rp := (by first | assumption | omega)) (hc := (fun p hp => by have := wpB p hp; have := rpB p hp; omega))) (fun r5a r5b ok6 => ?_)
      refine x_aload_n (pc := 33) dX10_rate_33 (List.Mem.head _) ?_
      refine x_aload_n (pc := 34) dX10_rate_34 (List.Mem.head _) ?_
      refine z_getR (pc := 35) (k := 5) (r := 76) dX10_rate_35 lf_X10_321 sh_71 rfl rf_71_5 ?_
      refine x_iload_n (pc := 38) dX10_rate_38 (List.Mem.tail _ (List.Mem.tail _ (List.Mem.head _))) ?_
      refine z_callVip (pc := 39) (i := mX2_sumOf) (S := [.int (zN ((psum (H.1 2) 514 w (H.1 2 477).toNat)))]) [.ref 76, .int (zN (w))] dX10_rate_39 ml_X10_330 ok_X2_sumOf rfl sh_71 rfl (Or.inl rfl) (Nat.le_of_ble_eq_true rfl) (c_X2_sumOf (d := d) (c := 76) (fr := 526) (b := w) (b01 := (by omega)) (ok := ok6) (sh := sh_76) (wp := (by first | assumption | omega)) (rp := (by first | assumption | omega)) (hc := (fun p hp => by have := wpB p hp; have := rpB p hp; omega))) (fun r7a r7b ok8 => ?_)
      refine z_iadd (pc := 42) dX10_rate_42 ?_
      refine x_istore (pc := 43) dX10_rate_43 (Nat.le_of_ble_eq_true rfl) ?_
      show Ev _ _ _ _ _ [(4, .int (zN (((psum (H.1 2) 514 w (H.1 2 477).toNat) + (psum (H.1 2) 526 w (H.1 2 477).toNat))))), (3, .ref 71), (0, .ref 20), (1, .int (zN (w))), (2, .int (zN (what)))] _ _
      refine x_aload_n (pc := 45) dX10_rate_45 (List.Mem.tail _ (List.Mem.head _)) ?_
      refine x_aload_n (pc := 46) dX10_rate_46 (List.Mem.tail _ (List.Mem.head _)) ?_
      refine z_getR (pc := 47) (k := 2) (r := 73) dX10_rate_47 lf_X10_312 sh_71 rfl rf_71_2 ?_
      refine x_iload_n (pc := 50) dX10_rate_50 (List.Mem.tail _ (List.Mem.tail _ (List.Mem.tail _ (List.Mem.head _)))) ?_
      refine z_callVip (pc := 51) (i := mX2_sumOf) (S := []) [.ref 73, .int (zN (w))] dX10_rate_51 ml_X10_330 ok_X2_sumOf rfl sh_71 rfl (Or.inl rfl) (Nat.le_of_ble_eq_true rfl) (c_X2_sumOf (d := d) (c := 73) (fr := 490) (b := w) (b01 := (by omega)) (ok := ok8) (sh := sh_73) (wp := (by first | assumption | omega)) (rp := (by first | assumption | omega)) (hc := (fun p hp => by have := wpB p hp; have := rpB p hp; omega))) (fun r9a r9b ok10 => ?_)
      refine x_aload_n (pc := 54) dX10_rate_54 (List.Mem.tail _ (List.Mem.head _)) ?_
      refine x_aload_n (pc := 55) dX10_rate_55 (List.Mem.tail _ (List.Mem.head _)) ?_
      refine z_getR (pc := 56) (k := 3) (r := 74) dX10_rate_56 lf_X10_315 sh_71 rfl rf_71_3 ?_
      refine x_iload_n (pc := 59) dX10_rate_59 (List.Mem.tail _ (List.Mem.tail _ (List.Mem.tail _ (List.Mem.head _)))) ?_
      refine z_callVip (pc := 60) (i := mX2_sumOf) (S := [.int (zN ((psum (H.1 2) 490 w (H.1 2 477).toNat)))]) [.ref 74, .int (zN (w))] dX10_rate_60 ml_X10_330 ok_X2_sumOf rfl sh_71 rfl (Or.inl rfl) (Nat.le_of_ble_eq_true rfl) (c_X2_sumOf (d := d) (c := 74) (fr := 502) (b := w) (b01 := (by omega)) (ok := ok10) (sh := sh_74) (wp := (by first | assumption | omega)) (rp := (by first | assumption | omega)) (hc := (fun p hp => by have := wpB p hp; have := rpB p hp; omega))) (fun r11a r11b ok12 => ?_)
      refine z_iadd (pc := 63) dX10_rate_63 ?_
      refine x_istore (pc := 64) dX10_rate_64 (Nat.le_of_ble_eq_true rfl) ?_
      show Ev _ _ _ _ _ [(5, .int (zN (((psum (H.1 2) 490 w (H.1 2 477).toNat) + (psum (H.1 2) 502 w (H.1 2 477).toNat))))), (4, .int (zN (((psum (H.1 2) 514 w (H.1 2 477).toNat) + (psum (H.1 2) 526 w (H.1 2 477).toNat))))), (3, .ref 71), (0, .ref 20), (1, .int (zN (w))), (2, .int (zN (what)))] _ _
      refine x_iload (pc := 66) dX10_rate_66 (List.Mem.head _) ?_
      refine z_if_ne (pc := 68) (tgt := 73) dX10_rate_68 (by decide) (by omega) (by omega) (fun hb13 => ?_) (fun hb13 => ?_)
      · skip
        have gp := gcd_bd (a := (psum (H.1 2) 514 w (H.1 2 477).toNat + psum (H.1 2) 526 w (H.1 2 477).toNat)) (b := (psum (H.1 2) 490 w (H.1 2 477).toNat + psum (H.1 2) 502 w (H.1 2 477).toNat)) (by omega)
        have gd0 := gcd_div_bd (a := (psum (H.1 2) 514 w (H.1 2 477).toNat + psum (H.1 2) 526 w (H.1 2 477).toNat)) (b := (psum (H.1 2) 490 w (H.1 2 477).toNat + psum (H.1 2) 502 w (H.1 2 477).toNat)) (x := (psum (H.1 2) 514 w (H.1 2 477).toNat + psum (H.1 2) 526 w (H.1 2 477).toNat)) (by omega) (by omega) (by omega)
        have gd1 := gcd_div_bd (a := (psum (H.1 2) 514 w (H.1 2 477).toNat + psum (H.1 2) 526 w (H.1 2 477).toNat)) (b := (psum (H.1 2) 490 w (H.1 2 477).toNat + psum (H.1 2) 502 w (H.1 2 477).toNat)) (x := (psum (H.1 2) 490 w (H.1 2 477).toNat + psum (H.1 2) 502 w (H.1 2 477).toNat)) (by omega) (by omega) (by omega)
        refine x_iload_n (pc := 73) dX10_rate_73 (List.Mem.tail _ (List.Mem.tail _ (List.Mem.tail _ (List.Mem.tail _ (List.Mem.tail _ (List.Mem.head _)))))) ?_
        refine z_if_ne (pc := 74) (tgt := 82) dX10_rate_74 (by decide) (by omega) (by omega) (fun hb14 => ?_) (fun hb14 => ?_)
        · skip
          refine x_iload (pc := 82) dX10_rate_82 (List.Mem.head _) ?_
          refine x_iload (pc := 84) dX10_rate_84 (List.Mem.tail _ (List.Mem.head _)) ?_
          refine z_i2l (pc := 86) dX10_rate_86 (by omega) (by omega) ?_
          refine x_iload (pc := 87) dX10_rate_87 (List.Mem.head _) ?_
          refine z_i2l (pc := 89) dX10_rate_89 (by omega) (by omega) ?_
          refine z_callSlp (pc := 90) (i := mX10_commonDivisor) (S := [.int (zN (((psum (H.1 2) 490 w (H.1 2 477).toNat) + (psum (H.1 2) 502 w (H.1 2 477).toNat))))]) [.long (zL (((psum (H.1 2) 514 w (H.1 2 477).toNat) + (psum (H.1 2) 526 w (H.1 2 477).toNat)))), .long (zL (((psum (H.1 2) 490 w (H.1 2 477).toNat) + (psum (H.1 2) 502 w (H.1 2 477).toNat))))] dX10_rate_90 ml_X10_269 ok_X10_commonDivisor rfl rfl (Nat.le_of_ble_eq_true rfl) (c_X10_commonDivisor (d := d) (a := (((psum (H.1 2) 514 w (H.1 2 477).toNat) + (psum (H.1 2) 526 w (H.1 2 477).toNat)))) (b := (((psum (H.1 2) 490 w (H.1 2 477).toNat) + (psum (H.1 2) 502 w (H.1 2 477).toNat)))) (a1 := (by omega)) (a2 := (by omega)) (b1 := (by omega)) (b2 := (by omega)) (ok := ok12)) (fun r15a r15b ok16 => ?_)
          refine z_l2i (pc := 93) dX10_rate_93 ?_
          refine z_idivP (pc := 94) dX10_rate_94 (by omega) (by omega) (by omega) (by omega) ?_
          refine z_ireturn (pc := 95) dX10_rate_95 rfl (Or.inl rfl) ok16 (by omega) (by omega) ?_
          have e : S_rate (H.1 2) w what = ((if rcros (H.1 2) w = 0 then what else (if what = 0 then rhurt (H.1 2) w else rcros (H.1 2) w) / ((Int.gcd (rhurt (H.1 2) w) (rcros (H.1 2) w) : Nat) : Int)), 6) := by unfold S_rate; rw [if_pos (by omega)]
          rw [e]
          refine ⟨?_, rfl⟩
          unfold rcros rhurt
          rw [if_neg (by omega)]
          first | rw [if_pos (by omega)] | rw [if_neg (by omega)]
        · skip
          refine x_iload (pc := 77) dX10_rate_77 (List.Mem.tail _ (List.Mem.head _)) ?_
          refine x_goto (pc := 79) (tgt := 84) dX10_rate_79 (by decide) ?_
          refine x_iload (pc := 84) dX10_rate_84 (List.Mem.tail _ (List.Mem.head _)) ?_
          refine z_i2l (pc := 86) dX10_rate_86 (by omega) (by omega) ?_
          refine x_iload (pc := 87) dX10_rate_87 (List.Mem.head _) ?_
          refine z_i2l (pc := 89) dX10_rate_89 (by omega) (by omega) ?_
          refine z_callSlp (pc := 90) (i := mX10_commonDivisor) (S := [.int (zN (((psum (H.1 2) 514 w (H.1 2 477).toNat) + (psum (H.1 2) 526 w (H.1 2 477).toNat))))]) [.long (zL (((psum (H.1 2) 514 w (H.1 2 477).toNat) + (psum (H.1 2) 526 w (H.1 2 477).toNat)))), .long (zL (((psum (H.1 2) 490 w (H.1 2 477).toNat) + (psum (H.1 2) 502 w (H.1 2 477).toNat))))] dX10_rate_90 ml_X10_269 ok_X10_commonDivisor rfl rfl (Nat.le_of_ble_eq_true rfl) (c_X10_commonDivisor (d := d) (a := (((psum (H.1 2) 514 w (H.1 2 477).toNat) + (psum (H.1 2) 526 w (H.1 2 477).toNat)))) (b := (((psum (H.1 2) 490 w (H.1 2 477).toNat) + (psum (H.1 2) 502 w (H.1 2 477).toNat)))) (a1 := (by omega)) (a2 := (by omega)) (b1 := (by omega)) (b2 := (by omega)) (ok := ok12)) (fun r17a r17b ok18 => ?_)
          refine z_l2i (pc := 93) dX10_rate_93 ?_
          refine z_idivP (pc := 94) dX10_rate_94 (by omega) (by omega) (by omega) (by omega) ?_
          refine z_ireturn (pc := 95) dX10_rate_95 rfl (Or.inl rfl) ok18 (by omega) (by omega) ?_
          have e : S_rate (H.1 2) w what = ((if rcros (H.1 2) w = 0 then what else (if what = 0 then rhurt (H.1 2) w else rcros (H.1 2) w) / ((Int.gcd (rhurt (H.1 2) w) (rcros (H.1 2) w) : Nat) : Int)), 6) := by unfold S_rate; rw [if_pos (by omega)]
          rw [e]
          refine ⟨?_, rfl⟩
          unfold rcros rhurt
          rw [if_neg (by omega)]
          first | rw [if_pos (by omega)] | rw [if_neg (by omega)]
      · skip
        refine x_iload_n (pc := 71) dX10_rate_71 (List.Mem.tail _ (List.Mem.tail _ (List.Mem.tail _ (List.Mem.tail _ (List.Mem.tail _ (List.Mem.head _)))))) ?_
        refine z_ireturn (pc := 72) dX10_rate_72 rfl (Or.inl rfl) ok12 (by omega) (by omega) ?_
        have e : S_rate (H.1 2) w what = ((if rcros (H.1 2) w = 0 then what else (if what = 0 then rhurt (H.1 2) w else rcros (H.1 2) w) / ((Int.gcd (rhurt (H.1 2) w) (rcros (H.1 2) w) : Nat) : Int)), 6) := by unfold S_rate; rw [if_pos (by omega)]
        rw [e]
        exact ⟨(if_pos (by unfold rcros; omega)).symm, rfl⟩
    · skip
      refine x_aload_n (pc := 9) dX10_rate_9 (List.Mem.head _) ?_
      refine z_bipush (pc := 10) dX10_rate_10 bp_m2 ?_
      refine z_callVip (pc := 12) (i := mX10_refuse) (S := []) [.int (zN ((-2)))] dX10_rate_12 ml_X10_97 ok_X10_refuse rfl sh_20 rfl (Or.inl rfl) (Nat.le_of_ble_eq_true rfl) (c_X10_refuse (d := d) (code := ((-2))) (code1 := (by omega)) (code2 := (by omega)) (ok := ok) (cn := (by first | assumption | omega))) (fun r19a r19b ok20 => ?_)
      show Ev _ _ _ _ _ _ _ (eh (wI H 25 ((refIx ((-2)))) (H.1 25 (refIx ((-2))) + 1)))
      refine z_ireturn (pc := 15) dX10_rate_15 rfl (Or.inl rfl) ok20 (by omega) (by omega) ?_
      have e : S_rate (H.1 2) w what = (-2, 0) := by unfold S_rate; rw [if_neg (by omega)]
      rw [e]
      exact ⟨rfl, rfl⟩

theorem c_X10_parted {d : Nat} {H : ZH} (ok : okZ H)  (wp : WFP (H.1 2)) (rp : RepP H) : EvC zX (d + 3) mX10_parted [.ref 20] (eh H) (zPi (fun (rz : Int) (Hz : ZH) => rz = (S_parted (H.1 2)) ∧ Hz = H)) := by
  show _ ∧ Ev zX mX10_parted (EvC zX (d + 2)) (zPi (fun (rz : Int) (Hz : ZH) => rz = (S_parted (H.1 2)) ∧ Hz = H)) 0 [(0, .ref 20)] [] (eh H)
  refine ⟨Nat.le_of_ble_eq_true rfl, ?_⟩
  have wpx := wp
  obtain ⟨wpA, wpB, wpC⟩ := wpx
  have rpx := rp
  obtain ⟨rpA, rpB, rpC⟩ := rpx
  have p1 := (pab_bd wp 1).2.2.2.2
  have p0 := (pab_bd wp 0).2.2.2.2
  have q1 := nn2 (x := pab (H.1 2) 1 (H.1 2 477).toNat) (y := pbe (H.1 2) 0 (H.1 2 477).toNat) (A := 93312000000) (B := 12960000) (by omega) (by omega) (by omega) (by omega)
  have q0 := nn2 (x := pab (H.1 2) 0 (H.1 2 477).toNat) (y := pbe (H.1 2) 1 (H.1 2 477).toNat) (A := 93312000000) (B := 12960000) (by omega) (by omega) (by omega) (by omega)
  refine x_aload_n (pc := 0) dX10_parted_0 (List.Mem.head _) ?_
  refine z_getR (pc := 1) (k := 3) (r := 98) dX10_parted_1 lf_X10_23 sh_20 rfl rf_20_3 ?_
  refine z_getR (pc := 4) (k := 2) (r := 71) dX10_parted_4 lf_X10_293 sh_98 rfl rf_98_2 ?_
  refine x_astore_n (pc := 7) dX10_parted_7 (Nat.le_of_ble_eq_true rfl) ?_
  show Ev _ _ _ _ _ [(1, .ref 71), (0, .ref 20)] _ _
  refine x_aload_n (pc := 8) dX10_parted_8 (List.Mem.head _) ?_
  refine z_iconst (pc := 9) dX10_parted_9 ?_
  refine z_callVlp (pc := 10) (i := mX2_partedAbove) (S := []) [.int (zN (1))] dX10_parted_10 ml_X10_334 ok_X2_partedAbove rfl sh_71 rfl rfl (Nat.le_of_ble_eq_true rfl) (c_X2_partedAbove (d := d) (b := 1) (b01 := (by omega)) (ok := ok) (wp := (by first | assumption | omega)) (rp := (by first | assumption | omega))) (fun r1a r1b ok2 => ?_)
  refine x_aload_n (pc := 13) dX10_parted_13 (List.Mem.head _) ?_
  refine z_iconst (pc := 14) dX10_parted_14 ?_
  refine z_callVlp (pc := 15) (i := mX2_partedBelow) (S := [.long (zL ((pab (H.1 2) 1 (H.1 2 477).toNat)))]) [.int (zN (0))] dX10_parted_15 ml_X10_338 ok_X2_partedBelow rfl sh_71 rfl rfl (Nat.le_of_ble_eq_true rfl) (c_X2_partedBelow (d := d) (b := 0) (b01 := (by omega)) (ok := ok2) (wp := (by first | assumption | omega)) (rp := (by first | assumption | omega))) (fun r3a r3b ok4 => ?_)
  refine z_lmul (pc := 18) dX10_parted_18 ?_
  refine x_lstore_n (pc := 19) dX10_parted_19 (Nat.le_of_ble_eq_true rfl) ?_
  show Ev _ _ _ _ _ [(2, .long (zL (((pab (H.1 2) 1 (H.1 2 477).toNat) * (pbe (H.1 2) 0 (H.1 2 477).toNat))))), (1, .ref 71), (0, .ref 20)] _ _
  refine x_aload_n (pc := 20) dX10_parted_20 (List.Mem.tail _ (List.Mem.head _)) ?_
  refine z_iconst (pc := 21) dX10_parted_21 ?_
  refine z_callVlp (pc := 22) (i := mX2_partedAbove) (S := []) [.int (zN (0))] dX10_parted_22 ml_X10_334 ok_X2_partedAbove rfl sh_71 rfl rfl (Nat.le_of_ble_eq_true rfl) (c_X2_partedAbove (d := d) (b := 0) (b01 := (by omega)) (ok := ok4) (wp := (by first | assumption | omega)) (rp := (by first | assumption | omega))) (fun r5a r5b ok6 => ?_)
  refine x_aload_n (pc := 25) dX10_parted_25 (List.Mem.tail _ (List.Mem.head _)) ?_
  refine z_iconst (pc := 26) dX10_parted_26 ?_
  refine z_callVlp (pc := 27) (i := mX2_partedBelow) (S := [.long (zL ((pab (H.1 2) 0 (H.1 2 477).toNat)))]) [.int (zN (1))] dX10_parted_27 ml_X10_338 ok_X2_partedBelow rfl sh_71 rfl rfl (Nat.le_of_ble_eq_true rfl) (c_X2_partedBelow (d := d) (b := 1) (b01 := (by omega)) (ok := ok6) (wp := (by first | assumption | omega)) (rp := (by first | assumption | omega))) (fun r7a r7b ok8 => ?_)
  refine z_lmul (pc := 30) dX10_parted_30 ?_
  refine x_lstore (pc := 31) dX10_parted_31 (Nat.le_of_ble_eq_true rfl) ?_
  show Ev _ _ _ _ _ [(4, .long (zL (((pab (H.1 2) 0 (H.1 2 477).toNat) * (pbe (H.1 2) 1 (H.1 2 477).toNat))))), (2, .long (zL (((pab (H.1 2) 1 (H.1 2 477).toNat) * (pbe (H.1 2) 0 (H.1 2 477).toNat))))), (1, .ref 71), (0, .ref 20)] _ _
  refine x_lload_n (pc := 33) dX10_parted_33 (List.Mem.tail _ (List.Mem.head _)) ?_
  refine x_lload (pc := 34) dX10_parted_34 (List.Mem.head _) ?_
  refine z_lcmp_ne (pc := 36) (tgt := 42) dX10_parted_36 dX10_parted_37 (by decide) (by omega) (by omega) (by omega) (by omega) (fun hb9 => ?_) (fun hb9 => ?_)
  · skip
    refine x_lload_n (pc := 42) dX10_parted_42 (List.Mem.tail _ (List.Mem.head _)) ?_
    refine x_lload (pc := 43) dX10_parted_43 (List.Mem.head _) ?_
    refine z_lcmp_le (pc := 45) (tgt := 53) dX10_parted_45 dX10_parted_46 (by decide) (by omega) (by omega) (by omega) (by omega) (fun hb10 => ?_) (fun hb10 => ?_)
    · skip
      refine z_iconst (pc := 53) dX10_parted_53 ?_
      refine z_ireturn (pc := 54) dX10_parted_54 rfl (Or.inl rfl) ok8 (by decide) (by decide) ?_
      refine ⟨?_, rfl⟩
      unfold S_parted
      (repeat' split) <;> omega
    · skip
      refine z_iconst (pc := 49) dX10_parted_49 ?_
      refine x_goto (pc := 50) (tgt := 54) dX10_parted_50 (by decide) ?_
      refine z_ireturn (pc := 54) dX10_parted_54 rfl (Or.inl rfl) ok8 (by decide) (by decide) ?_
      refine ⟨?_, rfl⟩
      unfold S_parted
      (repeat' split) <;> omega
  · skip
    refine z_iconst (pc := 40) dX10_parted_40 ?_
    refine z_ireturn (pc := 41) dX10_parted_41 rfl (Or.inl rfl) ok8 (by decide) (by decide) ?_
    refine ⟨?_, rfl⟩
    unfold S_parted
    (repeat' split) <;> omega

theorem c_X11_parted {d : Nat} {H : ZH} (ok : okZ H)  (th : H.1 0 0 = 0) (wp : WFP (H.1 2)) : EvC zX (d + 3) mX11_parted [.ref 0] (eh H) (zPi (fun (rz : Int) (Hz : ZH) => rz = (S_parted (H.1 2)) ∧ Hz = H)) := by
  show _ ∧ Ev zX mX11_parted (EvC zX (d + 2)) (zPi (fun (rz : Int) (Hz : ZH) => rz = (S_parted (H.1 2)) ∧ Hz = H)) 0 [(0, .ref 0)] [] (eh H)
  refine ⟨Nat.le_of_ble_eq_true rfl, ?_⟩
  have wpx := wp
  obtain ⟨wpA, wpB, wpC⟩ := wpx
  have p1 := (pab_bd wp 1).2.2.2.2
  have p0 := (pab_bd wp 0).2.2.2.2
  have q1 := nn2 (x := pab (H.1 2) 1 (H.1 2 477).toNat) (y := pbe (H.1 2) 0 (H.1 2 477).toNat) (A := 93312000000) (B := 12960000) (by omega) (by omega) (by omega) (by omega)
  have q0 := nn2 (x := pab (H.1 2) 0 (H.1 2 477).toNat) (y := pbe (H.1 2) 1 (H.1 2 477).toNat) (A := 93312000000) (B := 12960000) (by omega) (by omega) (by omega) (by omega)
  refine x_aload_n (pc := 0) dX11_parted_0 (List.Mem.head _) ?_
  refine z_iconst (pc := 1) dX11_parted_1 ?_
  refine z_putI (pc := 2) (k := 0) dX11_parted_2 lp_X11_1 sh_0 rfl ?_
  have ok1 := okI ok 0 0 (v := 0) (by decide) (by decide)
  rw [wI_same th]
  refine x_aload_n (pc := 5) dX11_parted_5 (List.Mem.head _) ?_
  refine z_iconst (pc := 6) dX11_parted_6 ?_
  refine z_callVlp (pc := 7) (i := mX11_partedAbove) (S := []) [.int (zN (1))] dX11_parted_7 ml_X11_325 ok_X11_partedAbove rfl sh_0 rfl rfl (Nat.le_of_ble_eq_true rfl) (c_X11_partedAbove (d := d) (w := 1) (w01 := (by omega)) (ok := ok) (wp := (by first | assumption | omega))) (fun r2a r2b ok3 => ?_)
  refine x_aload_n (pc := 10) dX11_parted_10 (List.Mem.head _) ?_
  refine z_iconst (pc := 11) dX11_parted_11 ?_
  refine z_callVlp (pc := 12) (i := mX11_partedBelow) (S := [.long (zL ((pab (H.1 2) 1 (H.1 2 477).toNat)))]) [.int (zN (0))] dX11_parted_12 ml_X11_328 ok_X11_partedBelow rfl sh_0 rfl rfl (Nat.le_of_ble_eq_true rfl) (c_X11_partedBelow (d := d) (w := 0) (w01 := (by omega)) (ok := ok3) (wp := (by first | assumption | omega))) (fun r4a r4b ok5 => ?_)
  refine z_lmul (pc := 15) dX11_parted_15 ?_
  refine x_lstore_n (pc := 16) dX11_parted_16 (Nat.le_of_ble_eq_true rfl) ?_
  show Ev _ _ _ _ _ [(1, .long (zL (((pab (H.1 2) 1 (H.1 2 477).toNat) * (pbe (H.1 2) 0 (H.1 2 477).toNat))))), (0, .ref 0)] _ _
  refine x_aload_n (pc := 17) dX11_parted_17 (List.Mem.tail _ (List.Mem.head _)) ?_
  refine z_iconst (pc := 18) dX11_parted_18 ?_
  refine z_callVlp (pc := 19) (i := mX11_partedAbove) (S := []) [.int (zN (0))] dX11_parted_19 ml_X11_325 ok_X11_partedAbove rfl sh_0 rfl rfl (Nat.le_of_ble_eq_true rfl) (c_X11_partedAbove (d := d) (w := 0) (w01 := (by omega)) (ok := ok5) (wp := (by first | assumption | omega))) (fun r6a r6b ok7 => ?_)
  refine x_aload_n (pc := 22) dX11_parted_22 (List.Mem.tail _ (List.Mem.head _)) ?_
  refine z_iconst (pc := 23) dX11_parted_23 ?_
  refine z_callVlp (pc := 24) (i := mX11_partedBelow) (S := [.long (zL ((pab (H.1 2) 0 (H.1 2 477).toNat)))]) [.int (zN (1))] dX11_parted_24 ml_X11_328 ok_X11_partedBelow rfl sh_0 rfl rfl (Nat.le_of_ble_eq_true rfl) (c_X11_partedBelow (d := d) (w := 1) (w01 := (by omega)) (ok := ok7) (wp := (by first | assumption | omega))) (fun r8a r8b ok9 => ?_)
  refine z_lmul (pc := 27) dX11_parted_27 ?_
  refine x_lstore_n (pc := 28) dX11_parted_28 (Nat.le_of_ble_eq_true rfl) ?_
  show Ev _ _ _ _ _ [(3, .long (zL (((pab (H.1 2) 0 (H.1 2 477).toNat) * (pbe (H.1 2) 1 (H.1 2 477).toNat))))), (1, .long (zL (((pab (H.1 2) 1 (H.1 2 477).toNat) * (pbe (H.1 2) 0 (H.1 2 477).toNat))))), (0, .ref 0)] _ _
  refine x_lload_n (pc := 29) dX11_parted_29 (List.Mem.tail _ (List.Mem.head _)) ?_
  refine x_lload_n (pc := 30) dX11_parted_30 (List.Mem.head _) ?_
  refine z_lcmp_le (pc := 31) (tgt := 39) dX11_parted_31 dX11_parted_32 (by decide) (by omega) (by omega) (by omega) (by omega) (fun hb10 => ?_) (fun hb10 => ?_)
  · skip
    refine x_lload_n (pc := 39) dX11_parted_39 (List.Mem.tail _ (List.Mem.head _)) ?_
    refine x_lload_n (pc := 40) dX11_parted_40 (List.Mem.head _) ?_
    refine z_lcmp_ne (pc := 41) (tgt := 49) dX11_parted_41 dX11_parted_42 (by decide) (by omega) (by omega) (by omega) (by omega) (fun hb11 => ?_) (fun hb11 => ?_)
    · skip
      refine z_iconst (pc := 49) dX11_parted_49 ?_
      refine z_ireturn (pc := 50) dX11_parted_50 rfl (Or.inl rfl) ok9 (by decide) (by decide) ?_
      refine ⟨?_, rfl⟩
      unfold S_parted
      (repeat' split) <;> omega
    · skip
      refine z_iconst (pc := 45) dX11_parted_45 ?_
      refine x_goto (pc := 46) (tgt := 50) dX11_parted_46 (by decide) ?_
      refine z_ireturn (pc := 50) dX11_parted_50 rfl (Or.inl rfl) ok9 (by decide) (by decide) ?_
      refine ⟨?_, rfl⟩
      unfold S_parted
      (repeat' split) <;> omega
  · skip
    refine z_iconst (pc := 35) dX11_parted_35 ?_
    refine x_goto (pc := 36) (tgt := 50) dX11_parted_36 (by decide) ?_
    refine z_ireturn (pc := 50) dX11_parted_50 rfl (Or.inl rfl) ok9 (by decide) (by decide) ?_
    refine ⟨?_, rfl⟩
    unfold S_parted
    (repeat' split) <;> omega

theorem c_X10_worst {d : Nat} {H : ZH} (ok : okZ H) {k what : Int} (k1 : -2147483648 ≤ k) (k2 : k ≤ 2147483647) (what1 : -2147483648 ≤ what) (what2 : what ≤ 2147483647) (cn : cntOK H 25) (wp : WFP (H.1 2)) (rp : RepP H) : EvC zX (d + 4) mX10_worst [.ref 20, .int (zN (k)), .int (zN (what))] (eh H) (zPi (fun (r : Int) (H1 : ZH) => r = (S_worst (H.1 2) k what).1 ∧ H1 = bumpC (S_worst (H.1 2) k what).2 H)) := by
  show _ ∧ Ev zX mX10_worst (EvC zX (d + 3)) (zPi (fun (r : Int) (H1 : ZH) => r = (S_worst (H.1 2) k what).1 ∧ H1 = bumpC (S_worst (H.1 2) k what).2 H)) 0 [(0, .ref 20), (1, .int (zN (k))), (2, .int (zN (what)))] [] (eh H)
  refine ⟨Nat.le_of_ble_eq_true rfl, ?_⟩
  have wpx := wp
  obtain ⟨wpA, wpB, wpC⟩ := wpx
  have rpx := rp
  obtain ⟨rpA, rpB, rpC⟩ := rpx
  refine x_aload_n (pc := 0) dX10_worst_0 (List.Mem.head _) ?_
  refine z_getR (pc := 1) (k := 3) (r := 98) dX10_worst_1 lf_X10_23 sh_20 rfl rf_20_3 ?_
  refine z_getR (pc := 4) (k := 2) (r := 71) dX10_worst_4 lf_X10_293 sh_98 rfl rf_98_2 ?_
  refine x_astore_n (pc := 7) dX10_worst_7 (Nat.le_of_ble_eq_true rfl) ?_
  show Ev _ _ _ _ _ [(3, .ref 71), (0, .ref 20), (1, .int (zN (k))), (2, .int (zN (what)))] _ _
  refine x_iload_n (pc := 8) dX10_worst_8 (List.Mem.tail _ (List.Mem.tail _ (List.Mem.head _))) ?_
  refine x_aload_n (pc := 9) dX10_worst_9 (List.Mem.head _) ?_
  have rd1 := ok.1 71 0
  refine z_getI (pc := 10) (k := 0) (v := H.1 71 0) dX10_worst_10 lf_X10_297 sh_71 rfl rfl ?_
  refine z_callSbp (pc := 13) (i := mX10_isWithin) (S := []) [.int (zN (k)), .int (zN ((H.1 71 0)))] dX10_worst_13 ml_X10_302 ok_X10_isWithin rfl (Or.inr rfl) (Nat.le_of_ble_eq_true rfl) (c_X10_isWithin (d := d + 2) (v := k) (hi := ((H.1 71 0))) (v1 := (by omega)) (v2 := (by omega)) (hi1 := (by omega)) (hi2 := (by omega)) (ok := ok)) (fun hc4 ok3 => ?_) (fun hc4 ok3 => ?_)
  · skip
    refine z_if_eq (pc := 16) (tgt := 42) dX10_worst_16 (by decide) (by decide) (by decide) (fun h => absurd h (by decide)) (fun _ => ?_)
    refine x_iload_n (pc := 19) dX10_worst_19 (List.Mem.tail _ (List.Mem.tail _ (List.Mem.tail _ (List.Mem.head _)))) ?_
    refine z_iconst (pc := 20) dX10_worst_20 ?_
    refine z_callSbp (pc := 21) (i := mX10_isWithin) (S := []) [.int (zN (what)), .int (zN (3))] dX10_worst_21 ml_X10_302 ok_X10_isWithin rfl (Or.inr rfl) (Nat.le_of_ble_eq_true rfl) (c_X10_isWithin (d := d + 2) (v := what) (hi := 3) (v1 := (by omega)) (v2 := (by omega)) (hi1 := (by omega)) (hi2 := (by omega)) (ok := ok3)) (fun hc8 ok7 => ?_) (fun hc8 ok7 => ?_)
    · skip
      refine z_if_eq (pc := 24) (tgt := 42) dX10_worst_24 (by decide) (by decide) (by decide) (fun h => absurd h (by decide)) (fun _ => ?_)
      refine x_iload_n (pc := 27) dX10_worst_27 (List.Mem.tail _ (List.Mem.tail _ (List.Mem.tail _ (List.Mem.head _)))) ?_
      refine z_iconst (pc := 28) dX10_worst_28 ?_
      refine z_icmp_lt (pc := 29) (tgt := 50) dX10_worst_29 (by decide) (by omega) (by omega) (by decide) (by decide) (fun hb10 => ?_) (fun hb10 => ?_)
      · skip
        have wo := wset_ok (H.1 2) (N := (H.1 2 477).toNat) (by omega) k.toNat (by omega)
        refine x_aload_n (pc := 50) dX10_worst_50 (List.Mem.head _) ?_
        refine x_iload_n (pc := 51) dX10_worst_51 (List.Mem.tail _ (List.Mem.tail _ (List.Mem.head _))) ?_
        refine z_callVip (pc := 52) (i := mX2_worstOf) (S := []) [.int (zN (k))] dX10_worst_52 ml_X10_342 ok_X2_worstOf rfl sh_71 rfl (Or.inl rfl) (Nat.le_of_ble_eq_true rfl) (by have qz := c_X2_worstOf (d := d + 1) (k := k.toNat) (hk := (by omega)) (ok := ok7) (wp := (by first | assumption | omega)) (rp := (by first | assumption | omega)); rw [show ((k.toNat : Nat) : Int) = k by omega] at qz; exact qz) (fun r11a r11b ok12 => ?_)
        refine x_istore (pc := 55) dX10_worst_55 (Nat.le_of_ble_eq_true rfl) ?_
        show Ev _ _ _ _ _ [(4, .int (zN ((((wset (H.1 2) (H.1 2 477).toNat k.toNat : Nat) : Int))))), (3, .ref 71), (0, .ref 20), (1, .int (zN (k))), (2, .int (zN (what)))] _ _
        refine x_iload_n (pc := 57) dX10_worst_57 (List.Mem.tail _ (List.Mem.tail _ (List.Mem.tail _ (List.Mem.tail _ (List.Mem.head _))))) ?_
        rcases Int.decEq (what) (0) with hk13_0 | hk13_0
        rotate_left
        · skip
          refine z_tabIn (pc := 58) (0) (tgt := 84) dX10_worst_58 hk13_0 (by omega) (by omega) (by decide) (by decide) rfl (by decide) ?_
          refine x_iload (pc := 84) dX10_worst_84 (List.Mem.head _) ?_
          refine z_ireturn (pc := 86) dX10_worst_86 rfl (Or.inl rfl) ok12 (by omega) (by omega) ?_
          have e : S_worst (H.1 2) k what = ((if what = 0 then ((wset (H.1 2) (H.1 2 477).toNat k.toNat : Nat) : Int) else if what = 1 then pfal (H.1 2) (wset (H.1 2) (H.1 2 477).toNat k.toNat) (H.1 2 477).toNat else if what = 2 then pfal (H.1 2) (mtak (H.1 2) (wset (H.1 2) (H.1 2 477).toNat k.toNat) (H.1 2 477).toNat (H.1 2 477).toNat) (H.1 2 477).toNat else ((mtak (H.1 2) (wset (H.1 2) (H.1 2 477).toNat k.toNat) (H.1 2 477).toNat (H.1 2 477).toNat : Nat) : Int)), 6) := by unfold S_worst; rw [if_pos (by omega)]
          rw [e]
          exact ⟨by rw [if_pos (by omega)], rfl⟩
        rcases Int.decEq (what) (1) with hk13_1 | hk13_1
        rotate_left
        · skip
          refine z_tabIn (pc := 58) (1) (tgt := 87) dX10_worst_58 hk13_1 (by omega) (by omega) (by decide) (by decide) rfl (by decide) ?_
          refine x_aload_n (pc := 87) dX10_worst_87 (List.Mem.tail _ (List.Mem.head _)) ?_
          refine x_iload (pc := 88) dX10_worst_88 (List.Mem.head _) ?_
          refine z_callVip (pc := 90) (i := mX2_fallOf) (S := []) [.int (zN ((((wset (H.1 2) (H.1 2 477).toNat k.toNat : Nat) : Int))))] dX10_worst_90 ml_X10_345 ok_X2_fallOf rfl sh_71 rfl (Or.inl rfl) (Nat.le_of_ble_eq_true rfl) (c_X2_fallOf (d := d + 1) (b := (wset (H.1 2) (H.1 2 477).toNat k.toNat)) (hb := (by omega)) (ok := ok12) (wp := (by first | assumption | omega)) (rp := (by first | assumption | omega))) (fun r14a r14b ok15 => ?_)
          refine z_ireturn (pc := 93) dX10_worst_93 rfl (Or.inl rfl) ok15 (by omega) (by omega) ?_
          have e : S_worst (H.1 2) k what = ((if what = 0 then ((wset (H.1 2) (H.1 2 477).toNat k.toNat : Nat) : Int) else if what = 1 then pfal (H.1 2) (wset (H.1 2) (H.1 2 477).toNat k.toNat) (H.1 2 477).toNat else if what = 2 then pfal (H.1 2) (mtak (H.1 2) (wset (H.1 2) (H.1 2 477).toNat k.toNat) (H.1 2 477).toNat (H.1 2 477).toNat) (H.1 2 477).toNat else ((mtak (H.1 2) (wset (H.1 2) (H.1 2 477).toNat k.toNat) (H.1 2 477).toNat (H.1 2 477).toNat : Nat) : Int)), 6) := by unfold S_worst; rw [if_pos (by omega)]
          rw [e]
          exact ⟨by rw [if_neg (by omega), if_pos (by omega)], rfl⟩
        rcases Int.decEq (what) (2) with hk13_2 | hk13_2
        rotate_left
        · skip
          refine z_tabIn (pc := 58) (2) (tgt := 94) dX10_worst_58 hk13_2 (by omega) (by omega) (by decide) (by decide) rfl (by decide) ?_
          have mo := mtak_ok (H.1 2) (k := k.toNat) wo.1 wo.2 (by omega) (by omega) (H.1 2 477).toNat (Nat.le_refl _)
          refine x_aload_n (pc := 94) dX10_worst_94 (List.Mem.tail _ (List.Mem.head _)) ?_
          refine x_aload_n (pc := 95) dX10_worst_95 (List.Mem.tail _ (List.Mem.head _)) ?_
          refine x_iload (pc := 96) dX10_worst_96 (List.Mem.head _) ?_
          refine z_callVip (pc := 98) (i := mX2_matchesOf) (S := [.ref 71]) [.int (zN ((((wset (H.1 2) (H.1 2 477).toNat k.toNat : Nat) : Int))))] dX10_worst_98 ml_X10_348 ok_X2_matchesOf rfl sh_71 rfl (Or.inl rfl) (Nat.le_of_ble_eq_true rfl) (c_X2_matchesOf (d := d) (b := (wset (H.1 2) (H.1 2 477).toNat k.toNat)) (k := k.toNat) (hb := (by omega)) (hc := (by omega)) (h2 := (by omega)) (ok := ok12) (wp := (by first | assumption | omega)) (rp := (by first | assumption | omega))) (fun r16a r16b ok17 => ?_)
          refine z_callVip (pc := 101) (i := mX2_fallOf) (S := []) [.int (zN ((((mtak (H.1 2) (wset (H.1 2) (H.1 2 477).toNat k.toNat) (H.1 2 477).toNat (H.1 2 477).toNat : Nat) : Int))))] dX10_worst_101 ml_X10_345 ok_X2_fallOf rfl sh_71 rfl (Or.inl rfl) (Nat.le_of_ble_eq_true rfl) (c_X2_fallOf (d := d + 1) (b := (mtak (H.1 2) (wset (H.1 2) (H.1 2 477).toNat k.toNat) (H.1 2 477).toNat (H.1 2 477).toNat)) (hb := (by omega)) (ok := ok17) (wp := (by first | assumption | omega)) (rp := (by first | assumption | omega))) (fun r18a r18b ok19 => ?_)
          refine z_ireturn (pc := 104) dX10_worst_104 rfl (Or.inl rfl) ok19 (by omega) (by omega) ?_
          have e : S_worst (H.1 2) k what = ((if what = 0 then ((wset (H.1 2) (H.1 2 477).toNat k.toNat : Nat) : Int) else if what = 1 then pfal (H.1 2) (wset (H.1 2) (H.1 2 477).toNat k.toNat) (H.1 2 477).toNat else if what = 2 then pfal (H.1 2) (mtak (H.1 2) (wset (H.1 2) (H.1 2 477).toNat k.toNat) (H.1 2 477).toNat (H.1 2 477).toNat) (H.1 2 477).toNat else ((mtak (H.1 2) (wset (H.1 2) (H.1 2 477).toNat k.toNat) (H.1 2 477).toNat (H.1 2 477).toNat : Nat) : Int)), 6) := by unfold S_worst; rw [if_pos (by omega)]
          rw [e]
          exact ⟨by rw [if_neg (by omega), if_neg (by omega), if_pos (by omega)], rfl⟩
        refine z_tabOut (pc := 58) (tgt := 105) dX10_worst_58 (by omega) (by omega) (by omega) (by decide) ?_
        refine x_aload_n (pc := 105) dX10_worst_105 (List.Mem.tail _ (List.Mem.head _)) ?_
        refine x_iload (pc := 106) dX10_worst_106 (List.Mem.head _) ?_
        refine z_callVip (pc := 108) (i := mX2_matchesOf) (S := []) [.int (zN ((((wset (H.1 2) (H.1 2 477).toNat k.toNat : Nat) : Int))))] dX10_worst_108 ml_X10_348 ok_X2_matchesOf rfl sh_71 rfl (Or.inl rfl) (Nat.le_of_ble_eq_true rfl) (c_X2_matchesOf (d := d) (b := (wset (H.1 2) (H.1 2 477).toNat k.toNat)) (k := k.toNat) (hb := (by omega)) (hc := (by omega)) (h2 := (by omega)) (ok := ok12) (wp := (by first | assumption | omega)) (rp := (by first | assumption | omega))) (fun r20a r20b ok21 => ?_)
        refine z_ireturn (pc := 111) dX10_worst_111 rfl (Or.inl rfl) ok21 (by omega) (by omega) ?_
        have e : S_worst (H.1 2) k what = ((if what = 0 then ((wset (H.1 2) (H.1 2 477).toNat k.toNat : Nat) : Int) else if what = 1 then pfal (H.1 2) (wset (H.1 2) (H.1 2 477).toNat k.toNat) (H.1 2 477).toNat else if what = 2 then pfal (H.1 2) (mtak (H.1 2) (wset (H.1 2) (H.1 2 477).toNat k.toNat) (H.1 2 477).toNat (H.1 2 477).toNat) (H.1 2 477).toNat else ((mtak (H.1 2) (wset (H.1 2) (H.1 2 477).toNat k.toNat) (H.1 2 477).toNat (H.1 2 477).toNat : Nat) : Int)), 6) := by unfold S_worst; rw [if_pos (by omega)]
        rw [e]
        exact ⟨by rw [if_neg (by omega), if_neg (by omega), if_neg (by omega)], rfl⟩
      · skip
        refine x_aload_n (pc := 32) dX10_worst_32 (List.Mem.head _) ?_
        have rd22 := ok7.1 71 0
        refine z_getI (pc := 33) (k := 0) (v := H.1 71 0) dX10_worst_33 lf_X10_297 sh_71 rfl rfl ?_
        refine x_iload_n (pc := 36) dX10_worst_36 (List.Mem.tail _ (List.Mem.tail _ (List.Mem.head _))) ?_
        refine z_isub (pc := 37) dX10_worst_37 ?_
        refine x_iload_n (pc := 38) dX10_worst_38 (List.Mem.tail _ (List.Mem.tail _ (List.Mem.head _))) ?_
        refine z_icmp_ge (pc := 39) (tgt := 50) dX10_worst_39 (by decide) (by omega) (by omega) (by omega) (by omega) (fun hb23 => ?_) (fun hb23 => ?_)
        · skip
          have wo := wset_ok (H.1 2) (N := (H.1 2 477).toNat) (by omega) k.toNat (by omega)
          refine x_aload_n (pc := 50) dX10_worst_50 (List.Mem.head _) ?_
          refine x_iload_n (pc := 51) dX10_worst_51 (List.Mem.tail _ (List.Mem.tail _ (List.Mem.head _))) ?_
          refine z_callVip (pc := 52) (i := mX2_worstOf) (S := []) [.int (zN (k))] dX10_worst_52 ml_X10_342 ok_X2_worstOf rfl sh_71 rfl (Or.inl rfl) (Nat.le_of_ble_eq_true rfl) (by have qz := c_X2_worstOf (d := d + 1) (k := k.toNat) (hk := (by omega)) (ok := ok7) (wp := (by first | assumption | omega)) (rp := (by first | assumption | omega)); rw [show ((k.toNat : Nat) : Int) = k by omega] at qz; exact qz) (fun r24a r24b ok25 => ?_)
          refine x_istore (pc := 55) dX10_worst_55 (Nat.le_of_ble_eq_true rfl) ?_
          show Ev _ _ _ _ _ [(4, .int (zN ((((wset (H.1 2) (H.1 2 477).toNat k.toNat : Nat) : Int))))), (3, .ref 71), (0, .ref 20), (1, .int (zN (k))), (2, .int (zN (what)))] _ _
          refine x_iload_n (pc := 57) dX10_worst_57 (List.Mem.tail _ (List.Mem.tail _ (List.Mem.tail _ (List.Mem.tail _ (List.Mem.head _))))) ?_
          rcases Int.decEq (what) (0) with hk26_0 | hk26_0
          rotate_left
          · skip
            refine z_tabIn (pc := 58) (0) (tgt := 84) dX10_worst_58 hk26_0 (by omega) (by omega) (by decide) (by decide) rfl (by decide) ?_
            refine x_iload (pc := 84) dX10_worst_84 (List.Mem.head _) ?_
            refine z_ireturn (pc := 86) dX10_worst_86 rfl (Or.inl rfl) ok25 (by omega) (by omega) ?_
            have e : S_worst (H.1 2) k what = ((if what = 0 then ((wset (H.1 2) (H.1 2 477).toNat k.toNat : Nat) : Int) else if what = 1 then pfal (H.1 2) (wset (H.1 2) (H.1 2 477).toNat k.toNat) (H.1 2 477).toNat else if what = 2 then pfal (H.1 2) (mtak (H.1 2) (wset (H.1 2) (H.1 2 477).toNat k.toNat) (H.1 2 477).toNat (H.1 2 477).toNat) (H.1 2 477).toNat else ((mtak (H.1 2) (wset (H.1 2) (H.1 2 477).toNat k.toNat) (H.1 2 477).toNat (H.1 2 477).toNat : Nat) : Int)), 6) := by unfold S_worst; rw [if_pos (by omega)]
            rw [e]
            exact ⟨by rw [if_pos (by omega)], rfl⟩
          rcases Int.decEq (what) (1) with hk26_1 | hk26_1
          rotate_left
          · skip
            refine z_tabIn (pc := 58) (1) (tgt := 87) dX10_worst_58 hk26_1 (by omega) (by omega) (by decide) (by decide) rfl (by decide) ?_
            refine x_aload_n (pc := 87) dX10_worst_87 (List.Mem.tail _ (List.Mem.head _)) ?_
            refine x_iload (pc := 88) dX10_worst_88 (List.Mem.head _) ?_
            refine z_callVip (pc := 90) (i := mX2_fallOf) (S := []) [.int (zN ((((wset (H.1 2) (H.1 2 477).toNat k.toNat : Nat) : Int))))] dX10_worst_90 ml_X10_345 ok_X2_fallOf rfl sh_71 rfl (Or.inl rfl) (Nat.le_of_ble_eq_true rfl) (c_X2_fallOf (d := d + 1) (b := (wset (H.1 2) (H.1 2 477).toNat k.toNat)) (hb := (by omega)) (ok := ok25) (wp := (by first | assumption | omega)) (rp := (by first | assumption | omega))) (fun r27a r27b ok28 => ?_)
            refine z_ireturn (pc := 93) dX10_worst_93 rfl (Or.inl rfl) ok28 (by omega) (by omega) ?_
            have e : S_worst (H.1 2) k what = ((if what = 0 then ((wset (H.1 2) (H.1 2 477).toNat k.toNat : Nat) : Int) else if what = 1 then pfal (H.1 2) (wset (H.1 2) (H.1 2 477).toNat k.toNat) (H.1 2 477).toNat else if what = 2 then pfal (H.1 2) (mtak (H.1 2) (wset (H.1 2) (H.1 2 477).toNat k.toNat) (H.1 2 477).toNat (H.1 2 477).toNat) (H.1 2 477).toNat else ((mtak (H.1 2) (wset (H.1 2) (H.1 2 477).toNat k.toNat) (H.1 2 477).toNat (H.1 2 477).toNat : Nat) : Int)), 6) := by unfold S_worst; rw [if_pos (by omega)]
            rw [e]
            exact ⟨by rw [if_neg (by omega), if_pos (by omega)], rfl⟩
          rcases Int.decEq (what) (2) with hk26_2 | hk26_2
          rotate_left
          · skip
            refine z_tabIn (pc := 58) (2) (tgt := 94) dX10_worst_58 hk26_2 (by omega) (by omega) (by decide) (by decide) rfl (by decide) ?_
            have mo := mtak_ok (H.1 2) (k := k.toNat) wo.1 wo.2 (by omega) (by omega) (H.1 2 477).toNat (Nat.le_refl _)
            refine x_aload_n (pc := 94) dX10_worst_94 (List.Mem.tail _ (List.Mem.head _)) ?_
            refine x_aload_n (pc := 95) dX10_worst_95 (List.Mem.tail _ (List.Mem.head _)) ?_
            refine x_iload (pc := 96) dX10_worst_96 (List.Mem.head _) ?_
            refine z_callVip (pc := 98) (i := mX2_matchesOf) (S := [.ref 71]) [.int (zN ((((wset (H.1 2) (H.1 2 477).toNat k.toNat : Nat) : Int))))] dX10_worst_98 ml_X10_348 ok_X2_matchesOf rfl sh_71 rfl (Or.inl rfl) (Nat.le_of_ble_eq_true rfl) (c_X2_matchesOf (d := d) (b := (wset (H.1 2) (H.1 2 477).toNat k.toNat)) (k := k.toNat) (hb := (by omega)) (hc := (by omega)) (h2 := (by omega)) (ok := ok25) (wp := (by first | assumption | omega)) (rp := (by first | assumption | omega))) (fun r29a r29b ok30 => ?_)
            refine z_callVip (pc := 101) (i := mX2_fallOf) (S := []) [.int (zN ((((mtak (H.1 2) (wset (H.1 2) (H.1 2 477).toNat k.toNat) (H.1 2 477).toNat (H.1 2 477).toNat : Nat) : Int))))] dX10_worst_101 ml_X10_345 ok_X2_fallOf rfl sh_71 rfl (Or.inl rfl) (Nat.le_of_ble_eq_true rfl) (c_X2_fallOf (d := d + 1) (b := (mtak (H.1 2) (wset (H.1 2) (H.1 2 477).toNat k.toNat) (H.1 2 477).toNat (H.1 2 477).toNat)) (hb := (by omega)) (ok := ok30) (wp := (by first | assumption | omega)) (rp := (by first | assumption | omega))) (fun r31a r31b ok32 => ?_)
            refine z_ireturn (pc := 104) dX10_worst_104 rfl (Or.inl rfl) ok32 (by omega) (by omega) ?_
            have e : S_worst (H.1 2) k what = ((if what = 0 then ((wset (H.1 2) (H.1 2 477).toNat k.toNat : Nat) : Int) else if what = 1 then pfal (H.1 2) (wset (H.1 2) (H.1 2 477).toNat k.toNat) (H.1 2 477).toNat else if what = 2 then pfal (H.1 2) (mtak (H.1 2) (wset (H.1 2) (H.1 2 477).toNat k.toNat) (H.1 2 477).toNat (H.1 2 477).toNat) (H.1 2 477).toNat else ((mtak (H.1 2) (wset (H.1 2) (H.1 2 477).toNat k.toNat) (H.1 2 477).toNat (H.1 2 477).toNat : Nat) : Int)), 6) := by unfold S_worst; rw [if_pos (by omega)]
            rw [e]
            exact ⟨by rw [if_neg (by omega), if_neg (by omega), if_pos (by omega)], rfl⟩
          refine z_tabOut (pc := 58) (tgt := 105) dX10_worst_58 (by omega) (by omega) (by omega) (by decide) ?_
          refine x_aload_n (pc := 105) dX10_worst_105 (List.Mem.tail _ (List.Mem.head _)) ?_
          refine x_iload (pc := 106) dX10_worst_106 (List.Mem.head _) ?_
          refine z_callVip (pc := 108) (i := mX2_matchesOf) (S := []) [.int (zN ((((wset (H.1 2) (H.1 2 477).toNat k.toNat : Nat) : Int))))] dX10_worst_108 ml_X10_348 ok_X2_matchesOf rfl sh_71 rfl (Or.inl rfl) (Nat.le_of_ble_eq_true rfl) (c_X2_matchesOf (d := d) (b := (wset (H.1 2) (H.1 2 477).toNat k.toNat)) (k := k.toNat) (hb := (by omega)) (hc := (by omega)) (h2 := (by omega)) (ok := ok25) (wp := (by first | assumption | omega)) (rp := (by first | assumption | omega))) (fun r33a r33b ok34 => ?_)
          refine z_ireturn (pc := 111) dX10_worst_111 rfl (Or.inl rfl) ok34 (by omega) (by omega) ?_
          have e : S_worst (H.1 2) k what = ((if what = 0 then ((wset (H.1 2) (H.1 2 477).toNat k.toNat : Nat) : Int) else if what = 1 then pfal (H.1 2) (wset (H.1 2) (H.1 2 477).toNat k.toNat) (H.1 2 477).toNat else if what = 2 then pfal (H.1 2) (mtak (H.1 2) (wset (H.1 2) (H.1 2 477).toNat k.toNat) (H.1 2 477).toNat (H.1 2 477).toNat) (H.1 2 477).toNat else ((mtak (H.1 2) (wset (H.1 2) (H.1 2 477).toNat k.toNat) (H.1 2 477).toNat (H.1 2 477).toNat : Nat) : Int)), 6) := by unfold S_worst; rw [if_pos (by omega)]
          rw [e]
          exact ⟨by rw [if_neg (by omega), if_neg (by omega), if_neg (by omega)], rfl⟩
        · skip
          refine x_aload_n (pc := 42) dX10_worst_42 (List.Mem.tail _ (List.Mem.head _)) ?_
          refine z_ldc_w (pc := 43) (-1000000) dX10_worst_43 cn_X10_341 (by decide) ?_
          refine z_callVip (pc := 46) (i := mX10_refuseAs) (S := []) [.int (zN ((-1000000)))] dX10_worst_46 ml_X10_199 ok_X10_refuseAs rfl sh_20 rfl (Or.inl rfl) (Nat.le_of_ble_eq_true rfl) (c_X10_refuseAs (d := d + 2) (a := ((-1000000))) (a1 := (by omega)) (a2 := (by omega)) (ok := ok7) (cn := (by first | assumption | omega))) (fun r35a r35b ok36 => ?_)
          show Ev _ _ _ _ _ _ _ (eh (wI H 25 0 (H.1 25 0 + 1)))
          refine z_ireturn (pc := 49) dX10_worst_49 rfl (Or.inl rfl) ok36 (by omega) (by omega) ?_
          have e : S_worst (H.1 2) k what = (-1000000, 0) := by unfold S_worst; rw [if_neg (by omega)]
          rw [e]
          exact ⟨rfl, rfl⟩
    · skip
      refine z_if_eq (pc := 24) (tgt := 42) dX10_worst_24 (by decide) (by decide) (by decide) (fun _ => ?_) (fun h => absurd h (by decide))
      refine x_aload_n (pc := 42) dX10_worst_42 (List.Mem.tail _ (List.Mem.head _)) ?_
      refine z_ldc_w (pc := 43) (-1000000) dX10_worst_43 cn_X10_341 (by decide) ?_
      refine z_callVip (pc := 46) (i := mX10_refuseAs) (S := []) [.int (zN ((-1000000)))] dX10_worst_46 ml_X10_199 ok_X10_refuseAs rfl sh_20 rfl (Or.inl rfl) (Nat.le_of_ble_eq_true rfl) (c_X10_refuseAs (d := d + 2) (a := ((-1000000))) (a1 := (by omega)) (a2 := (by omega)) (ok := ok7) (cn := (by first | assumption | omega))) (fun r38a r38b ok39 => ?_)
      show Ev _ _ _ _ _ _ _ (eh (wI H 25 0 (H.1 25 0 + 1)))
      refine z_ireturn (pc := 49) dX10_worst_49 rfl (Or.inl rfl) ok39 (by omega) (by omega) ?_
      have e : S_worst (H.1 2) k what = (-1000000, 0) := by unfold S_worst; rw [if_neg (by omega)]
      rw [e]
      exact ⟨rfl, rfl⟩
  · skip
    refine z_if_eq (pc := 16) (tgt := 42) dX10_worst_16 (by decide) (by decide) (by decide) (fun _ => ?_) (fun h => absurd h (by decide))
    refine x_aload_n (pc := 42) dX10_worst_42 (List.Mem.tail _ (List.Mem.head _)) ?_
    refine z_ldc_w (pc := 43) (-1000000) dX10_worst_43 cn_X10_341 (by decide) ?_
    refine z_callVip (pc := 46) (i := mX10_refuseAs) (S := []) [.int (zN ((-1000000)))] dX10_worst_46 ml_X10_199 ok_X10_refuseAs rfl sh_20 rfl (Or.inl rfl) (Nat.le_of_ble_eq_true rfl) (c_X10_refuseAs (d := d + 2) (a := ((-1000000))) (a1 := (by omega)) (a2 := (by omega)) (ok := ok3) (cn := (by first | assumption | omega))) (fun r41a r41b ok42 => ?_)
    show Ev _ _ _ _ _ _ _ (eh (wI H 25 0 (H.1 25 0 + 1)))
    refine z_ireturn (pc := 49) dX10_worst_49 rfl (Or.inl rfl) ok42 (by omega) (by omega) ?_
    have e : S_worst (H.1 2) k what = (-1000000, 0) := by unfold S_worst; rw [if_neg (by omega)]
    rw [e]
    exact ⟨rfl, rfl⟩

theorem c_X11_worst {d : Nat} {H : ZH} (ok : okZ H) {k what : Int} (k1 : -2147483648 ≤ k) (k2 : k ≤ 2147483647) (what1 : -2147483648 ≤ what) (what2 : what ≤ 2147483647) (cm : cntOK H 1) (th : H.1 0 0 = 0) (wp : WFP (H.1 2)) : EvC zX (d + 3) mX11_worst [.ref 0, .int (zN (k)), .int (zN (what))] (eh H) (zPi (fun (r : Int) (H1 : ZH) => r = (S_worst (H.1 2) k what).1 ∧ H1 = bumpM (S_worst (H.1 2) k what).2 H)) := by
  show _ ∧ Ev zX mX11_worst (EvC zX (d + 2)) (zPi (fun (r : Int) (H1 : ZH) => r = (S_worst (H.1 2) k what).1 ∧ H1 = bumpM (S_worst (H.1 2) k what).2 H)) 0 [(0, .ref 0), (1, .int (zN (k))), (2, .int (zN (what)))] [] (eh H)
  refine ⟨Nat.le_of_ble_eq_true rfl, ?_⟩
  have wpx := wp
  obtain ⟨wpA, wpB, wpC⟩ := wpx
  refine x_aload_n (pc := 0) dX11_worst_0 (List.Mem.head _) ?_
  refine z_iconst (pc := 1) dX11_worst_1 ?_
  refine z_putI (pc := 2) (k := 0) dX11_worst_2 lp_X11_1 sh_0 rfl ?_
  have ok1 := okI ok 0 0 (v := 0) (by decide) (by decide)
  rw [wI_same th]
  refine x_iload_n (pc := 5) dX11_worst_5 (List.Mem.tail _ (List.Mem.head _)) ?_
  refine z_i2l (pc := 6) dX11_worst_6 (by omega) (by omega) ?_
  refine z_lconst (pc := 7) 0 dX11_worst_7 rfl ?_
  refine x_aload_n (pc := 8) dX11_worst_8 (List.Mem.head _) ?_
  refine z_getR (pc := 9) (k := 2) (r := 2) dX11_worst_9 lf_X11_17 sh_0 rfl rf_0_2 ?_
  refine z_sipush (pc := 12) dX11_worst_12 sp_477 ?_
  have rd2 := ok.1 2 477
  refine z_iald (pc := 15) (j := 477) (v := H.1 2 477) dX11_worst_15 sh_2 rfl (Nat.le_of_ble_eq_true rfl) (by decide) rfl ?_
  refine z_i2l (pc := 16) dX11_worst_16 (by omega) (by omega) ?_
  refine z_callSbp (pc := 17) (i := mX11_within) (S := []) [.long (zL (k)), .long (zL (0)), .long (zL ((H.1 2 477)))] dX11_worst_17 ml_X11_152 ok_X11_within rfl (Or.inr rfl) (Nat.le_of_ble_eq_true rfl) (c_X11_within (d := d + 1) (v := k) (lo := 0) (hi := ((H.1 2 477))) (v1 := (by omega)) (v2 := (by omega)) (lo1 := (by omega)) (lo2 := (by omega)) (hi1 := (by omega)) (hi2 := (by omega)) (ok := ok)) (fun hc5 ok4 => ?_) (fun hc5 ok4 => ?_)
  · skip
    refine z_if_eq (pc := 20) (tgt := 54) dX11_worst_20 (by decide) (by decide) (by decide) (fun h => absurd h (by decide)) (fun _ => ?_)
    refine x_iload_n (pc := 23) dX11_worst_23 (List.Mem.tail _ (List.Mem.tail _ (List.Mem.head _))) ?_
    refine z_i2l (pc := 24) dX11_worst_24 (by omega) (by omega) ?_
    refine z_lconst (pc := 25) 0 dX11_worst_25 rfl ?_
    refine z_ldc2_w (pc := 26) 3 dX11_worst_26 cl_X11_213 (by decide) ?_
    refine z_callSbp (pc := 29) (i := mX11_within) (S := []) [.long (zL (what)), .long (zL (0)), .long (zL (3))] dX11_worst_29 ml_X11_152 ok_X11_within rfl (Or.inr rfl) (Nat.le_of_ble_eq_true rfl) (c_X11_within (d := d + 1) (v := what) (lo := 0) (hi := 3) (v1 := (by omega)) (v2 := (by omega)) (lo1 := (by omega)) (lo2 := (by omega)) (hi1 := (by omega)) (hi2 := (by omega)) (ok := ok4)) (fun hc9 ok8 => ?_) (fun hc9 ok8 => ?_)
    · skip
      refine z_if_eq (pc := 32) (tgt := 54) dX11_worst_32 (by decide) (by decide) (by decide) (fun h => absurd h (by decide)) (fun _ => ?_)
      refine x_iload_n (pc := 35) dX11_worst_35 (List.Mem.tail _ (List.Mem.tail _ (List.Mem.head _))) ?_
      refine z_iconst (pc := 36) dX11_worst_36 ?_
      refine z_icmp_le (pc := 37) (tgt := 62) dX11_worst_37 (by decide) (by omega) (by omega) (by decide) (by decide) (fun hb11 => ?_) (fun hb11 => ?_)
      · skip
        have wo := wset_ok (H.1 2) (N := (H.1 2 477).toNat) (by omega) k.toNat (by omega)
        refine x_aload_n (pc := 62) dX11_worst_62 (List.Mem.head _) ?_
        refine x_iload_n (pc := 63) dX11_worst_63 (List.Mem.tail _ (List.Mem.head _)) ?_
        refine z_callVip (pc := 64) (i := mX11_worstOf) (S := []) [.int (zN (k))] dX11_worst_64 ml_X11_335 ok_X11_worstOf rfl sh_0 rfl (Or.inl rfl) (Nat.le_of_ble_eq_true rfl) (by have qz := c_X11_worstOf (d := d) (k := k.toNat) (hk := (by omega)) (ok := ok8) (wp := (by first | assumption | omega)); rw [show ((k.toNat : Nat) : Int) = k by omega] at qz; exact qz) (fun r12a r12b ok13 => ?_)
        refine x_istore_n (pc := 67) dX11_worst_67 (Nat.le_of_ble_eq_true rfl) ?_
        show Ev _ _ _ _ _ [(3, .int (zN ((((wset (H.1 2) (H.1 2 477).toNat k.toNat : Nat) : Int))))), (0, .ref 0), (1, .int (zN (k))), (2, .int (zN (what)))] _ _
        refine x_iload_n (pc := 68) dX11_worst_68 (List.Mem.tail _ (List.Mem.tail _ (List.Mem.tail _ (List.Mem.head _)))) ?_
        refine z_iconst (pc := 69) dX11_worst_69 ?_
        refine z_icmp_ge (pc := 70) (tgt := 87) dX11_worst_70 (by decide) (by omega) (by omega) (by decide) (by decide) (fun hb14 => ?_) (fun hb14 => ?_)
        · skip
          refine x_iload_n (pc := 87) dX11_worst_87 (List.Mem.tail _ (List.Mem.tail _ (List.Mem.tail _ (List.Mem.head _)))) ?_
          refine z_iconst (pc := 88) dX11_worst_88 ?_
          refine z_icmp_ne (pc := 89) (tgt := 104) dX11_worst_89 (by decide) (by omega) (by omega) (by decide) (by decide) (fun hb15 => ?_) (fun hb15 => ?_)
          · skip
            refine x_aload_n (pc := 104) dX11_worst_104 (List.Mem.tail _ (List.Mem.head _)) ?_
            refine x_iload_n (pc := 105) dX11_worst_105 (List.Mem.head _) ?_
            refine z_callVip (pc := 106) (i := mX11_matchesOf) (S := []) [.int (zN ((((wset (H.1 2) (H.1 2 477).toNat k.toNat : Nat) : Int))))] dX11_worst_106 ml_X11_341 ok_X11_matchesOf rfl sh_0 rfl (Or.inl rfl) (Nat.le_of_ble_eq_true rfl) (c_X11_matchesOf (d := d) (b := (wset (H.1 2) (H.1 2 477).toNat k.toNat)) (k := k.toNat) (hb := (by omega)) (hc := (by omega)) (h2 := (by omega)) (ok := ok13) (wp := (by first | assumption | omega))) (fun r16a r16b ok17 => ?_)
            refine z_ireturn (pc := 109) dX11_worst_109 rfl (Or.inl rfl) ok17 (by omega) (by omega) ?_
            have e : S_worst (H.1 2) k what = ((if what = 0 then ((wset (H.1 2) (H.1 2 477).toNat k.toNat : Nat) : Int) else if what = 1 then pfal (H.1 2) (wset (H.1 2) (H.1 2 477).toNat k.toNat) (H.1 2 477).toNat else if what = 2 then pfal (H.1 2) (mtak (H.1 2) (wset (H.1 2) (H.1 2 477).toNat k.toNat) (H.1 2 477).toNat (H.1 2 477).toNat) (H.1 2 477).toNat else ((mtak (H.1 2) (wset (H.1 2) (H.1 2 477).toNat k.toNat) (H.1 2 477).toNat (H.1 2 477).toNat : Nat) : Int)), 6) := by unfold S_worst; rw [if_pos (by omega)]
            rw [e]
            refine ⟨?_, rfl⟩
            first | (exfalso; omega) | rw [if_neg (by omega), if_neg (by omega), if_pos (by omega)] | rw [if_neg (by omega), if_neg (by omega), if_neg (by omega)]
          · skip
            have mo := mtak_ok (H.1 2) (k := k.toNat) wo.1 wo.2 (by omega) (by omega) (H.1 2 477).toNat (Nat.le_refl _)
            refine x_aload_n (pc := 92) dX11_worst_92 (List.Mem.tail _ (List.Mem.head _)) ?_
            refine x_aload_n (pc := 93) dX11_worst_93 (List.Mem.tail _ (List.Mem.head _)) ?_
            refine x_iload_n (pc := 94) dX11_worst_94 (List.Mem.head _) ?_
            refine z_callVip (pc := 95) (i := mX11_matchesOf) (S := [.ref 0]) [.int (zN ((((wset (H.1 2) (H.1 2 477).toNat k.toNat : Nat) : Int))))] dX11_worst_95 ml_X11_341 ok_X11_matchesOf rfl sh_0 rfl (Or.inl rfl) (Nat.le_of_ble_eq_true rfl) (c_X11_matchesOf (d := d) (b := (wset (H.1 2) (H.1 2 477).toNat k.toNat)) (k := k.toNat) (hb := (by omega)) (hc := (by omega)) (h2 := (by omega)) (ok := ok13) (wp := (by first | assumption | omega))) (fun r18a r18b ok19 => ?_)
            refine z_callVip (pc := 98) (i := mX11_fallOf) (S := []) [.int (zN ((((mtak (H.1 2) (wset (H.1 2) (H.1 2 477).toNat k.toNat) (H.1 2 477).toNat (H.1 2 477).toNat : Nat) : Int))))] dX11_worst_98 ml_X11_338 ok_X11_fallOf rfl sh_0 rfl (Or.inl rfl) (Nat.le_of_ble_eq_true rfl) (c_X11_fallOf (d := d) (b := (mtak (H.1 2) (wset (H.1 2) (H.1 2 477).toNat k.toNat) (H.1 2 477).toNat (H.1 2 477).toNat)) (hb := (by omega)) (ok := ok19) (wp := (by first | assumption | omega))) (fun r20a r20b ok21 => ?_)
            refine x_goto (pc := 101) (tgt := 109) dX11_worst_101 (by decide) ?_
            refine z_ireturn (pc := 109) dX11_worst_109 rfl (Or.inl rfl) ok21 (by omega) (by omega) ?_
            have e : S_worst (H.1 2) k what = ((if what = 0 then ((wset (H.1 2) (H.1 2 477).toNat k.toNat : Nat) : Int) else if what = 1 then pfal (H.1 2) (wset (H.1 2) (H.1 2 477).toNat k.toNat) (H.1 2 477).toNat else if what = 2 then pfal (H.1 2) (mtak (H.1 2) (wset (H.1 2) (H.1 2 477).toNat k.toNat) (H.1 2 477).toNat (H.1 2 477).toNat) (H.1 2 477).toNat else ((mtak (H.1 2) (wset (H.1 2) (H.1 2 477).toNat k.toNat) (H.1 2 477).toNat (H.1 2 477).toNat : Nat) : Int)), 6) := by unfold S_worst; rw [if_pos (by omega)]
            rw [e]
            refine ⟨?_, rfl⟩
            first | (exfalso; omega) | rw [if_neg (by omega), if_neg (by omega), if_pos (by omega)] | rw [if_neg (by omega), if_neg (by omega), if_neg (by omega)]
        · skip
          refine x_iload_n (pc := 73) dX11_worst_73 (List.Mem.tail _ (List.Mem.tail _ (List.Mem.tail _ (List.Mem.head _)))) ?_
          refine z_if_ne (pc := 74) (tgt := 81) dX11_worst_74 (by decide) (by omega) (by omega) (fun hb22 => ?_) (fun hb22 => ?_)
          · skip
            refine x_aload_n (pc := 81) dX11_worst_81 (List.Mem.tail _ (List.Mem.head _)) ?_
            refine x_iload_n (pc := 82) dX11_worst_82 (List.Mem.head _) ?_
            refine z_callVip (pc := 83) (i := mX11_fallOf) (S := []) [.int (zN ((((wset (H.1 2) (H.1 2 477).toNat k.toNat : Nat) : Int))))] dX11_worst_83 ml_X11_338 ok_X11_fallOf rfl sh_0 rfl (Or.inl rfl) (Nat.le_of_ble_eq_true rfl) (c_X11_fallOf (d := d) (b := (wset (H.1 2) (H.1 2 477).toNat k.toNat)) (hb := (by omega)) (ok := ok13) (wp := (by first | assumption | omega))) (fun r23a r23b ok24 => ?_)
            refine z_ireturn (pc := 86) dX11_worst_86 rfl (Or.inl rfl) ok24 (by omega) (by omega) ?_
            have e : S_worst (H.1 2) k what = ((if what = 0 then ((wset (H.1 2) (H.1 2 477).toNat k.toNat : Nat) : Int) else if what = 1 then pfal (H.1 2) (wset (H.1 2) (H.1 2 477).toNat k.toNat) (H.1 2 477).toNat else if what = 2 then pfal (H.1 2) (mtak (H.1 2) (wset (H.1 2) (H.1 2 477).toNat k.toNat) (H.1 2 477).toNat (H.1 2 477).toNat) (H.1 2 477).toNat else ((mtak (H.1 2) (wset (H.1 2) (H.1 2 477).toNat k.toNat) (H.1 2 477).toNat (H.1 2 477).toNat : Nat) : Int)), 6) := by unfold S_worst; rw [if_pos (by omega)]
            rw [e]
            refine ⟨?_, rfl⟩
            first | (exfalso; omega) | rw [if_pos (by omega)] | rw [if_neg (by omega), if_pos (by omega)]
          · skip
            refine x_iload_n (pc := 77) dX11_worst_77 (List.Mem.head _) ?_
            refine x_goto (pc := 78) (tgt := 86) dX11_worst_78 (by decide) ?_
            refine z_ireturn (pc := 86) dX11_worst_86 rfl (Or.inl rfl) ok13 (by omega) (by omega) ?_
            have e : S_worst (H.1 2) k what = ((if what = 0 then ((wset (H.1 2) (H.1 2 477).toNat k.toNat : Nat) : Int) else if what = 1 then pfal (H.1 2) (wset (H.1 2) (H.1 2 477).toNat k.toNat) (H.1 2 477).toNat else if what = 2 then pfal (H.1 2) (mtak (H.1 2) (wset (H.1 2) (H.1 2 477).toNat k.toNat) (H.1 2 477).toNat (H.1 2 477).toNat) (H.1 2 477).toNat else ((mtak (H.1 2) (wset (H.1 2) (H.1 2 477).toNat k.toNat) (H.1 2 477).toNat (H.1 2 477).toNat : Nat) : Int)), 6) := by unfold S_worst; rw [if_pos (by omega)]
            rw [e]
            refine ⟨?_, rfl⟩
            first | (exfalso; omega) | rw [if_pos (by omega)] | rw [if_neg (by omega), if_pos (by omega)]
      · skip
        refine z_iconst (pc := 40) dX11_worst_40 ?_
        refine x_iload_n (pc := 41) dX11_worst_41 (List.Mem.tail _ (List.Mem.head _)) ?_
        refine z_imul (pc := 42) dX11_worst_42 ?_
        refine x_aload_n (pc := 43) dX11_worst_43 (List.Mem.head _) ?_
        refine z_getR (pc := 44) (k := 2) (r := 2) dX11_worst_44 lf_X11_17 sh_0 rfl rf_0_2 ?_
        refine z_sipush (pc := 47) dX11_worst_47 sp_477 ?_
        have rd25 := ok8.1 2 477
        refine z_iald (pc := 50) (j := 477) (v := H.1 2 477) dX11_worst_50 sh_2 rfl (Nat.le_of_ble_eq_true rfl) (by decide) rfl ?_
        refine z_icmp_le (pc := 51) (tgt := 62) dX11_worst_51 (by decide) (by omega) (by omega) (by omega) (by omega) (fun hb26 => ?_) (fun hb26 => ?_)
        · skip
          have wo := wset_ok (H.1 2) (N := (H.1 2 477).toNat) (by omega) k.toNat (by omega)
          refine x_aload_n (pc := 62) dX11_worst_62 (List.Mem.head _) ?_
          refine x_iload_n (pc := 63) dX11_worst_63 (List.Mem.tail _ (List.Mem.head _)) ?_
          refine z_callVip (pc := 64) (i := mX11_worstOf) (S := []) [.int (zN (k))] dX11_worst_64 ml_X11_335 ok_X11_worstOf rfl sh_0 rfl (Or.inl rfl) (Nat.le_of_ble_eq_true rfl) (by have qz := c_X11_worstOf (d := d) (k := k.toNat) (hk := (by omega)) (ok := ok8) (wp := (by first | assumption | omega)); rw [show ((k.toNat : Nat) : Int) = k by omega] at qz; exact qz) (fun r27a r27b ok28 => ?_)
          refine x_istore_n (pc := 67) dX11_worst_67 (Nat.le_of_ble_eq_true rfl) ?_
          show Ev _ _ _ _ _ [(3, .int (zN ((((wset (H.1 2) (H.1 2 477).toNat k.toNat : Nat) : Int))))), (0, .ref 0), (1, .int (zN (k))), (2, .int (zN (what)))] _ _
          refine x_iload_n (pc := 68) dX11_worst_68 (List.Mem.tail _ (List.Mem.tail _ (List.Mem.tail _ (List.Mem.head _)))) ?_
          refine z_iconst (pc := 69) dX11_worst_69 ?_
          refine z_icmp_ge (pc := 70) (tgt := 87) dX11_worst_70 (by decide) (by omega) (by omega) (by decide) (by decide) (fun hb29 => ?_) (fun hb29 => ?_)
          · skip
            refine x_iload_n (pc := 87) dX11_worst_87 (List.Mem.tail _ (List.Mem.tail _ (List.Mem.tail _ (List.Mem.head _)))) ?_
            refine z_iconst (pc := 88) dX11_worst_88 ?_
            refine z_icmp_ne (pc := 89) (tgt := 104) dX11_worst_89 (by decide) (by omega) (by omega) (by decide) (by decide) (fun hb30 => ?_) (fun hb30 => ?_)
            · skip
              refine x_aload_n (pc := 104) dX11_worst_104 (List.Mem.tail _ (List.Mem.head _)) ?_
              refine x_iload_n (pc := 105) dX11_worst_105 (List.Mem.head _) ?_
              refine z_callVip (pc := 106) (i := mX11_matchesOf) (S := []) [.int (zN ((((wset (H.1 2) (H.1 2 477).toNat k.toNat : Nat) : Int))))] dX11_worst_106 ml_X11_341 ok_X11_matchesOf rfl sh_0 rfl (Or.inl rfl) (Nat.le_of_ble_eq_true rfl) (c_X11_matchesOf (d := d) (b := (wset (H.1 2) (H.1 2 477).toNat k.toNat)) (k := k.toNat) (hb := (by omega)) (hc := (by omega)) (h2 := (by omega)) (ok := ok28) (wp := (by first | assumption | omega))) (fun r31a r31b ok32 => ?_)
              refine z_ireturn (pc := 109) dX11_worst_109 rfl (Or.inl rfl) ok32 (by omega) (by omega) ?_
              have e : S_worst (H.1 2) k what = ((if what = 0 then ((wset (H.1 2) (H.1 2 477).toNat k.toNat : Nat) : Int) else if what = 1 then pfal (H.1 2) (wset (H.1 2) (H.1 2 477).toNat k.toNat) (H.1 2 477).toNat else if what = 2 then pfal (H.1 2) (mtak (H.1 2) (wset (H.1 2) (H.1 2 477).toNat k.toNat) (H.1 2 477).toNat (H.1 2 477).toNat) (H.1 2 477).toNat else ((mtak (H.1 2) (wset (H.1 2) (H.1 2 477).toNat k.toNat) (H.1 2 477).toNat (H.1 2 477).toNat : Nat) : Int)), 6) := by unfold S_worst; rw [if_pos (by omega)]
              rw [e]
              refine ⟨?_, rfl⟩
              first | (exfalso; omega) | rw [if_neg (by omega), if_neg (by omega), if_pos (by omega)] | rw [if_neg (by omega), if_neg (by omega), if_neg (by omega)]
            · skip
              have mo := mtak_ok (H.1 2) (k := k.toNat) wo.1 wo.2 (by omega) (by omega) (H.1 2 477).toNat (Nat.le_refl _)
              refine x_aload_n (pc := 92) dX11_worst_92 (List.Mem.tail _ (List.Mem.head _)) ?_
              refine x_aload_n (pc := 93) dX11_worst_93 (List.Mem.tail _ (List.Mem.head _)) ?_
              refine x_iload_n (pc := 94) dX11_worst_94 (List.Mem.head _) ?_
              refine z_callVip (pc := 95) (i := mX11_matchesOf) (S := [.ref 0]) [.int (zN ((((wset (H.1 2) (H.1 2 477).toNat k.toNat : Nat) : Int))))] dX11_worst_95 ml_X11_341 ok_X11_matchesOf rfl sh_0 rfl (Or.inl rfl) (Nat.le_of_ble_eq_true rfl) (c_X11_matchesOf (d := d) (b := (wset (H.1 2) (H.1 2 477).toNat k.toNat)) (k := k.toNat) (hb := (by omega)) (hc := (by omega)) (h2 := (by omega)) (ok := ok28) (wp := (by first | assumption | omega))) (fun r33a r33b ok34 => ?_)
              refine z_callVip (pc := 98) (i := mX11_fallOf) (S := []) [.int (zN ((((mtak (H.1 2) (wset (H.1 2) (H.1 2 477).toNat k.toNat) (H.1 2 477).toNat (H.1 2 477).toNat : Nat) : Int))))] dX11_worst_98 ml_X11_338 ok_X11_fallOf rfl sh_0 rfl (Or.inl rfl) (Nat.le_of_ble_eq_true rfl) (c_X11_fallOf (d := d) (b := (mtak (H.1 2) (wset (H.1 2) (H.1 2 477).toNat k.toNat) (H.1 2 477).toNat (H.1 2 477).toNat)) (hb := (by omega)) (ok := ok34) (wp := (by first | assumption | omega))) (fun r35a r35b ok36 => ?_)
              refine x_goto (pc := 101) (tgt := 109) dX11_worst_101 (by decide) ?_
              refine z_ireturn (pc := 109) dX11_worst_109 rfl (Or.inl rfl) ok36 (by omega) (by omega) ?_
              have e : S_worst (H.1 2) k what = ((if what = 0 then ((wset (H.1 2) (H.1 2 477).toNat k.toNat : Nat) : Int) else if what = 1 then pfal (H.1 2) (wset (H.1 2) (H.1 2 477).toNat k.toNat) (H.1 2 477).toNat else if what = 2 then pfal (H.1 2) (mtak (H.1 2) (wset (H.1 2) (H.1 2 477).toNat k.toNat) (H.1 2 477).toNat (H.1 2 477).toNat) (H.1 2 477).toNat else ((mtak (H.1 2) (wset (H.1 2) (H.1 2 477).toNat k.toNat) (H.1 2 477).toNat (H.1 2 477).toNat : Nat) : Int)), 6) := by unfold S_worst; rw [if_pos (by omega)]
              rw [e]
              refine ⟨?_, rfl⟩
              first | (exfalso; omega) | rw [if_neg (by omega), if_neg (by omega), if_pos (by omega)] | rw [if_neg (by omega), if_neg (by omega), if_neg (by omega)]
          · skip
            refine x_iload_n (pc := 73) dX11_worst_73 (List.Mem.tail _ (List.Mem.tail _ (List.Mem.tail _ (List.Mem.head _)))) ?_
            refine z_if_ne (pc := 74) (tgt := 81) dX11_worst_74 (by decide) (by omega) (by omega) (fun hb37 => ?_) (fun hb37 => ?_)
            · skip
              refine x_aload_n (pc := 81) dX11_worst_81 (List.Mem.tail _ (List.Mem.head _)) ?_
              refine x_iload_n (pc := 82) dX11_worst_82 (List.Mem.head _) ?_
              refine z_callVip (pc := 83) (i := mX11_fallOf) (S := []) [.int (zN ((((wset (H.1 2) (H.1 2 477).toNat k.toNat : Nat) : Int))))] dX11_worst_83 ml_X11_338 ok_X11_fallOf rfl sh_0 rfl (Or.inl rfl) (Nat.le_of_ble_eq_true rfl) (c_X11_fallOf (d := d) (b := (wset (H.1 2) (H.1 2 477).toNat k.toNat)) (hb := (by omega)) (ok := ok28) (wp := (by first | assumption | omega))) (fun r38a r38b ok39 => ?_)
              refine z_ireturn (pc := 86) dX11_worst_86 rfl (Or.inl rfl) ok39 (by omega) (by omega) ?_
              have e : S_worst (H.1 2) k what = ((if what = 0 then ((wset (H.1 2) (H.1 2 477).toNat k.toNat : Nat) : Int) else if what = 1 then pfal (H.1 2) (wset (H.1 2) (H.1 2 477).toNat k.toNat) (H.1 2 477).toNat else if what = 2 then pfal (H.1 2) (mtak (H.1 2) (wset (H.1 2) (H.1 2 477).toNat k.toNat) (H.1 2 477).toNat (H.1 2 477).toNat) (H.1 2 477).toNat else ((mtak (H.1 2) (wset (H.1 2) (H.1 2 477).toNat k.toNat) (H.1 2 477).toNat (H.1 2 477).toNat : Nat) : Int)), 6) := by unfold S_worst; rw [if_pos (by omega)]
              rw [e]
              refine ⟨?_, rfl⟩
              first | (exfalso; omega) | rw [if_pos (by omega)] | rw [if_neg (by omega), if_pos (by omega)]
            · skip
              refine x_iload_n (pc := 77) dX11_worst_77 (List.Mem.head _) ?_
              refine x_goto (pc := 78) (tgt := 86) dX11_worst_78 (by decide) ?_
              refine z_ireturn (pc := 86) dX11_worst_86 rfl (Or.inl rfl) ok28 (by omega) (by omega) ?_
              have e : S_worst (H.1 2) k what = ((if what = 0 then ((wset (H.1 2) (H.1 2 477).toNat k.toNat : Nat) : Int) else if what = 1 then pfal (H.1 2) (wset (H.1 2) (H.1 2 477).toNat k.toNat) (H.1 2 477).toNat else if what = 2 then pfal (H.1 2) (mtak (H.1 2) (wset (H.1 2) (H.1 2 477).toNat k.toNat) (H.1 2 477).toNat (H.1 2 477).toNat) (H.1 2 477).toNat else ((mtak (H.1 2) (wset (H.1 2) (H.1 2 477).toNat k.toNat) (H.1 2 477).toNat (H.1 2 477).toNat : Nat) : Int)), 6) := by unfold S_worst; rw [if_pos (by omega)]
              rw [e]
              refine ⟨?_, rfl⟩
              first | (exfalso; omega) | rw [if_pos (by omega)] | rw [if_neg (by omega), if_pos (by omega)]
        · skip
          refine x_aload_n (pc := 54) dX11_worst_54 (List.Mem.head _) ?_
          refine z_ldc_w (pc := 55) (-1000000) dX11_worst_55 cn_X11_334 (by decide) ?_
          refine z_callVip (pc := 58) (i := mX11_none) (S := []) [.int (zN ((-1000000)))] dX11_worst_58 ml_X11_283 ok_X11_none rfl sh_0 rfl (Or.inl rfl) (Nat.le_of_ble_eq_true rfl) (c_X11_none (d := d + 1) (a := ((-1000000))) (a1 := (by omega)) (a2 := (by omega)) (ok := ok8) (cn := (by first | assumption | omega))) (fun r40a r40b ok41 => ?_)
          show Ev _ _ _ _ _ _ _ (eh (wI H 1 0 (H.1 1 0 + 1)))
          refine z_ireturn (pc := 61) dX11_worst_61 rfl (Or.inl rfl) ok41 (by omega) (by omega) ?_
          have e : S_worst (H.1 2) k what = (-1000000, 0) := by unfold S_worst; rw [if_neg (by omega)]
          rw [e]
          exact ⟨rfl, rfl⟩
    · skip
      refine z_if_eq (pc := 32) (tgt := 54) dX11_worst_32 (by decide) (by decide) (by decide) (fun _ => ?_) (fun h => absurd h (by decide))
      refine x_aload_n (pc := 54) dX11_worst_54 (List.Mem.head _) ?_
      refine z_ldc_w (pc := 55) (-1000000) dX11_worst_55 cn_X11_334 (by decide) ?_
      refine z_callVip (pc := 58) (i := mX11_none) (S := []) [.int (zN ((-1000000)))] dX11_worst_58 ml_X11_283 ok_X11_none rfl sh_0 rfl (Or.inl rfl) (Nat.le_of_ble_eq_true rfl) (c_X11_none (d := d + 1) (a := ((-1000000))) (a1 := (by omega)) (a2 := (by omega)) (ok := ok8) (cn := (by first | assumption | omega))) (fun r43a r43b ok44 => ?_)
      show Ev _ _ _ _ _ _ _ (eh (wI H 1 0 (H.1 1 0 + 1)))
      refine z_ireturn (pc := 61) dX11_worst_61 rfl (Or.inl rfl) ok44 (by omega) (by omega) ?_
      have e : S_worst (H.1 2) k what = (-1000000, 0) := by unfold S_worst; rw [if_neg (by omega)]
      rw [e]
      exact ⟨rfl, rfl⟩
  · skip
    refine z_if_eq (pc := 20) (tgt := 54) dX11_worst_20 (by decide) (by decide) (by decide) (fun _ => ?_) (fun h => absurd h (by decide))
    refine x_aload_n (pc := 54) dX11_worst_54 (List.Mem.head _) ?_
    refine z_ldc_w (pc := 55) (-1000000) dX11_worst_55 cn_X11_334 (by decide) ?_
    refine z_callVip (pc := 58) (i := mX11_none) (S := []) [.int (zN ((-1000000)))] dX11_worst_58 ml_X11_283 ok_X11_none rfl sh_0 rfl (Or.inl rfl) (Nat.le_of_ble_eq_true rfl) (c_X11_none (d := d + 1) (a := ((-1000000))) (a1 := (by omega)) (a2 := (by omega)) (ok := ok4) (cn := (by first | assumption | omega))) (fun r46a r46b ok47 => ?_)
    show Ev _ _ _ _ _ _ _ (eh (wI H 1 0 (H.1 1 0 + 1)))
    refine z_ireturn (pc := 61) dX11_worst_61 rfl (Or.inl rfl) ok47 (by omega) (by omega) ?_
    have e : S_worst (H.1 2) k what = (-1000000, 0) := by unfold S_worst; rw [if_neg (by omega)]
    rw [e]
    exact ⟨rfl, rfl⟩

theorem c_X10_measure {d : Nat} {H : ZH} (ok : okZ H) {m cost left : Int} (m1 : -2147483648 ≤ m) (m2 : m ≤ 2147483647) (cost1 : -2147483648 ≤ cost) (cost2 : cost ≤ 2147483647) (left1 : -2147483648 ≤ left) (left2 : left ≤ 2147483647) (cn : cntOK H 25) : EvC zX (d + 2) mX10_measure [.ref 20, .int (zN (m)), .int (zN (cost)), .int (zN (left))] (eh H) (zPi (fun (r : Int) (H1 : ZH) => r = (S_measure m cost left).1 ∧ H1 = if (S_measure m cost left).2 = 6 then (wI (wI (wI H 119 0 (-1)) 78 m.toNat cost) 79 m.toNat left) else bumpC (S_measure m cost left).2 H)) := by
  show _ ∧ Ev zX mX10_measure (EvC zX (d + 1)) (zPi (fun (r : Int) (H1 : ZH) => r = (S_measure m cost left).1 ∧ H1 = if (S_measure m cost left).2 = 6 then (wI (wI (wI H 119 0 (-1)) 78 m.toNat cost) 79 m.toNat left) else bumpC (S_measure m cost left).2 H)) 0 [(0, .ref 20), (1, .int (zN (m))), (2, .int (zN (cost))), (3, .int (zN (left)))] [] (eh H)
  refine ⟨Nat.le_of_ble_eq_true rfl, ?_⟩
  refine x_iload_n (pc := 0) dX10_measure_0 (List.Mem.tail _ (List.Mem.head _)) ?_
  refine z_if_lt (pc := 1) (tgt := 9) dX10_measure_1 (by decide) (by omega) (by omega) (fun hb1 => ?_) (fun hb1 => ?_)
  · skip
    refine x_aload_n (pc := 9) dX10_measure_9 (List.Mem.head _) ?_
    refine z_bipush (pc := 10) dX10_measure_10 bp_m2 ?_
    refine z_callVip (pc := 12) (i := mX10_refuse) (S := []) [.int (zN ((-2)))] dX10_measure_12 ml_X10_97 ok_X10_refuse rfl sh_20 rfl (Or.inl rfl) (Nat.le_of_ble_eq_true rfl) (c_X10_refuse (d := d) (code := ((-2))) (code1 := (by omega)) (code2 := (by omega)) (ok := ok) (cn := (by first | assumption | omega))) (fun r2a r2b ok3 => ?_)
    show Ev _ _ _ _ _ _ _ (eh (wI H 25 ((refIx ((-2)))) (H.1 25 (refIx ((-2))) + 1)))
    refine z_ireturn (pc := 15) dX10_measure_15 rfl (Or.inl rfl) ok3 (by omega) (by omega) ?_
    have e : S_measure m cost left = (-2, 0) := by unfold S_measure; rw [if_neg (by omega)]
    rw [e]
    exact ⟨rfl, rfl⟩
  · skip
    refine x_iload_n (pc := 4) dX10_measure_4 (List.Mem.tail _ (List.Mem.head _)) ?_
    refine z_iconst (pc := 5) dX10_measure_5 ?_
    refine z_icmp_lt (pc := 6) (tgt := 16) dX10_measure_6 (by decide) (by omega) (by omega) (by decide) (by decide) (fun hb4 => ?_) (fun hb4 => ?_)
    · skip
      refine x_iload_n (pc := 16) dX10_measure_16 (List.Mem.tail _ (List.Mem.tail _ (List.Mem.head _))) ?_
      refine z_iconst (pc := 17) dX10_measure_17 ?_
      refine z_icmp_lt (pc := 18) (tgt := 36) dX10_measure_18 (by decide) (by omega) (by omega) (by decide) (by decide) (fun hb5 => ?_) (fun hb5 => ?_)
      · skip
        refine x_aload_n (pc := 36) dX10_measure_36 (List.Mem.head _) ?_
        refine z_bipush (pc := 37) dX10_measure_37 bp_m3 ?_
        refine z_callVip (pc := 39) (i := mX10_refuse) (S := []) [.int (zN ((-3)))] dX10_measure_39 ml_X10_97 ok_X10_refuse rfl sh_20 rfl (Or.inl rfl) (Nat.le_of_ble_eq_true rfl) (c_X10_refuse (d := d) (code := ((-3))) (code1 := (by omega)) (code2 := (by omega)) (ok := ok) (cn := (by first | assumption | omega))) (fun r6a r6b ok7 => ?_)
        show Ev _ _ _ _ _ _ _ (eh (wI H 25 ((refIx ((-3)))) (H.1 25 (refIx ((-3))) + 1)))
        refine z_ireturn (pc := 42) dX10_measure_42 rfl (Or.inl rfl) ok7 (by omega) (by omega) ?_
        have e : S_measure m cost left = (-3, 1) := by unfold S_measure; rw [if_pos (by omega), if_neg (by omega)]
        rw [e]
        exact ⟨rfl, rfl⟩
      · skip
        refine x_iload_n (pc := 21) dX10_measure_21 (List.Mem.tail _ (List.Mem.tail _ (List.Mem.head _))) ?_
        refine z_bipush (pc := 22) dX10_measure_22 bp_99 ?_
        refine z_icmp_gt (pc := 24) (tgt := 36) dX10_measure_24 (by decide) (by omega) (by omega) (by decide) (by decide) (fun hb8 => ?_) (fun hb8 => ?_)
        · skip
          refine x_aload_n (pc := 36) dX10_measure_36 (List.Mem.head _) ?_
          refine z_bipush (pc := 37) dX10_measure_37 bp_m3 ?_
          refine z_callVip (pc := 39) (i := mX10_refuse) (S := []) [.int (zN ((-3)))] dX10_measure_39 ml_X10_97 ok_X10_refuse rfl sh_20 rfl (Or.inl rfl) (Nat.le_of_ble_eq_true rfl) (c_X10_refuse (d := d) (code := ((-3))) (code1 := (by omega)) (code2 := (by omega)) (ok := ok) (cn := (by first | assumption | omega))) (fun r9a r9b ok10 => ?_)
          show Ev _ _ _ _ _ _ _ (eh (wI H 25 ((refIx ((-3)))) (H.1 25 (refIx ((-3))) + 1)))
          refine z_ireturn (pc := 42) dX10_measure_42 rfl (Or.inl rfl) ok10 (by omega) (by omega) ?_
          have e : S_measure m cost left = (-3, 1) := by unfold S_measure; rw [if_pos (by omega), if_neg (by omega)]
          rw [e]
          exact ⟨rfl, rfl⟩
        · skip
          refine x_iload_n (pc := 27) dX10_measure_27 (List.Mem.tail _ (List.Mem.tail _ (List.Mem.tail _ (List.Mem.head _)))) ?_
          refine z_bipush (pc := 28) dX10_measure_28 bp_100 ?_
          refine z_callSbp (pc := 30) (i := mX10_isWithin) (S := []) [.int (zN (left)), .int (zN (100))] dX10_measure_30 ml_X10_302 ok_X10_isWithin rfl (Or.inr rfl) (Nat.le_of_ble_eq_true rfl) (c_X10_isWithin (d := d) (v := left) (hi := 100) (v1 := (by omega)) (v2 := (by omega)) (hi1 := (by omega)) (hi2 := (by omega)) (ok := ok)) (fun hc13 ok12 => ?_) (fun hc13 ok12 => ?_)
          · skip
            refine z_if_ne (pc := 33) (tgt := 43) dX10_measure_33 (by decide) (by decide) (by decide) (fun _ => ?_) (fun h => absurd h (by decide))
            refine x_aload_n (pc := 43) dX10_measure_43 (List.Mem.head _) ?_
            refine z_getR (pc := 44) (k := 12) (r := 119) dX10_measure_44 lf_X10_75 sh_20 rfl rf_20_12 ?_
            refine z_iconst (pc := 47) dX10_measure_47 ?_
            refine z_putI (pc := 48) (k := 0) dX10_measure_48 lp_X10_306 sh_119 rfl ?_
            have ok15 := okI ok12 119 0 (v := (-1)) (by decide) (by decide)
            refine x_aload_n (pc := 51) dX10_measure_51 (List.Mem.head _) ?_
            refine z_getR (pc := 52) (k := 3) (r := 98) dX10_measure_52 lf_X10_23 sh_20 rfl rf_20_3 ?_
            refine z_getR (pc := 55) (k := 2) (r := 71) dX10_measure_55 lf_X10_293 sh_98 rfl rf_98_2 ?_
            refine z_getR (pc := 58) (k := 7) (r := 78) dX10_measure_58 lf_X10_354 sh_71 rfl rf_71_7 ?_
            refine x_iload_n (pc := 61) dX10_measure_61 (List.Mem.tail _ (List.Mem.head _)) ?_
            refine x_iload_n (pc := 62) dX10_measure_62 (List.Mem.tail _ (List.Mem.tail _ (List.Mem.head _))) ?_
            refine z_iast (pc := 63) (j := m.toNat) (v := cost) dX10_measure_63 sh_78 (by omega) (by omega) (by decide) ?_
            have ok16 := okI ok15 78 m.toNat (v := cost) (by omega) (by omega)
            refine x_aload_n (pc := 64) dX10_measure_64 (List.Mem.head _) ?_
            refine z_getR (pc := 65) (k := 3) (r := 98) dX10_measure_65 lf_X10_23 sh_20 rfl rf_20_3 ?_
            refine z_getR (pc := 68) (k := 2) (r := 71) dX10_measure_68 lf_X10_293 sh_98 rfl rf_98_2 ?_
            refine z_getR (pc := 71) (k := 8) (r := 79) dX10_measure_71 lf_X10_357 sh_71 rfl rf_71_8 ?_
            refine x_iload_n (pc := 74) dX10_measure_74 (List.Mem.tail _ (List.Mem.head _)) ?_
            refine x_iload_n (pc := 75) dX10_measure_75 (List.Mem.tail _ (List.Mem.tail _ (List.Mem.tail _ (List.Mem.head _)))) ?_
            refine z_iast (pc := 76) (j := m.toNat) (v := left) dX10_measure_76 sh_79 (by omega) (by omega) (by decide) ?_
            have ok17 := okI ok16 79 m.toNat (v := left) (by omega) (by omega)
            refine z_iconst (pc := 77) dX10_measure_77 ?_
            refine z_ireturn (pc := 78) dX10_measure_78 rfl (Or.inl rfl) ok17 (by decide) (by decide) ?_
            have e : S_measure m cost left = (0, 6) := by unfold S_measure; rw [if_pos (by omega), if_pos (by omega)]
            rw [e]
            exact ⟨rfl, rfl⟩
          · skip
            refine z_if_ne (pc := 33) (tgt := 43) dX10_measure_33 (by decide) (by decide) (by decide) (fun h => absurd h (by decide)) (fun _ => ?_)
            refine x_aload_n (pc := 36) dX10_measure_36 (List.Mem.head _) ?_
            refine z_bipush (pc := 37) dX10_measure_37 bp_m3 ?_
            refine z_callVip (pc := 39) (i := mX10_refuse) (S := []) [.int (zN ((-3)))] dX10_measure_39 ml_X10_97 ok_X10_refuse rfl sh_20 rfl (Or.inl rfl) (Nat.le_of_ble_eq_true rfl) (c_X10_refuse (d := d) (code := ((-3))) (code1 := (by omega)) (code2 := (by omega)) (ok := ok12) (cn := (by first | assumption | omega))) (fun r19a r19b ok20 => ?_)
            show Ev _ _ _ _ _ _ _ (eh (wI H 25 ((refIx ((-3)))) (H.1 25 (refIx ((-3))) + 1)))
            refine z_ireturn (pc := 42) dX10_measure_42 rfl (Or.inl rfl) ok20 (by omega) (by omega) ?_
            have e : S_measure m cost left = (-3, 1) := by unfold S_measure; rw [if_pos (by omega), if_neg (by omega)]
            rw [e]
            exact ⟨rfl, rfl⟩
    · skip
      refine x_aload_n (pc := 9) dX10_measure_9 (List.Mem.head _) ?_
      refine z_bipush (pc := 10) dX10_measure_10 bp_m2 ?_
      refine z_callVip (pc := 12) (i := mX10_refuse) (S := []) [.int (zN ((-2)))] dX10_measure_12 ml_X10_97 ok_X10_refuse rfl sh_20 rfl (Or.inl rfl) (Nat.le_of_ble_eq_true rfl) (c_X10_refuse (d := d) (code := ((-2))) (code1 := (by omega)) (code2 := (by omega)) (ok := ok) (cn := (by first | assumption | omega))) (fun r21a r21b ok22 => ?_)
      show Ev _ _ _ _ _ _ _ (eh (wI H 25 ((refIx ((-2)))) (H.1 25 (refIx ((-2))) + 1)))
      refine z_ireturn (pc := 15) dX10_measure_15 rfl (Or.inl rfl) ok22 (by omega) (by omega) ?_
      have e : S_measure m cost left = (-2, 0) := by unfold S_measure; rw [if_neg (by omega)]
      rw [e]
      exact ⟨rfl, rfl⟩

theorem c_X11_measure {d : Nat} {H : ZH} (ok : okZ H) {m cost left : Int} (m1 : -2147483648 ≤ m) (m2 : m ≤ 2147483647) (cost1 : -2147483648 ≤ cost) (cost2 : cost ≤ 2147483647) (left1 : -2147483648 ≤ left) (left2 : left ≤ 2147483647) (cm : cntOK H 1) (th : H.1 0 0 = 0) : EvC zX (d + 2) mX11_measure [.ref 0, .int (zN (m)), .int (zN (cost)), .int (zN (left))] (eh H) (zPi (fun (r : Int) (H1 : ZH) => r = (S_measure m cost left).1 ∧ H1 = if (S_measure m cost left).2 = 6 then (wI (wI H 2 (550 + m.toNat) cost) 2 (554 + m.toNat) left) else bumpM (S_measure m cost left).2 H)) := by
  show _ ∧ Ev zX mX11_measure (EvC zX (d + 1)) (zPi (fun (r : Int) (H1 : ZH) => r = (S_measure m cost left).1 ∧ H1 = if (S_measure m cost left).2 = 6 then (wI (wI H 2 (550 + m.toNat) cost) 2 (554 + m.toNat) left) else bumpM (S_measure m cost left).2 H)) 0 [(0, .ref 0), (1, .int (zN (m))), (2, .int (zN (cost))), (3, .int (zN (left)))] [] (eh H)
  refine ⟨Nat.le_of_ble_eq_true rfl, ?_⟩
  refine x_aload_n (pc := 0) dX11_measure_0 (List.Mem.head _) ?_
  refine z_iconst (pc := 1) dX11_measure_1 ?_
  refine z_putI (pc := 2) (k := 0) dX11_measure_2 lp_X11_1 sh_0 rfl ?_
  have ok1 := okI ok 0 0 (v := 0) (by decide) (by decide)
  rw [wI_same th]
  refine x_iload_n (pc := 5) dX11_measure_5 (List.Mem.tail _ (List.Mem.head _)) ?_
  refine z_i2l (pc := 6) dX11_measure_6 (by omega) (by omega) ?_
  refine z_lconst (pc := 7) 0 dX11_measure_7 rfl ?_
  refine z_ldc2_w (pc := 8) 3 dX11_measure_8 cl_X11_213 (by decide) ?_
  refine z_callSbp (pc := 11) (i := mX11_within) (S := []) [.long (zL (m)), .long (zL (0)), .long (zL (3))] dX11_measure_11 ml_X11_152 ok_X11_within rfl (Or.inr rfl) (Nat.le_of_ble_eq_true rfl) (c_X11_within (d := d) (v := m) (lo := 0) (hi := 3) (v1 := (by omega)) (v2 := (by omega)) (lo1 := (by omega)) (lo2 := (by omega)) (hi1 := (by omega)) (hi2 := (by omega)) (ok := ok)) (fun hc4 ok3 => ?_) (fun hc4 ok3 => ?_)
  · skip
    refine z_if_ne (pc := 14) (tgt := 24) dX11_measure_14 (by decide) (by decide) (by decide) (fun _ => ?_) (fun h => absurd h (by decide))
    refine x_iload_n (pc := 24) dX11_measure_24 (List.Mem.tail _ (List.Mem.tail _ (List.Mem.head _))) ?_
    refine z_i2l (pc := 25) dX11_measure_25 (by omega) (by omega) ?_
    refine z_lconst (pc := 26) 1 dX11_measure_26 rfl ?_
    refine z_ldc2_w (pc := 27) 99 dX11_measure_27 cl_X11_281 (by decide) ?_
    refine z_callSbp (pc := 30) (i := mX11_within) (S := []) [.long (zL (cost)), .long (zL (1)), .long (zL (99))] dX11_measure_30 ml_X11_152 ok_X11_within rfl (Or.inr rfl) (Nat.le_of_ble_eq_true rfl) (c_X11_within (d := d) (v := cost) (lo := 1) (hi := 99) (v1 := (by omega)) (v2 := (by omega)) (lo1 := (by omega)) (lo2 := (by omega)) (hi1 := (by omega)) (hi2 := (by omega)) (ok := ok3)) (fun hc8 ok7 => ?_) (fun hc8 ok7 => ?_)
    · skip
      refine z_if_eq (pc := 33) (tgt := 48) dX11_measure_33 (by decide) (by decide) (by decide) (fun h => absurd h (by decide)) (fun _ => ?_)
      refine x_iload_n (pc := 36) dX11_measure_36 (List.Mem.tail _ (List.Mem.tail _ (List.Mem.tail _ (List.Mem.head _)))) ?_
      refine z_i2l (pc := 37) dX11_measure_37 (by omega) (by omega) ?_
      refine z_lconst (pc := 38) 0 dX11_measure_38 rfl ?_
      refine z_ldc2_w (pc := 39) 100 dX11_measure_39 cl_X11_286 (by decide) ?_
      refine z_callSbp (pc := 42) (i := mX11_within) (S := []) [.long (zL (left)), .long (zL (0)), .long (zL (100))] dX11_measure_42 ml_X11_152 ok_X11_within rfl (Or.inr rfl) (Nat.le_of_ble_eq_true rfl) (c_X11_within (d := d) (v := left) (lo := 0) (hi := 100) (v1 := (by omega)) (v2 := (by omega)) (lo1 := (by omega)) (lo2 := (by omega)) (hi1 := (by omega)) (hi2 := (by omega)) (ok := ok7)) (fun hc12 ok11 => ?_) (fun hc12 ok11 => ?_)
      · skip
        refine z_if_ne (pc := 45) (tgt := 55) dX11_measure_45 (by decide) (by decide) (by decide) (fun _ => ?_) (fun h => absurd h (by decide))
        refine x_aload_n (pc := 55) dX11_measure_55 (List.Mem.head _) ?_
        refine z_getR (pc := 56) (k := 2) (r := 2) dX11_measure_56 lf_X11_17 sh_0 rfl rf_0_2 ?_
        refine z_sipush (pc := 59) dX11_measure_59 sp_550 ?_
        refine x_iload_n (pc := 62) dX11_measure_62 (List.Mem.tail _ (List.Mem.head _)) ?_
        refine z_iadd (pc := 63) dX11_measure_63 ?_
        refine x_iload_n (pc := 64) dX11_measure_64 (List.Mem.tail _ (List.Mem.tail _ (List.Mem.head _))) ?_
        refine z_iast (pc := 65) (j := 550 + m.toNat) (v := cost) dX11_measure_65 sh_2 (by omega) (by omega) (by decide) ?_
        have ok14 := okI ok11 2 (550 + m.toNat) (v := cost) (by omega) (by omega)
        refine x_aload_n (pc := 66) dX11_measure_66 (List.Mem.head _) ?_
        refine z_getR (pc := 67) (k := 2) (r := 2) dX11_measure_67 lf_X11_17 sh_0 rfl rf_0_2 ?_
        refine z_sipush (pc := 70) dX11_measure_70 sp_554 ?_
        refine x_iload_n (pc := 73) dX11_measure_73 (List.Mem.tail _ (List.Mem.head _)) ?_
        refine z_iadd (pc := 74) dX11_measure_74 ?_
        refine x_iload_n (pc := 75) dX11_measure_75 (List.Mem.tail _ (List.Mem.tail _ (List.Mem.tail _ (List.Mem.head _)))) ?_
        refine z_iast (pc := 76) (j := 554 + m.toNat) (v := left) dX11_measure_76 sh_2 (by omega) (by omega) (by decide) ?_
        have ok15 := okI ok14 2 (554 + m.toNat) (v := left) (by omega) (by omega)
        refine z_iconst (pc := 77) dX11_measure_77 ?_
        refine z_ireturn (pc := 78) dX11_measure_78 rfl (Or.inl rfl) ok15 (by decide) (by decide) ?_
        have e : S_measure m cost left = (0, 6) := by unfold S_measure; rw [if_pos (by omega), if_pos (by omega)]
        rw [e]
        exact ⟨rfl, rfl⟩
      · skip
        refine z_if_ne (pc := 45) (tgt := 55) dX11_measure_45 (by decide) (by decide) (by decide) (fun h => absurd h (by decide)) (fun _ => ?_)
        refine x_aload_n (pc := 48) dX11_measure_48 (List.Mem.head _) ?_
        refine z_bipush (pc := 49) dX11_measure_49 bp_m3 ?_
        refine z_callVip (pc := 51) (i := mX11_no) (S := []) [.int (zN ((-3)))] dX11_measure_51 ml_X11_89 ok_X11_no rfl sh_0 rfl (Or.inl rfl) (Nat.le_of_ble_eq_true rfl) (c_X11_no (d := d) (code := ((-3))) (code1 := (by omega)) (code2 := (by omega)) (ok := ok11) (cn := (by first | assumption | omega))) (fun r17a r17b ok18 => ?_)
        show Ev _ _ _ _ _ _ _ (eh (wI H 1 ((refIx ((-3)))) (H.1 1 (refIx ((-3))) + 1)))
        refine z_ireturn (pc := 54) dX11_measure_54 rfl (Or.inl rfl) ok18 (by omega) (by omega) ?_
        have e : S_measure m cost left = (-3, 1) := by unfold S_measure; rw [if_pos (by omega), if_neg (by omega)]
        rw [e]
        exact ⟨rfl, rfl⟩
    · skip
      refine z_if_eq (pc := 33) (tgt := 48) dX11_measure_33 (by decide) (by decide) (by decide) (fun _ => ?_) (fun h => absurd h (by decide))
      refine x_aload_n (pc := 48) dX11_measure_48 (List.Mem.head _) ?_
      refine z_bipush (pc := 49) dX11_measure_49 bp_m3 ?_
      refine z_callVip (pc := 51) (i := mX11_no) (S := []) [.int (zN ((-3)))] dX11_measure_51 ml_X11_89 ok_X11_no rfl sh_0 rfl (Or.inl rfl) (Nat.le_of_ble_eq_true rfl) (c_X11_no (d := d) (code := ((-3))) (code1 := (by omega)) (code2 := (by omega)) (ok := ok7) (cn := (by first | assumption | omega))) (fun r20a r20b ok21 => ?_)
      show Ev _ _ _ _ _ _ _ (eh (wI H 1 ((refIx ((-3)))) (H.1 1 (refIx ((-3))) + 1)))
      refine z_ireturn (pc := 54) dX11_measure_54 rfl (Or.inl rfl) ok21 (by omega) (by omega) ?_
      have e : S_measure m cost left = (-3, 1) := by unfold S_measure; rw [if_pos (by omega), if_neg (by omega)]
      rw [e]
      exact ⟨rfl, rfl⟩
  · skip
    refine z_if_ne (pc := 14) (tgt := 24) dX11_measure_14 (by decide) (by decide) (by decide) (fun h => absurd h (by decide)) (fun _ => ?_)
    refine x_aload_n (pc := 17) dX11_measure_17 (List.Mem.head _) ?_
    refine z_bipush (pc := 18) dX11_measure_18 bp_m2 ?_
    refine z_callVip (pc := 20) (i := mX11_no) (S := []) [.int (zN ((-2)))] dX11_measure_20 ml_X11_89 ok_X11_no rfl sh_0 rfl (Or.inl rfl) (Nat.le_of_ble_eq_true rfl) (c_X11_no (d := d) (code := ((-2))) (code1 := (by omega)) (code2 := (by omega)) (ok := ok3) (cn := (by first | assumption | omega))) (fun r23a r23b ok24 => ?_)
    show Ev _ _ _ _ _ _ _ (eh (wI H 1 ((refIx ((-2)))) (H.1 1 (refIx ((-2))) + 1)))
    refine z_ireturn (pc := 23) dX11_measure_23 rfl (Or.inl rfl) ok24 (by omega) (by omega) ?_
    have e : S_measure m cost left = (-2, 0) := by unfold S_measure; rw [if_neg (by omega)]
    rw [e]
    exact ⟨rfl, rfl⟩
