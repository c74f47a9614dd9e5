/-! GROUP F2: the walks. -/
theorem c_X8_take_100_98 {d : Nat} {H : ZH} (ok : okZ H)  (hz : 0 ≤ H.1 59 4 ∧ H.1 59 4 ≤ 400) : EvC zX (d + 2) mX8_take [.ref 100, .ref 98] (eh H) (zPv (fun (H1 : ZH) => TakeSt H H1 100 40 63 80 98 35 59 71)) := by
  show _ ∧ Ev zX mX8_take (EvC zX (d + 1)) (zPv (fun (H1 : ZH) => TakeSt H H1 100 40 63 80 98 35 59 71)) 0 [(0, .ref 100), (1, .ref 98)] [] (eh H)
  refine ⟨Nat.le_of_ble_eq_true rfl, ?_⟩
  refine x_aload_n (pc := 0) dX8_take_0 (List.Mem.head _) ?_
  refine z_getR (pc := 1) (k := 0) (r := 40) dX8_take_1 lf_X8_10 sh_100 rfl rf_100_0 ?_
  refine x_aload_n (pc := 4) dX8_take_4 (List.Mem.tail _ (List.Mem.head _)) ?_
  refine z_getR (pc := 5) (k := 0) (r := 35) dX8_take_5 lf_X8_10 sh_98 rfl rf_98_0 ?_
  refine z_callVv (pc := 8) (i := mX6_take) (S := []) [.ref 35] dX8_take_8 ml_X8_34 ok_X6_take rfl sh_40 rfl rfl (Nat.le_of_ble_eq_true rfl) (c_X6_take_40_35 (d := d) (ok := ok)) ?_
  intro H4 ok2 hp3
  have t1 := hp3
  have hz2 : 0 ≤ H4.1 59 4 ∧ H4.1 59 4 ≤ 400 := by rw [hp3.2.1 59 (by omega)]; exact hz
  refine x_aload_n (pc := 11) dX8_take_11 (List.Mem.head _) ?_
  refine z_getR (pc := 12) (k := 1) (r := 63) dX8_take_12 lf_X8_19 sh_100 rfl rf_100_1 ?_
  refine x_aload_n (pc := 15) dX8_take_15 (List.Mem.tail _ (List.Mem.head _)) ?_
  refine z_getR (pc := 16) (k := 1) (r := 59) dX8_take_16 lf_X8_19 sh_98 rfl rf_98_1 ?_
  refine z_callVv (pc := 19) (i := mX1_take) (S := []) [.ref 59] dX8_take_19 ml_X8_38 ok_X1_take rfl sh_63 rfl rfl (Nat.le_of_ble_eq_true rfl) (c_X1_take_63_59 (d := d) (ok := ok2) (hz := hz2)) ?_
  intro H8 ok6 hp7
  have t2 := hp7
  refine x_aload_n (pc := 22) dX8_take_22 (List.Mem.head _) ?_
  refine z_getR (pc := 23) (k := 2) (r := 80) dX8_take_23 lf_X8_26 sh_100 rfl rf_100_2 ?_
  refine x_aload_n (pc := 26) dX8_take_26 (List.Mem.tail _ (List.Mem.head _)) ?_
  refine z_getR (pc := 27) (k := 2) (r := 71) dX8_take_27 lf_X8_26 sh_98 rfl rf_98_2 ?_
  refine z_callVv (pc := 30) (i := mX2_take) (S := []) [.ref 71] dX8_take_30 ml_X8_41 ok_X2_take rfl sh_80 rfl rfl (Nat.le_of_ble_eq_true rfl) (c_X2_take_80_71 (d := d) (ok := ok6)) ?_
  intro H12 ok10 hp11
  have t3 := hp11
  refine x_aload_n (pc := 33) dX8_take_33 (List.Mem.tail _ (List.Mem.head _)) ?_
  refine z_getR (pc := 34) (k := 3) (r := 99) dX8_take_34 lf_X8_30 sh_98 rfl rf_98_3 ?_
  refine z_iconst (pc := 37) dX8_take_37 ?_
  refine x_aload_n (pc := 38) dX8_take_38 (List.Mem.head _) ?_
  refine z_getR (pc := 39) (k := 3) (r := 101) dX8_take_39 lf_X8_30 sh_100 rfl rf_100_3 ?_
  refine z_iconst (pc := 42) dX8_take_42 ?_
  refine x_aload_n (pc := 43) dX8_take_43 (List.Mem.head _) ?_
  refine z_getR (pc := 44) (k := 3) (r := 101) dX8_take_44 lf_X8_30 sh_100 rfl rf_100_3 ?_
  refine z_alen (pc := 47) dX8_take_47 sh_101 (by decide) ?_
  refine z_acpyf (pc := 48) (sp := 0) (dp := 0) (n := 20) (f := H12.1 99) (g := H12.1 101) dX8_take_48 ml_X8_44 sh_99 sh_101 rfl rfl rfl (by omega) (by omega) (by decide) (by decide) (Nat.le_of_ble_eq_true rfl) rfl rfl ?_
  have ok13 := okCf ok10 101 99 0 0 20 rfl rfl
  refine z_vreturn (pc := 51) dX8_take_51 rfl ok13 ?_
  exact ⟨_, _, _, t1, t2, t3, rfl⟩

theorem c_X8_take_102_98 {d : Nat} {H : ZH} (ok : okZ H)  (hz : 0 ≤ H.1 59 4 ∧ H.1 59 4 ≤ 400) : EvC zX (d + 2) mX8_take [.ref 102, .ref 98] (eh H) (zPv (fun (H1 : ZH) => TakeSt H H1 102 45 67 89 98 35 59 71)) := by
  show _ ∧ Ev zX mX8_take (EvC zX (d + 1)) (zPv (fun (H1 : ZH) => TakeSt H H1 102 45 67 89 98 35 59 71)) 0 [(0, .ref 102), (1, .ref 98)] [] (eh H)
  refine ⟨Nat.le_of_ble_eq_true rfl, ?_⟩
  refine x_aload_n (pc := 0) dX8_take_0 (List.Mem.head _) ?_
  refine z_getR (pc := 1) (k := 0) (r := 45) dX8_take_1 lf_X8_10 sh_102 rfl rf_102_0 ?_
  refine x_aload_n (pc := 4) dX8_take_4 (List.Mem.tail _ (List.Mem.head _)) ?_
  refine z_getR (pc := 5) (k := 0) (r := 35) dX8_take_5 lf_X8_10 sh_98 rfl rf_98_0 ?_
  refine z_callVv (pc := 8) (i := mX6_take) (S := []) [.ref 35] dX8_take_8 ml_X8_34 ok_X6_take rfl sh_45 rfl rfl (Nat.le_of_ble_eq_true rfl) (c_X6_take_45_35 (d := d) (ok := ok)) ?_
  intro H4 ok2 hp3
  have t1 := hp3
  have hz2 : 0 ≤ H4.1 59 4 ∧ H4.1 59 4 ≤ 400 := by rw [hp3.2.1 59 (by omega)]; exact hz
  refine x_aload_n (pc := 11) dX8_take_11 (List.Mem.head _) ?_
  refine z_getR (pc := 12) (k := 1) (r := 67) dX8_take_12 lf_X8_19 sh_102 rfl rf_102_1 ?_
  refine x_aload_n (pc := 15) dX8_take_15 (List.Mem.tail _ (List.Mem.head _)) ?_
  refine z_getR (pc := 16) (k := 1) (r := 59) dX8_take_16 lf_X8_19 sh_98 rfl rf_98_1 ?_
  refine z_callVv (pc := 19) (i := mX1_take) (S := []) [.ref 59] dX8_take_19 ml_X8_38 ok_X1_take rfl sh_67 rfl rfl (Nat.le_of_ble_eq_true rfl) (c_X1_take_67_59 (d := d) (ok := ok2) (hz := hz2)) ?_
  intro H8 ok6 hp7
  have t2 := hp7
  refine x_aload_n (pc := 22) dX8_take_22 (List.Mem.head _) ?_
  refine z_getR (pc := 23) (k := 2) (r := 89) dX8_take_23 lf_X8_26 sh_102 rfl rf_102_2 ?_
  refine x_aload_n (pc := 26) dX8_take_26 (List.Mem.tail _ (List.Mem.head _)) ?_
  refine z_getR (pc := 27) (k := 2) (r := 71) dX8_take_27 lf_X8_26 sh_98 rfl rf_98_2 ?_
  refine z_callVv (pc := 30) (i := mX2_take) (S := []) [.ref 71] dX8_take_30 ml_X8_41 ok_X2_take rfl sh_89 rfl rfl (Nat.le_of_ble_eq_true rfl) (c_X2_take_89_71 (d := d) (ok := ok6)) ?_
  intro H12 ok10 hp11
  have t3 := hp11
  refine x_aload_n (pc := 33) dX8_take_33 (List.Mem.tail _ (List.Mem.head _)) ?_
  refine z_getR (pc := 34) (k := 3) (r := 99) dX8_take_34 lf_X8_30 sh_98 rfl rf_98_3 ?_
  refine z_iconst (pc := 37) dX8_take_37 ?_
  refine x_aload_n (pc := 38) dX8_take_38 (List.Mem.head _) ?_
  refine z_getR (pc := 39) (k := 3) (r := 103) dX8_take_39 lf_X8_30 sh_102 rfl rf_102_3 ?_
  refine z_iconst (pc := 42) dX8_take_42 ?_
  refine x_aload_n (pc := 43) dX8_take_43 (List.Mem.head _) ?_
  refine z_getR (pc := 44) (k := 3) (r := 103) dX8_take_44 lf_X8_30 sh_102 rfl rf_102_3 ?_
  refine z_alen (pc := 47) dX8_take_47 sh_103 (by decide) ?_
  refine z_acpyf (pc := 48) (sp := 0) (dp := 0) (n := 20) (f := H12.1 99) (g := H12.1 103) dX8_take_48 ml_X8_44 sh_99 sh_103 rfl rfl rfl (by omega) (by omega) (by decide) (by decide) (Nat.le_of_ble_eq_true rfl) rfl rfl ?_
  have ok13 := okCf ok10 103 99 0 0 20 rfl rfl
  refine z_vreturn (pc := 51) dX8_take_51 rfl ok13 ?_
  exact ⟨_, _, _, t1, t2, t3, rfl⟩

theorem c_X8_take_98_100 {d : Nat} {H : ZH} (ok : okZ H)  (hz : 0 ≤ H.1 63 4 ∧ H.1 63 4 ≤ 400) : EvC zX (d + 2) mX8_take [.ref 98, .ref 100] (eh H) (zPv (fun (H1 : ZH) => TakeSt H H1 98 35 59 71 100 40 63 80)) := by
  show _ ∧ Ev zX mX8_take (EvC zX (d + 1)) (zPv (fun (H1 : ZH) => TakeSt H H1 98 35 59 71 100 40 63 80)) 0 [(0, .ref 98), (1, .ref 100)] [] (eh H)
  refine ⟨Nat.le_of_ble_eq_true rfl, ?_⟩
  refine x_aload_n (pc := 0) dX8_take_0 (List.Mem.head _) ?_
  refine z_getR (pc := 1) (k := 0) (r := 35) dX8_take_1 lf_X8_10 sh_98 rfl rf_98_0 ?_
  refine x_aload_n (pc := 4) dX8_take_4 (List.Mem.tail _ (List.Mem.head _)) ?_
  refine z_getR (pc := 5) (k := 0) (r := 40) dX8_take_5 lf_X8_10 sh_100 rfl rf_100_0 ?_
  refine z_callVv (pc := 8) (i := mX6_take) (S := []) [.ref 40] dX8_take_8 ml_X8_34 ok_X6_take rfl sh_35 rfl rfl (Nat.le_of_ble_eq_true rfl) (c_X6_take_35_40 (d := d) (ok := ok)) ?_
  intro H4 ok2 hp3
  have t1 := hp3
  have hz2 : 0 ≤ H4.1 63 4 ∧ H4.1 63 4 ≤ 400 := by rw [hp3.2.1 63 (by omega)]; exact hz
  refine x_aload_n (pc := 11) dX8_take_11 (List.Mem.head _) ?_
  refine z_getR (pc := 12) (k := 1) (r := 59) dX8_take_12 lf_X8_19 sh_98 rfl rf_98_1 ?_
  refine x_aload_n (pc := 15) dX8_take_15 (List.Mem.tail _ (List.Mem.head _)) ?_
  refine z_getR (pc := 16) (k := 1) (r := 63) dX8_take_16 lf_X8_19 sh_100 rfl rf_100_1 ?_
  refine z_callVv (pc := 19) (i := mX1_take) (S := []) [.ref 63] dX8_take_19 ml_X8_38 ok_X1_take rfl sh_59 rfl rfl (Nat.le_of_ble_eq_true rfl) (c_X1_take_59_63 (d := d) (ok := ok2) (hz := hz2)) ?_
  intro H8 ok6 hp7
  have t2 := hp7
  refine x_aload_n (pc := 22) dX8_take_22 (List.Mem.head _) ?_
  refine z_getR (pc := 23) (k := 2) (r := 71) dX8_take_23 lf_X8_26 sh_98 rfl rf_98_2 ?_
  refine x_aload_n (pc := 26) dX8_take_26 (List.Mem.tail _ (List.Mem.head _)) ?_
  refine z_getR (pc := 27) (k := 2) (r := 80) dX8_take_27 lf_X8_26 sh_100 rfl rf_100_2 ?_
  refine z_callVv (pc := 30) (i := mX2_take) (S := []) [.ref 80] dX8_take_30 ml_X8_41 ok_X2_take rfl sh_71 rfl rfl (Nat.le_of_ble_eq_true rfl) (c_X2_take_71_80 (d := d) (ok := ok6)) ?_
  intro H12 ok10 hp11
  have t3 := hp11
  refine x_aload_n (pc := 33) dX8_take_33 (List.Mem.tail _ (List.Mem.head _)) ?_
  refine z_getR (pc := 34) (k := 3) (r := 101) dX8_take_34 lf_X8_30 sh_100 rfl rf_100_3 ?_
  refine z_iconst (pc := 37) dX8_take_37 ?_
  refine x_aload_n (pc := 38) dX8_take_38 (List.Mem.head _) ?_
  refine z_getR (pc := 39) (k := 3) (r := 99) dX8_take_39 lf_X8_30 sh_98 rfl rf_98_3 ?_
  refine z_iconst (pc := 42) dX8_take_42 ?_
  refine x_aload_n (pc := 43) dX8_take_43 (List.Mem.head _) ?_
  refine z_getR (pc := 44) (k := 3) (r := 99) dX8_take_44 lf_X8_30 sh_98 rfl rf_98_3 ?_
  refine z_alen (pc := 47) dX8_take_47 sh_99 (by decide) ?_
  refine z_acpyf (pc := 48) (sp := 0) (dp := 0) (n := 20) (f := H12.1 101) (g := H12.1 99) dX8_take_48 ml_X8_44 sh_101 sh_99 rfl rfl rfl (by omega) (by omega) (by decide) (by decide) (Nat.le_of_ble_eq_true rfl) rfl rfl ?_
  have ok13 := okCf ok10 99 101 0 0 20 rfl rfl
  refine z_vreturn (pc := 51) dX8_take_51 rfl ok13 ?_
  exact ⟨_, _, _, t1, t2, t3, rfl⟩

theorem c_X8_take_98_102 {d : Nat} {H : ZH} (ok : okZ H)  (hz : 0 ≤ H.1 67 4 ∧ H.1 67 4 ≤ 400) : EvC zX (d + 2) mX8_take [.ref 98, .ref 102] (eh H) (zPv (fun (H1 : ZH) => TakeSt H H1 98 35 59 71 102 45 67 89)) := by
  show _ ∧ Ev zX mX8_take (EvC zX (d + 1)) (zPv (fun (H1 : ZH) => TakeSt H H1 98 35 59 71 102 45 67 89)) 0 [(0, .ref 98), (1, .ref 102)] [] (eh H)
  refine ⟨Nat.le_of_ble_eq_true rfl, ?_⟩
  refine x_aload_n (pc := 0) dX8_take_0 (List.Mem.head _) ?_
  refine z_getR (pc := 1) (k := 0) (r := 35) dX8_take_1 lf_X8_10 sh_98 rfl rf_98_0 ?_
  refine x_aload_n (pc := 4) dX8_take_4 (List.Mem.tail _ (List.Mem.head _)) ?_
  refine z_getR (pc := 5) (k := 0) (r := 45) dX8_take_5 lf_X8_10 sh_102 rfl rf_102_0 ?_
  refine z_callVv (pc := 8) (i := mX6_take) (S := []) [.ref 45] dX8_take_8 ml_X8_34 ok_X6_take rfl sh_35 rfl rfl (Nat.le_of_ble_eq_true rfl) (c_X6_take_35_45 (d := d) (ok := ok)) ?_
  intro H4 ok2 hp3
  have t1 := hp3
  have hz2 : 0 ≤ H4.1 67 4 ∧ H4.1 67 4 ≤ 400 := by rw [hp3.2.1 67 (by omega)]; exact hz
  refine x_aload_n (pc := 11) dX8_take_11 (List.Mem.head _) ?_
  refine z_getR (pc := 12) (k := 1) (r := 59) dX8_take_12 lf_X8_19 sh_98 rfl rf_98_1 ?_
  refine x_aload_n (pc := 15) dX8_take_15 (List.Mem.tail _ (List.Mem.head _)) ?_
  refine z_getR (pc := 16) (k := 1) (r := 67) dX8_take_16 lf_X8_19 sh_102 rfl rf_102_1 ?_
  refine z_callVv (pc := 19) (i := mX1_take) (S := []) [.ref 67] dX8_take_19 ml_X8_38 ok_X1_take rfl sh_59 rfl rfl (Nat.le_of_ble_eq_true rfl) (c_X1_take_59_67 (d := d) (ok := ok2) (hz := hz2)) ?_
  intro H8 ok6 hp7
  have t2 := hp7
  refine x_aload_n (pc := 22) dX8_take_22 (List.Mem.head _) ?_
  refine z_getR (pc := 23) (k := 2) (r := 71) dX8_take_23 lf_X8_26 sh_98 rfl rf_98_2 ?_
  refine x_aload_n (pc := 26) dX8_take_26 (List.Mem.tail _ (List.Mem.head _)) ?_
  refine z_getR (pc := 27) (k := 2) (r := 89) dX8_take_27 lf_X8_26 sh_102 rfl rf_102_2 ?_
  refine z_callVv (pc := 30) (i := mX2_take) (S := []) [.ref 89] dX8_take_30 ml_X8_41 ok_X2_take rfl sh_71 rfl rfl (Nat.le_of_ble_eq_true rfl) (c_X2_take_71_89 (d := d) (ok := ok6)) ?_
  intro H12 ok10 hp11
  have t3 := hp11
  refine x_aload_n (pc := 33) dX8_take_33 (List.Mem.tail _ (List.Mem.head _)) ?_
  refine z_getR (pc := 34) (k := 3) (r := 103) dX8_take_34 lf_X8_30 sh_102 rfl rf_102_3 ?_
  refine z_iconst (pc := 37) dX8_take_37 ?_
  refine x_aload_n (pc := 38) dX8_take_38 (List.Mem.head _) ?_
  refine z_getR (pc := 39) (k := 3) (r := 99) dX8_take_39 lf_X8_30 sh_98 rfl rf_98_3 ?_
  refine z_iconst (pc := 42) dX8_take_42 ?_
  refine x_aload_n (pc := 43) dX8_take_43 (List.Mem.head _) ?_
  refine z_getR (pc := 44) (k := 3) (r := 99) dX8_take_44 lf_X8_30 sh_98 rfl rf_98_3 ?_
  refine z_alen (pc := 47) dX8_take_47 sh_99 (by decide) ?_
  refine z_acpyf (pc := 48) (sp := 0) (dp := 0) (n := 20) (f := H12.1 103) (g := H12.1 99) dX8_take_48 ml_X8_44 sh_103 sh_99 rfl rfl rfl (by omega) (by omega) (by decide) (by decide) (Nat.le_of_ble_eq_true rfl) rfl rfl ?_
  have ok13 := okCf ok10 99 103 0 0 20 rfl rfl
  refine z_vreturn (pc := 51) dX8_take_51 rfl ok13 ?_
  exact ⟨_, _, _, t1, t2, t3, rfl⟩

theorem c_X10_image {d : Nat} {H : ZH} (ok : okZ H) {i : Int} (i1 : -2147483648 ≤ i) (i2 : i ≤ 2147483647) (cn : cntOK H 25) (hz : 0 ≤ H.1 59 4 ∧ H.1 59 4 ≤ 400) : EvC zX (d + 3) mX10_image [.ref 20, .int (zN (i))] (eh H) (zPi (fun (r : Int) (H1 : ZH) => (¬ (0 ≤ i ∧ i ≤ 1) ∧ r = -2 ∧ H1 = bumpC 0 H) ∨ (i = 0 ∧ r = 0 ∧ ∃ Hb, TakeSt H Hb 100 40 63 80 98 35 59 71 ∧ H1 = wI Hb 22 0 1) ∨ (i = 1 ∧ r = 0 ∧ ∃ Hb, TakeSt H Hb 102 45 67 89 98 35 59 71 ∧ H1 = wI Hb 22 1 1))) := by
  show _ ∧ Ev zX mX10_image (EvC zX (d + 2)) (zPi (fun (r : Int) (H1 : ZH) => (¬ (0 ≤ i ∧ i ≤ 1) ∧ r = -2 ∧ H1 = bumpC 0 H) ∨ (i = 0 ∧ r = 0 ∧ ∃ Hb, TakeSt H Hb 100 40 63 80 98 35 59 71 ∧ H1 = wI Hb 22 0 1) ∨ (i = 1 ∧ r = 0 ∧ ∃ Hb, TakeSt H Hb 102 45 67 89 98 35 59 71 ∧ H1 = wI Hb 22 1 1))) 0 [(0, .ref 20), (1, .int (zN (i)))] [] (eh H)
  refine ⟨Nat.le_of_ble_eq_true rfl, ?_⟩
  refine x_iload_n (pc := 0) dX10_image_0 (List.Mem.tail _ (List.Mem.head _)) ?_
  refine z_if_lt (pc := 1) (tgt := 9) dX10_image_1 (by decide) (by omega) (by omega) (fun hb1 => ?_) (fun hb1 => ?_)
  · skip
    refine x_aload_n (pc := 9) dX10_image_9 (List.Mem.head _) ?_
    refine z_bipush (pc := 10) dX10_image_10 bp_m2 ?_
    refine z_callVip (pc := 12) (i := mX10_refuse) (S := []) [.int (zN ((-2)))] dX10_image_12 ml_X10_97 ok_X10_refuse rfl sh_20 rfl (Or.inl rfl) (Nat.le_of_ble_eq_true rfl) (c_X10_refuse (d := d + 1) (code := ((-2))) (code1 := (by omega)) (code2 := (by omega)) (ok := ok) (cn := (by first | assumption | omega))) (fun r2a r2b ok3 => ?_)
    show Ev _ _ _ _ _ _ _ (eh (wI H 25 ((refIx ((-2)))) (H.1 25 (refIx ((-2))) + 1)))
    refine z_ireturn (pc := 15) dX10_image_15 rfl (Or.inl rfl) ok3 (by omega) (by omega) ?_
    exact Or.inl ⟨by omega, rfl, rfl⟩
  · skip
    refine x_iload_n (pc := 4) dX10_image_4 (List.Mem.tail _ (List.Mem.head _)) ?_
    refine z_iconst (pc := 5) dX10_image_5 ?_
    refine z_icmp_lt (pc := 6) (tgt := 16) dX10_image_6 (by decide) (by omega) (by omega) (by decide) (by decide) (fun hb4 => ?_) (fun hb4 => ?_)
    · skip
      rcases (show i = 0 ∨ i = 1 by omega) with hcs5 | hcs5
      · skip
        subst hcs5
        refine x_aload_n (pc := 16) dX10_image_16 (List.Mem.head _) ?_
        refine z_getR (pc := 17) (k := 4) (r := 26) dX10_image_17 lf_X10_27 sh_20 rfl rf_20_4 ?_
        refine x_iload_n (pc := 20) dX10_image_20 (List.Mem.tail _ (List.Mem.head _)) ?_
        refine z_aald5 (pc := 21) (j := 0) (r := 100) dX10_image_21 sh_26 rfl (Nat.le_of_ble_eq_true rfl) (by decide) rfl ?_
        refine x_aload_n (pc := 22) dX10_image_22 (List.Mem.head _) ?_
        refine z_getR (pc := 23) (k := 3) (r := 98) dX10_image_23 lf_X10_23 sh_20 rfl rf_20_3 ?_
        refine z_callVv (pc := 26) (i := mX8_take) (S := []) [.ref 98] dX10_image_26 ml_X10_449 ok_X8_take rfl sh_100 rfl rfl (Nat.le_of_ble_eq_true rfl) (c_X8_take_100_98 (d := d) (ok := ok) (hz := (by first | assumption | omega))) ?_
        intro H9 ok7 hp8
        have t1 := hp8
        refine x_aload_n (pc := 29) dX10_image_29 (List.Mem.head _) ?_
        refine z_getR (pc := 30) (k := 5) (r := 22) dX10_image_30 lf_X10_31 sh_20 rfl rf_20_5 ?_
        refine x_iload_n (pc := 33) dX10_image_33 (List.Mem.tail _ (List.Mem.head _)) ?_
        refine z_iconst (pc := 34) dX10_image_34 ?_
        refine z_zast (pc := 35) (j := 0) (v := 1) dX10_image_35 sh_22 rfl (Nat.le_of_ble_eq_true rfl) (by decide) (by omega) ?_
        have ok10 := okI ok7 22 0 (v := 1) (by decide) (by decide)
        refine z_iconst (pc := 36) dX10_image_36 ?_
        refine z_ireturn (pc := 37) dX10_image_37 rfl (Or.inl rfl) ok10 (by decide) (by decide) ?_
        first | exact Or.inr (Or.inl ⟨rfl, rfl, _, t1, rfl⟩) | exact Or.inr (Or.inr ⟨rfl, rfl, _, t1, rfl⟩)
      · skip
        subst hcs5
        refine x_aload_n (pc := 16) dX10_image_16 (List.Mem.head _) ?_
        refine z_getR (pc := 17) (k := 4) (r := 26) dX10_image_17 lf_X10_27 sh_20 rfl rf_20_4 ?_
        refine x_iload_n (pc := 20) dX10_image_20 (List.Mem.tail _ (List.Mem.head _)) ?_
        refine z_aald5 (pc := 21) (j := 1) (r := 102) dX10_image_21 sh_26 rfl (Nat.le_of_ble_eq_true rfl) (by decide) rfl ?_
        refine x_aload_n (pc := 22) dX10_image_22 (List.Mem.head _) ?_
        refine z_getR (pc := 23) (k := 3) (r := 98) dX10_image_23 lf_X10_23 sh_20 rfl rf_20_3 ?_
        refine z_callVv (pc := 26) (i := mX8_take) (S := []) [.ref 98] dX10_image_26 ml_X10_449 ok_X8_take rfl sh_102 rfl rfl (Nat.le_of_ble_eq_true rfl) (c_X8_take_102_98 (d := d) (ok := ok) (hz := (by first | assumption | omega))) ?_
        intro H14 ok12 hp13
        have t1 := hp13
        refine x_aload_n (pc := 29) dX10_image_29 (List.Mem.head _) ?_
        refine z_getR (pc := 30) (k := 5) (r := 22) dX10_image_30 lf_X10_31 sh_20 rfl rf_20_5 ?_
        refine x_iload_n (pc := 33) dX10_image_33 (List.Mem.tail _ (List.Mem.head _)) ?_
        refine z_iconst (pc := 34) dX10_image_34 ?_
        refine z_zast (pc := 35) (j := 1) (v := 1) dX10_image_35 sh_22 rfl (Nat.le_of_ble_eq_true rfl) (by decide) (by omega) ?_
        have ok15 := okI ok12 22 1 (v := 1) (by decide) (by decide)
        refine z_iconst (pc := 36) dX10_image_36 ?_
        refine z_ireturn (pc := 37) dX10_image_37 rfl (Or.inl rfl) ok15 (by decide) (by decide) ?_
        first | exact Or.inr (Or.inl ⟨rfl, rfl, _, t1, rfl⟩) | exact Or.inr (Or.inr ⟨rfl, rfl, _, t1, rfl⟩)
    · skip
      refine x_aload_n (pc := 9) dX10_image_9 (List.Mem.head _) ?_
      refine z_bipush (pc := 10) dX10_image_10 bp_m2 ?_
      refine z_callVip (pc := 12) (i := mX10_refuse) (S := []) [.int (zN ((-2)))] dX10_image_12 ml_X10_97 ok_X10_refuse rfl sh_20 rfl (Or.inl rfl) (Nat.le_of_ble_eq_true rfl) (c_X10_refuse (d := d + 1) (code := ((-2))) (code1 := (by omega)) (code2 := (by omega)) (ok := ok) (cn := (by first | assumption | omega))) (fun r16a r16b ok17 => ?_)
      show Ev _ _ _ _ _ _ _ (eh (wI H 25 ((refIx ((-2)))) (H.1 25 (refIx ((-2))) + 1)))
      refine z_ireturn (pc := 15) dX10_image_15 rfl (Or.inl rfl) ok17 (by omega) (by omega) ?_
      exact Or.inl ⟨by omega, rfl, rfl⟩

theorem c_X10_restore {d : Nat} {H : ZH} (ok : okZ H) {i : Int} (i1 : -2147483648 ≤ i) (i2 : i ≤ 2147483647) (cn : cntOK H 25) (hz0 : 0 ≤ H.1 63 4 ∧ H.1 63 4 ≤ 400) (hz1 : 0 ≤ H.1 67 4 ∧ H.1 67 4 ≤ 400) : EvC zX (d + 3) mX10_restore [.ref 20, .int (zN (i))] (eh H) (zPi (fun (r : Int) (H1 : ZH) => (¬ (0 ≤ i ∧ i ≤ 1) ∧ r = -2 ∧ H1 = bumpC 0 H) ∨ ((0 ≤ i ∧ i ≤ 1) ∧ H.1 22 i.toNat = 0 ∧ r = -5 ∧ H1 = bumpC 2 H) ∨ (i = 0 ∧ H.1 22 0 ≠ 0 ∧ r = 0 ∧ ∃ Hb, TakeSt H Hb 98 35 59 71 100 40 63 80 ∧ H1 = wI (wI Hb 20 8 0) 119 0 (-1)) ∨ (i = 1 ∧ H.1 22 1 ≠ 0 ∧ r = 0 ∧ ∃ Hb, TakeSt H Hb 98 35 59 71 102 45 67 89 ∧ H1 = wI (wI Hb 20 8 0) 119 0 (-1)))) := by
  show _ ∧ Ev zX mX10_restore (EvC zX (d + 2)) (zPi (fun (r : Int) (H1 : ZH) => (¬ (0 ≤ i ∧ i ≤ 1) ∧ r = -2 ∧ H1 = bumpC 0 H) ∨ ((0 ≤ i ∧ i ≤ 1) ∧ H.1 22 i.toNat = 0 ∧ r = -5 ∧ H1 = bumpC 2 H) ∨ (i = 0 ∧ H.1 22 0 ≠ 0 ∧ r = 0 ∧ ∃ Hb, TakeSt H Hb 98 35 59 71 100 40 63 80 ∧ H1 = wI (wI Hb 20 8 0) 119 0 (-1)) ∨ (i = 1 ∧ H.1 22 1 ≠ 0 ∧ r = 0 ∧ ∃ Hb, TakeSt H Hb 98 35 59 71 102 45 67 89 ∧ H1 = wI (wI Hb 20 8 0) 119 0 (-1)))) 0 [(0, .ref 20), (1, .int (zN (i)))] [] (eh H)
  refine ⟨Nat.le_of_ble_eq_true rfl, ?_⟩
  refine x_iload_n (pc := 0) dX10_restore_0 (List.Mem.tail _ (List.Mem.head _)) ?_
  refine z_if_lt (pc := 1) (tgt := 9) dX10_restore_1 (by decide) (by omega) (by omega) (fun hb1 => ?_) (fun hb1 => ?_)
  · skip
    refine x_aload_n (pc := 9) dX10_restore_9 (List.Mem.head _) ?_
    refine z_bipush (pc := 10) dX10_restore_10 bp_m2 ?_
    refine z_callVip (pc := 12) (i := mX10_refuse) (S := []) [.int (zN ((-2)))] dX10_restore_12 ml_X10_97 ok_X10_refuse rfl sh_20 rfl (Or.inl rfl) (Nat.le_of_ble_eq_true rfl) (c_X10_refuse (d := d + 1) (code := ((-2))) (code1 := (by omega)) (code2 := (by omega)) (ok := ok) (cn := (by first | assumption | omega))) (fun r2a r2b ok3 => ?_)
    show Ev _ _ _ _ _ _ _ (eh (wI H 25 ((refIx ((-2)))) (H.1 25 (refIx ((-2))) + 1)))
    refine z_ireturn (pc := 15) dX10_restore_15 rfl (Or.inl rfl) ok3 (by omega) (by omega) ?_
    exact Or.inl ⟨by omega, rfl, rfl⟩
  · skip
    refine x_iload_n (pc := 4) dX10_restore_4 (List.Mem.tail _ (List.Mem.head _)) ?_
    refine z_iconst (pc := 5) dX10_restore_5 ?_
    refine z_icmp_lt (pc := 6) (tgt := 16) dX10_restore_6 (by decide) (by omega) (by omega) (by decide) (by decide) (fun hb4 => ?_) (fun hb4 => ?_)
    · skip
      refine x_aload_n (pc := 16) dX10_restore_16 (List.Mem.head _) ?_
      refine z_getR (pc := 17) (k := 5) (r := 22) dX10_restore_17 lf_X10_31 sh_20 rfl rf_20_5 ?_
      refine x_iload_n (pc := 20) dX10_restore_20 (List.Mem.tail _ (List.Mem.head _)) ?_
      have rd5 := ok.1 22 i.toNat
      refine z_zald (pc := 21) (j := i.toNat) (v := H.1 22 i.toNat) dX10_restore_21 sh_22 (by omega) (by omega) (by decide) rfl ?_
      refine z_if_ne (pc := 22) (tgt := 32) dX10_restore_22 (by decide) (by omega) (by omega) (fun hb6 => ?_) (fun hb6 => ?_)
      · skip
        have hi0 : H.1 22 i.toNat ≠ 0 := hb6
        rcases (show i = 0 ∨ i = 1 by omega) with hcs7 | hcs7
        · skip
          subst hcs7
          refine x_aload_n (pc := 32) dX10_restore_32 (List.Mem.head _) ?_
          refine z_getR (pc := 33) (k := 3) (r := 98) dX10_restore_33 lf_X10_23 sh_20 rfl rf_20_3 ?_
          refine x_aload_n (pc := 36) dX10_restore_36 (List.Mem.head _) ?_
          refine z_getR (pc := 37) (k := 4) (r := 26) dX10_restore_37 lf_X10_27 sh_20 rfl rf_20_4 ?_
          refine x_iload_n (pc := 40) dX10_restore_40 (List.Mem.tail _ (List.Mem.head _)) ?_
          refine z_aald5 (pc := 41) (j := 0) (r := 100) dX10_restore_41 sh_26 rfl (Nat.le_of_ble_eq_true rfl) (by decide) rfl ?_
          refine z_callVv (pc := 42) (i := mX8_take) (S := []) [.ref 100] dX10_restore_42 ml_X10_449 ok_X8_take rfl sh_98 rfl rfl (Nat.le_of_ble_eq_true rfl) (c_X8_take_98_100 (d := d) (ok := ok) (hz := (by first | exact hz0 | exact hz1))) ?_
          intro H11 ok9 hp10
          have t1 := hp10
          refine x_aload_n (pc := 45) dX10_restore_45 (List.Mem.head _) ?_
          refine z_iconst (pc := 46) dX10_restore_46 ?_
          refine z_putZ (pc := 47) (k := 8) dX10_restore_47 lp_X10_115 sh_20 rfl (by omega) ?_
          have ok12 := okI ok9 20 8 (v := 0) (by decide) (by decide)
          refine x_aload_n (pc := 50) dX10_restore_50 (List.Mem.head _) ?_
          refine z_getR (pc := 51) (k := 12) (r := 119) dX10_restore_51 lf_X10_75 sh_20 rfl rf_20_12 ?_
          refine z_iconst (pc := 54) dX10_restore_54 ?_
          refine z_putI (pc := 55) (k := 0) dX10_restore_55 lp_X10_306 sh_119 rfl ?_
          have ok13 := okI ok12 119 0 (v := (-1)) (by decide) (by decide)
          refine z_iconst (pc := 58) dX10_restore_58 ?_
          refine z_ireturn (pc := 59) dX10_restore_59 rfl (Or.inl rfl) ok13 (by decide) (by decide) ?_
          first | exact Or.inr (Or.inr (Or.inl ⟨rfl, hi0, rfl, _, t1, rfl⟩)) | exact Or.inr (Or.inr (Or.inr ⟨rfl, hi0, rfl, _, t1, rfl⟩))
        · skip
          subst hcs7
          refine x_aload_n (pc := 32) dX10_restore_32 (List.Mem.head _) ?_
          refine z_getR (pc := 33) (k := 3) (r := 98) dX10_restore_33 lf_X10_23 sh_20 rfl rf_20_3 ?_
          refine x_aload_n (pc := 36) dX10_restore_36 (List.Mem.head _) ?_
          refine z_getR (pc := 37) (k := 4) (r := 26) dX10_restore_37 lf_X10_27 sh_20 rfl rf_20_4 ?_
          refine x_iload_n (pc := 40) dX10_restore_40 (List.Mem.tail _ (List.Mem.head _)) ?_
          refine z_aald5 (pc := 41) (j := 1) (r := 102) dX10_restore_41 sh_26 rfl (Nat.le_of_ble_eq_true rfl) (by decide) rfl ?_
          refine z_callVv (pc := 42) (i := mX8_take) (S := []) [.ref 102] dX10_restore_42 ml_X10_449 ok_X8_take rfl sh_98 rfl rfl (Nat.le_of_ble_eq_true rfl) (c_X8_take_98_102 (d := d) (ok := ok) (hz := (by first | exact hz0 | exact hz1))) ?_
          intro H17 ok15 hp16
          have t1 := hp16
          refine x_aload_n (pc := 45) dX10_restore_45 (List.Mem.head _) ?_
          refine z_iconst (pc := 46) dX10_restore_46 ?_
          refine z_putZ (pc := 47) (k := 8) dX10_restore_47 lp_X10_115 sh_20 rfl (by omega) ?_
          have ok18 := okI ok15 20 8 (v := 0) (by decide) (by decide)
          refine x_aload_n (pc := 50) dX10_restore_50 (List.Mem.head _) ?_
          refine z_getR (pc := 51) (k := 12) (r := 119) dX10_restore_51 lf_X10_75 sh_20 rfl rf_20_12 ?_
          refine z_iconst (pc := 54) dX10_restore_54 ?_
          refine z_putI (pc := 55) (k := 0) dX10_restore_55 lp_X10_306 sh_119 rfl ?_
          have ok19 := okI ok18 119 0 (v := (-1)) (by decide) (by decide)
          refine z_iconst (pc := 58) dX10_restore_58 ?_
          refine z_ireturn (pc := 59) dX10_restore_59 rfl (Or.inl rfl) ok19 (by decide) (by decide) ?_
          first | exact Or.inr (Or.inr (Or.inl ⟨rfl, hi0, rfl, _, t1, rfl⟩)) | exact Or.inr (Or.inr (Or.inr ⟨rfl, hi0, rfl, _, t1, rfl⟩))
      · skip
        refine x_aload_n (pc := 25) dX10_restore_25 (List.Mem.head _) ?_
        refine z_bipush (pc := 26) dX10_restore_26 bp_m5 ?_
        refine z_callVip (pc := 28) (i := mX10_refuse) (S := []) [.int (zN ((-5)))] dX10_restore_28 ml_X10_97 ok_X10_refuse rfl sh_20 rfl (Or.inl rfl) (Nat.le_of_ble_eq_true rfl) (c_X10_refuse (d := d + 1) (code := ((-5))) (code1 := (by omega)) (code2 := (by omega)) (ok := ok) (cn := (by first | assumption | omega))) (fun r20a r20b ok21 => ?_)
        show Ev _ _ _ _ _ _ _ (eh (wI H 25 ((refIx ((-5)))) (H.1 25 (refIx ((-5))) + 1)))
        refine z_ireturn (pc := 31) dX10_restore_31 rfl (Or.inl rfl) ok21 (by omega) (by omega) ?_
        exact Or.inr (Or.inl ⟨by omega, by omega, rfl, rfl⟩)
    · skip
      refine x_aload_n (pc := 9) dX10_restore_9 (List.Mem.head _) ?_
      refine z_bipush (pc := 10) dX10_restore_10 bp_m2 ?_
      refine z_callVip (pc := 12) (i := mX10_refuse) (S := []) [.int (zN ((-2)))] dX10_restore_12 ml_X10_97 ok_X10_refuse rfl sh_20 rfl (Or.inl rfl) (Nat.le_of_ble_eq_true rfl) (c_X10_refuse (d := d + 1) (code := ((-2))) (code1 := (by omega)) (code2 := (by omega)) (ok := ok) (cn := (by first | assumption | omega))) (fun r22a r22b ok23 => ?_)
      show Ev _ _ _ _ _ _ _ (eh (wI H 25 ((refIx ((-2)))) (H.1 25 (refIx ((-2))) + 1)))
      refine z_ireturn (pc := 15) dX10_restore_15 rfl (Or.inl rfl) ok23 (by omega) (by omega) ?_
      exact Or.inl ⟨by omega, rfl, rfl⟩

theorem c_X11_image {d : Nat} {H : ZH} (ok : okZ H) {i : Int} (i1 : -2147483648 ≤ i) (i2 : i ≤ 2147483647) (cm : cntOK H 1) (th : H.1 0 0 = 0) : EvC zX (d + 2) mX11_image [.ref 0, .int (zN (i))] (eh H) (zPi (fun (r : Int) (H1 : ZH) => (¬ (0 ≤ i ∧ i ≤ 1) ∧ r = -2 ∧ H1 = bumpM 0 H) ∨ ((0 ≤ i ∧ i ≤ 1) ∧ r = 0 ∧ H1 = wI (wA H 2 (fun j => if 578 * (i.toNat + 1) ≤ j ∧ j < 578 * (i.toNat + 1) + 578 then H.1 2 (j - 578 * (i.toNat + 1)) else H.1 2 j)) 3 i.toNat 1))) := by
  show _ ∧ Ev zX mX11_image (EvC zX (d + 1)) (zPi (fun (r : Int) (H1 : ZH) => (¬ (0 ≤ i ∧ i ≤ 1) ∧ r = -2 ∧ H1 = bumpM 0 H) ∨ ((0 ≤ i ∧ i ≤ 1) ∧ r = 0 ∧ H1 = wI (wA H 2 (fun j => if 578 * (i.toNat + 1) ≤ j ∧ j < 578 * (i.toNat + 1) + 578 then H.1 2 (j - 578 * (i.toNat + 1)) else H.1 2 j)) 3 i.toNat 1))) 0 [(0, .ref 0), (1, .int (zN (i)))] [] (eh H)
  refine ⟨Nat.le_of_ble_eq_true rfl, ?_⟩
  refine x_aload_n (pc := 0) dX11_image_0 (List.Mem.head _) ?_
  refine z_iconst (pc := 1) dX11_image_1 ?_
  refine z_putI (pc := 2) (k := 0) dX11_image_2 lp_X11_1 sh_0 rfl ?_
  have ok1 := okI ok 0 0 (v := 0) (by decide) (by decide)
  rw [wI_same th]
  refine x_iload_n (pc := 5) dX11_image_5 (List.Mem.tail _ (List.Mem.head _)) ?_
  refine z_i2l (pc := 6) dX11_image_6 (by omega) (by omega) ?_
  refine z_lconst (pc := 7) 0 dX11_image_7 rfl ?_
  refine z_lconst (pc := 8) 1 dX11_image_8 rfl ?_
  refine z_callSbp (pc := 9) (i := mX11_within) (S := []) [.long (zL (i)), .long (zL (0)), .long (zL (1))] dX11_image_9 ml_X11_152 ok_X11_within rfl (Or.inr rfl) (Nat.le_of_ble_eq_true rfl) (c_X11_within (d := d) (v := i) (lo := 0) (hi := 1) (v1 := (by omega)) (v2 := (by omega)) (lo1 := (by omega)) (lo2 := (by omega)) (hi1 := (by omega)) (hi2 := (by omega)) (ok := ok)) (fun hc4 ok3 => ?_) (fun hc4 ok3 => ?_)
  · skip
    refine z_if_ne (pc := 12) (tgt := 22) dX11_image_12 (by decide) (by decide) (by decide) (fun _ => ?_) (fun h => absurd h (by decide))
    refine z_iconst (pc := 22) dX11_image_22 ?_
    refine x_istore_n (pc := 23) dX11_image_23 (Nat.le_of_ble_eq_true rfl) ?_
    show Ev _ _ _ _ _ [(2, .int (zN (0))), (0, .ref 0), (1, .int (zN (i)))] _ _
    have lp24 : ∀ (nF : Nat) (k : Nat), okZ (wA H 2 (fun j => if 578 * (i.toNat + 1) ≤ j ∧ j < 578 * (i.toNat + 1) + k then H.1 2 (j - 578 * (i.toNat + 1)) else H.1 2 j)) → (k ≤ 578) → 578 - k < nF → Ev zX mX11_image (EvC zX (d + 1)) (zPi (fun (r : Int) (H1 : ZH) => (¬ (0 ≤ i ∧ i ≤ 1) ∧ r = -2 ∧ H1 = bumpM 0 H) ∨ ((0 ≤ i ∧ i ≤ 1) ∧ r = 0 ∧ H1 = wI (wA H 2 (fun j => if 578 * (i.toNat + 1) ≤ j ∧ j < 578 * (i.toNat + 1) + 578 then H.1 2 (j - 578 * (i.toNat + 1)) else H.1 2 j)) 3 i.toNat 1))) 24 [(0, .ref 0), (1, .int (zN (i))), (2, .int (zN ((k : Int))))] [] (eh (wA H 2 (fun j => if 578 * (i.toNat + 1) ≤ j ∧ j < 578 * (i.toNat + 1) + k then H.1 2 (j - 578 * (i.toNat + 1)) else H.1 2 j))) := by
      intro nF
      induction nF with
      | zero => intro k okl24 hk hm; exact absurd hm (Nat.not_lt_zero _)
      | succ nF ih24 =>
        intro k okl24 hk hm
        refine x_iload_n (pc := 24) dX11_image_24 (List.Mem.tail _ (List.Mem.tail _ (List.Mem.head _))) ?_
        refine z_sipush (pc := 25) dX11_image_25 sp_578 ?_
        refine z_icmp_ge (pc := 28) (tgt := 57) dX11_image_28 (by decide) (by omega) (by omega) (by decide) (by decide) (fun hb6 => ?_) (fun hb6 => ?_)
        · skip
          refine x_aload_n (pc := 57) dX11_image_57 (List.Mem.head _) ?_
          refine z_getR (pc := 58) (k := 3) (r := 3) dX11_image_58 lf_X11_20 sh_0 rfl rf_0_3 ?_
          refine x_iload_n (pc := 61) dX11_image_61 (List.Mem.tail _ (List.Mem.head _)) ?_
          refine z_iconst (pc := 62) dX11_image_62 ?_
          refine z_zast (pc := 63) (j := i.toNat) (v := 1) dX11_image_63 sh_3 (by omega) (by omega) (by decide) (by omega) ?_
          have ok7 := okI okl24 3 i.toNat (v := 1) (by decide) (by decide)
          refine z_iconst (pc := 64) dX11_image_64 ?_
          refine z_ireturn (pc := 65) dX11_image_65 rfl (Or.inl rfl) ok7 (by decide) (by decide) ?_
          exact Or.inr ⟨by omega, rfl, by rw [show k = 578 by omega]⟩
        · skip
          refine x_aload_n (pc := 31) dX11_image_31 (List.Mem.head _) ?_
          refine z_getR (pc := 32) (k := 2) (r := 2) dX11_image_32 lf_X11_17 sh_0 rfl rf_0_2 ?_
          refine z_sipush (pc := 35) dX11_image_35 sp_578 ?_
          refine x_iload_n (pc := 38) dX11_image_38 (List.Mem.tail _ (List.Mem.head _)) ?_
          refine z_iconst (pc := 39) dX11_image_39 ?_
          refine z_iadd (pc := 40) dX11_image_40 ?_
          refine z_imul (pc := 41) dX11_image_41 ?_
          refine x_iload_n (pc := 42) dX11_image_42 (List.Mem.tail _ (List.Mem.tail _ (List.Mem.head _))) ?_
          refine z_iadd (pc := 43) dX11_image_43 ?_
          refine x_aload_n (pc := 44) dX11_image_44 (List.Mem.head _) ?_
          refine z_getR (pc := 45) (k := 2) (r := 2) dX11_image_45 lf_X11_17 sh_0 rfl rf_0_2 ?_
          refine x_iload_n (pc := 48) dX11_image_48 (List.Mem.tail _ (List.Mem.tail _ (List.Mem.head _))) ?_
          have rdk := ok.1 2 k
          refine z_iald (pc := 49) (j := k) (v := (H.1 2 k)) dX11_image_49 sh_2 rfl (by omega) (by decide) (by rw [wA1]; exact if_neg (by omega)) ?_
          refine z_iast (pc := 50) (j := 578 * (i.toNat + 1) + k) (v := ((H.1 2 k))) dX11_image_50 sh_2 (by omega) (by omega) (by decide) ?_
          have ok8 := okI okl24 2 (578 * (i.toNat + 1) + k) (v := ((H.1 2 k))) (by omega) (by omega)
          refine z_iinc (pc := 51) dX11_image_51 (List.Mem.tail _ (List.Mem.tail _ (List.Mem.head _))) (Nat.le_of_ble_eq_true rfl) ?_
          show Ev _ _ _ _ _ [(2, .int (zN ((k : Int) + 1))), (0, .ref 0), (1, .int (zN (i)))] _ _
          refine x_goto (pc := 54) (tgt := 24) dX11_image_54 (by decide) ?_
          refine x_weaken (L1 := [(0, .ref 0), (1, .int (zN (i))), (2, .int (zN ((((k + 1) : Nat) : Int))))]) (List.forall_mem_cons.mpr ⟨(List.Mem.tail _ (List.Mem.head _)), (List.forall_mem_cons.mpr ⟨(List.Mem.tail _ (List.Mem.tail _ (List.Mem.head _))), (List.forall_mem_cons.mpr ⟨(mem_ci (by omega) (List.Mem.head _)), (fun _ h => absurd h List.not_mem_nil)⟩)⟩)⟩) ?_
          have he9 : (wI (wA H 2 (fun j => if 578 * (i.toNat + 1) ≤ j ∧ j < 578 * (i.toNat + 1) + k then H.1 2 (j - 578 * (i.toNat + 1)) else H.1 2 j)) 2 (578 * (i.toNat + 1) + k) (((H.1 2 k)))) = (wA H 2 (fun j => if 578 * (i.toNat + 1) ≤ j ∧ j < 578 * (i.toNat + 1) + (k + 1) then H.1 2 (j - 578 * (i.toNat + 1)) else H.1 2 j)) := wA_gen H 2 (578 * (i.toNat + 1)) (H.1 2) k _ rfl
          refine Ev_heq he9 ?_
          have ok10 : okZ (wA H 2 (fun j => if 578 * (i.toNat + 1) ≤ j ∧ j < 578 * (i.toNat + 1) + (k + 1) then H.1 2 (j - 578 * (i.toNat + 1)) else H.1 2 j)) := by rw [← he9]; exact ok8
          exact ih24 ((k + 1)) ok10 (by omega) (by omega)
    refine x_weaken (L1 := [(0, .ref 0), (1, .int (zN (i))), (2, .int (zN (((0 : Nat) : Int))))]) (List.forall_mem_cons.mpr ⟨(List.Mem.tail _ (List.Mem.head _)), (List.forall_mem_cons.mpr ⟨(List.Mem.tail _ (List.Mem.tail _ (List.Mem.head _))), (List.forall_mem_cons.mpr ⟨(mem_ci (by omega) (List.Mem.head _)), (fun _ h => absurd h List.not_mem_nil)⟩)⟩)⟩) ?_
    have he11 : H = (wA H 2 (fun j => if 578 * (i.toNat + 1) ≤ j ∧ j < 578 * (i.toNat + 1) + 0 then H.1 2 (j - 578 * (i.toNat + 1)) else H.1 2 j)) := wA_gen0 H 2 (578 * (i.toNat + 1)) (H.1 2)
    refine Ev_heq he11 ?_
    have ok12 : okZ (wA H 2 (fun j => if 578 * (i.toNat + 1) ≤ j ∧ j < 578 * (i.toNat + 1) + 0 then H.1 2 (j - 578 * (i.toNat + 1)) else H.1 2 j)) := by rw [← he11]; exact ok3
    exact lp24 (578 - 0 + 1) (0) ok12 (by omega) (Nat.lt_succ_self _)
  · skip
    refine z_if_ne (pc := 12) (tgt := 22) dX11_image_12 (by decide) (by decide) (by decide) (fun h => absurd h (by decide)) (fun _ => ?_)
    refine x_aload_n (pc := 15) dX11_image_15 (List.Mem.head _) ?_
    refine z_bipush (pc := 16) dX11_image_16 bp_m2 ?_
    refine z_callVip (pc := 18) (i := mX11_no) (S := []) [.int (zN ((-2)))] dX11_image_18 ml_X11_89 ok_X11_no rfl sh_0 rfl (Or.inl rfl) (Nat.le_of_ble_eq_true rfl) (c_X11_no (d := d) (code := ((-2))) (code1 := (by omega)) (code2 := (by omega)) (ok := ok3) (cn := (by first | assumption | omega))) (fun r14a r14b ok15 => ?_)
    show Ev _ _ _ _ _ _ _ (eh (wI H 1 ((refIx ((-2)))) (H.1 1 (refIx ((-2))) + 1)))
    refine z_ireturn (pc := 21) dX11_image_21 rfl (Or.inl rfl) ok15 (by omega) (by omega) ?_
    exact Or.inl ⟨by omega, rfl, rfl⟩

theorem c_X11_restore {d : Nat} {H : ZH} (ok : okZ H) {i : Int} (i1 : -2147483648 ≤ i) (i2 : i ≤ 2147483647) (cm : cntOK H 1) (th : H.1 0 0 = 0) : EvC zX (d + 2) mX11_restore [.ref 0, .int (zN (i))] (eh H) (zPi (fun (r : Int) (H1 : ZH) => (¬ (0 ≤ i ∧ i ≤ 1) ∧ r = -2 ∧ H1 = bumpM 0 H) ∨ ((0 ≤ i ∧ i ≤ 1) ∧ H.1 3 i.toNat = 0 ∧ r = -5 ∧ H1 = bumpM 2 H) ∨ ((0 ≤ i ∧ i ≤ 1) ∧ H.1 3 i.toNat ≠ 0 ∧ r = 0 ∧ H1 = wA H 2 (fun j => if j < 578 then H.1 2 (578 * (i.toNat + 1) + j) else H.1 2 j)))) := by
  show _ ∧ Ev zX mX11_restore (EvC zX (d + 1)) (zPi (fun (r : Int) (H1 : ZH) => (¬ (0 ≤ i ∧ i ≤ 1) ∧ r = -2 ∧ H1 = bumpM 0 H) ∨ ((0 ≤ i ∧ i ≤ 1) ∧ H.1 3 i.toNat = 0 ∧ r = -5 ∧ H1 = bumpM 2 H) ∨ ((0 ≤ i ∧ i ≤ 1) ∧ H.1 3 i.toNat ≠ 0 ∧ r = 0 ∧ H1 = wA H 2 (fun j => if j < 578 then H.1 2 (578 * (i.toNat + 1) + j) else H.1 2 j)))) 0 [(0, .ref 0), (1, .int (zN (i)))] [] (eh H)
  refine ⟨Nat.le_of_ble_eq_true rfl, ?_⟩
  refine x_aload_n (pc := 0) dX11_restore_0 (List.Mem.head _) ?_
  refine z_iconst (pc := 1) dX11_restore_1 ?_
  refine z_putI (pc := 2) (k := 0) dX11_restore_2 lp_X11_1 sh_0 rfl ?_
  have ok1 := okI ok 0 0 (v := 0) (by decide) (by decide)
  rw [wI_same th]
  refine x_iload_n (pc := 5) dX11_restore_5 (List.Mem.tail _ (List.Mem.head _)) ?_
  refine z_i2l (pc := 6) dX11_restore_6 (by omega) (by omega) ?_
  refine z_lconst (pc := 7) 0 dX11_restore_7 rfl ?_
  refine z_lconst (pc := 8) 1 dX11_restore_8 rfl ?_
  refine z_callSbp (pc := 9) (i := mX11_within) (S := []) [.long (zL (i)), .long (zL (0)), .long (zL (1))] dX11_restore_9 ml_X11_152 ok_X11_within rfl (Or.inr rfl) (Nat.le_of_ble_eq_true rfl) (c_X11_within (d := d) (v := i) (lo := 0) (hi := 1) (v1 := (by omega)) (v2 := (by omega)) (lo1 := (by omega)) (lo2 := (by omega)) (hi1 := (by omega)) (hi2 := (by omega)) (ok := ok)) (fun hc4 ok3 => ?_) (fun hc4 ok3 => ?_)
  · skip
    refine z_if_ne (pc := 12) (tgt := 22) dX11_restore_12 (by decide) (by decide) (by decide) (fun _ => ?_) (fun h => absurd h (by decide))
    refine x_aload_n (pc := 22) dX11_restore_22 (List.Mem.head _) ?_
    refine z_getR (pc := 23) (k := 3) (r := 3) dX11_restore_23 lf_X11_20 sh_0 rfl rf_0_3 ?_
    refine x_iload_n (pc := 26) dX11_restore_26 (List.Mem.tail _ (List.Mem.head _)) ?_
    have rd6 := ok3.1 3 i.toNat
    refine z_zald (pc := 27) (j := i.toNat) (v := H.1 3 i.toNat) dX11_restore_27 sh_3 (by omega) (by omega) (by decide) rfl ?_
    refine z_if_ne (pc := 28) (tgt := 38) dX11_restore_28 (by decide) (by omega) (by omega) (fun hb7 => ?_) (fun hb7 => ?_)
    · skip
      refine z_iconst (pc := 38) dX11_restore_38 ?_
      refine x_istore_n (pc := 39) dX11_restore_39 (Nat.le_of_ble_eq_true rfl) ?_
      show Ev _ _ _ _ _ [(2, .int (zN (0))), (0, .ref 0), (1, .int (zN (i)))] _ _
      have lp40 : ∀ (nF : Nat) (k : Nat), okZ (wA H 2 (fun j => if j < k then (fun j => H.1 2 (578 * (i.toNat + 1) + j)) j else H.1 2 j)) → (k ≤ 578) → 578 - k < nF → Ev zX mX11_restore (EvC zX (d + 1)) (zPi (fun (r : Int) (H1 : ZH) => (¬ (0 ≤ i ∧ i ≤ 1) ∧ r = -2 ∧ H1 = bumpM 0 H) ∨ ((0 ≤ i ∧ i ≤ 1) ∧ H.1 3 i.toNat = 0 ∧ r = -5 ∧ H1 = bumpM 2 H) ∨ ((0 ≤ i ∧ i ≤ 1) ∧ H.1 3 i.toNat ≠ 0 ∧ r = 0 ∧ H1 = wA H 2 (fun j => if j < 578 then H.1 2 (578 * (i.toNat + 1) + j) else H.1 2 j)))) 40 [(0, .ref 0), (1, .int (zN (i))), (2, .int (zN ((k : Int))))] [] (eh (wA H 2 (fun j => if j < k then (fun j => H.1 2 (578 * (i.toNat + 1) + j)) j else H.1 2 j))) := by
        intro nF
        induction nF with
        | zero => intro k okl40 hk hm; exact absurd hm (Nat.not_lt_zero _)
        | succ nF ih40 =>
          intro k okl40 hk hm
          refine x_iload_n (pc := 40) dX11_restore_40 (List.Mem.tail _ (List.Mem.tail _ (List.Mem.head _))) ?_
          refine z_sipush (pc := 41) dX11_restore_41 sp_578 ?_
          refine z_icmp_ge (pc := 44) (tgt := 73) dX11_restore_44 (by decide) (by omega) (by omega) (by decide) (by decide) (fun hb8 => ?_) (fun hb8 => ?_)
          · skip
            refine z_iconst (pc := 73) dX11_restore_73 ?_
            refine z_ireturn (pc := 74) dX11_restore_74 rfl (Or.inl rfl) okl40 (by decide) (by decide) ?_
            exact Or.inr (Or.inr ⟨by omega, by omega, rfl, by rw [show k = 578 by omega]⟩)
          · skip
            refine x_aload_n (pc := 47) dX11_restore_47 (List.Mem.head _) ?_
            refine z_getR (pc := 48) (k := 2) (r := 2) dX11_restore_48 lf_X11_17 sh_0 rfl rf_0_2 ?_
            refine x_iload_n (pc := 51) dX11_restore_51 (List.Mem.tail _ (List.Mem.tail _ (List.Mem.head _))) ?_
            refine x_aload_n (pc := 52) dX11_restore_52 (List.Mem.head _) ?_
            refine z_getR (pc := 53) (k := 2) (r := 2) dX11_restore_53 lf_X11_17 sh_0 rfl rf_0_2 ?_
            refine z_sipush (pc := 56) dX11_restore_56 sp_578 ?_
            refine x_iload_n (pc := 59) dX11_restore_59 (List.Mem.tail _ (List.Mem.head _)) ?_
            refine z_iconst (pc := 60) dX11_restore_60 ?_
            refine z_iadd (pc := 61) dX11_restore_61 ?_
            refine z_imul (pc := 62) dX11_restore_62 ?_
            refine x_iload_n (pc := 63) dX11_restore_63 (List.Mem.tail _ (List.Mem.tail _ (List.Mem.head _))) ?_
            refine z_iadd (pc := 64) dX11_restore_64 ?_
            have rdk := ok.1 2 (578 * (i.toNat + 1) + k)
            refine z_iald (pc := 65) (j := 578 * (i.toNat + 1) + k) (v := (H.1 2 (578 * (i.toNat + 1) + k))) dX11_restore_65 sh_2 (by omega) (by omega) (by decide) (by rw [wA1]; exact if_neg (by omega)) ?_
            refine z_iast (pc := 66) (j := k) (v := ((H.1 2 (578 * (i.toNat + 1) + k)))) dX11_restore_66 sh_2 rfl (by omega) (by decide) ?_
            have ok9 := okI okl40 2 k (v := ((H.1 2 (578 * (i.toNat + 1) + k)))) (by omega) (by omega)
            refine z_iinc (pc := 67) dX11_restore_67 (List.Mem.tail _ (List.Mem.tail _ (List.Mem.head _))) (Nat.le_of_ble_eq_true rfl) ?_
            show Ev _ _ _ _ _ [(2, .int (zN ((k : Int) + 1))), (0, .ref 0), (1, .int (zN (i)))] _ _
            refine x_goto (pc := 70) (tgt := 40) dX11_restore_70 (by decide) ?_
            refine x_weaken (L1 := [(0, .ref 0), (1, .int (zN (i))), (2, .int (zN ((((k + 1) : Nat) : Int))))]) (List.forall_mem_cons.mpr ⟨(List.Mem.tail _ (List.Mem.head _)), (List.forall_mem_cons.mpr ⟨(List.Mem.tail _ (List.Mem.tail _ (List.Mem.head _))), (List.forall_mem_cons.mpr ⟨(mem_ci (by omega) (List.Mem.head _)), (fun _ h => absurd h List.not_mem_nil)⟩)⟩)⟩) ?_
            have he10 : (wI (wA H 2 (fun j => if j < k then (fun j => H.1 2 (578 * (i.toNat + 1) + j)) j else H.1 2 j)) 2 k (((H.1 2 (578 * (i.toNat + 1) + k))))) = (wA H 2 (fun j => if j < (k + 1) then (fun j => H.1 2 (578 * (i.toNat + 1) + j)) j else H.1 2 j)) := wA_step H 2 (fun j => H.1 2 (578 * (i.toNat + 1) + j)) k _ rfl
            refine Ev_heq he10 ?_
            have ok11 : okZ (wA H 2 (fun j => if j < (k + 1) then (fun j => H.1 2 (578 * (i.toNat + 1) + j)) j else H.1 2 j)) := by rw [← he10]; exact ok9
            exact ih40 ((k + 1)) ok11 (by omega) (by omega)
      refine x_weaken (L1 := [(0, .ref 0), (1, .int (zN (i))), (2, .int (zN (((0 : Nat) : Int))))]) (List.forall_mem_cons.mpr ⟨(List.Mem.tail _ (List.Mem.head _)), (List.forall_mem_cons.mpr ⟨(List.Mem.tail _ (List.Mem.tail _ (List.Mem.head _))), (List.forall_mem_cons.mpr ⟨(mem_ci (by omega) (List.Mem.head _)), (fun _ h => absurd h List.not_mem_nil)⟩)⟩)⟩) ?_
      have he12 : H = (wA H 2 (fun j => if j < 0 then (fun j => H.1 2 (578 * (i.toNat + 1) + j)) j else H.1 2 j)) := wA_zero H 2 (fun j => H.1 2 (578 * (i.toNat + 1) + j))
      refine Ev_heq he12 ?_
      have ok13 : okZ (wA H 2 (fun j => if j < 0 then (fun j => H.1 2 (578 * (i.toNat + 1) + j)) j else H.1 2 j)) := by rw [← he12]; exact ok3
      exact lp40 (578 - 0 + 1) (0) ok13 (by omega) (Nat.lt_succ_self _)
    · skip
      refine x_aload_n (pc := 31) dX11_restore_31 (List.Mem.head _) ?_
      refine z_bipush (pc := 32) dX11_restore_32 bp_m5 ?_
      refine z_callVip (pc := 34) (i := mX11_no) (S := []) [.int (zN ((-5)))] dX11_restore_34 ml_X11_89 ok_X11_no rfl sh_0 rfl (Or.inl rfl) (Nat.le_of_ble_eq_true rfl) (c_X11_no (d := d) (code := ((-5))) (code1 := (by omega)) (code2 := (by omega)) (ok := ok3) (cn := (by first | assumption | omega))) (fun r14a r14b ok15 => ?_)
      show Ev _ _ _ _ _ _ _ (eh (wI H 1 ((refIx ((-5)))) (H.1 1 (refIx ((-5))) + 1)))
      refine z_ireturn (pc := 37) dX11_restore_37 rfl (Or.inl rfl) ok15 (by omega) (by omega) ?_
      exact Or.inr (Or.inl ⟨by omega, by omega, rfl, rfl⟩)
  · skip
    refine z_if_ne (pc := 12) (tgt := 22) dX11_restore_12 (by decide) (by decide) (by decide) (fun h => absurd h (by decide)) (fun _ => ?_)
    refine x_aload_n (pc := 15) dX11_restore_15 (List.Mem.head _) ?_
    refine z_bipush (pc := 16) dX11_restore_16 bp_m2 ?_
    refine z_callVip (pc := 18) (i := mX11_no) (S := []) [.int (zN ((-2)))] dX11_restore_18 ml_X11_89 ok_X11_no rfl sh_0 rfl (Or.inl rfl) (Nat.le_of_ble_eq_true rfl) (c_X11_no (d := d) (code := ((-2))) (code1 := (by omega)) (code2 := (by omega)) (ok := ok3) (cn := (by first | assumption | omega))) (fun r17a r17b ok18 => ?_)
    show Ev _ _ _ _ _ _ _ (eh (wI H 1 ((refIx ((-2)))) (H.1 1 (refIx ((-2))) + 1)))
    refine z_ireturn (pc := 21) dX11_restore_21 rfl (Or.inl rfl) ok18 (by omega) (by omega) ?_
    exact Or.inl ⟨by omega, rfl, rfl⟩

theorem c_X10_isCar {d : Nat} {H : ZH} (ok : okZ H) {a : Int} (a1 : -2147483648 ≤ a) (a2 : a ≤ 2147483647) (ws : WFS (H.1 2)) (rs : RepSc H 35 (H.1 2)) : EvC zX (d + 1) mX10_isCar [.ref 20, .int (zN (a))] (eh H) (zPi (fun (rz : Int) (Hz : ZH) => rz = (if 0 ≤ a ∧ a ≤ H.1 2 1 - 1 then 1 else 0) ∧ Hz = H)) := by
  show _ ∧ Ev zX mX10_isCar (EvC zX d) (zPi (fun (rz : Int) (Hz : ZH) => rz = (if 0 ≤ a ∧ a ≤ H.1 2 1 - 1 then 1 else 0) ∧ Hz = H)) 0 [(0, .ref 20), (1, .int (zN (a)))] [] (eh H)
  refine ⟨Nat.le_of_ble_eq_true rfl, ?_⟩
  have wsx := ws
  obtain ⟨ws0, ws1, wsC, ws34, ws35, ws36, ws37, ws38, ws39⟩ := wsx
  have rsx := rs
  obtain ⟨rs0, rs1, rsC, rs34, rs35, rs36, rs37, rs38, rs39⟩ := rsx
  refine x_iload_n (pc := 0) dX10_isCar_0 (List.Mem.tail _ (List.Mem.head _)) ?_
  refine z_if_lt (pc := 1) (tgt := 22) dX10_isCar_1 (by decide) (by omega) (by omega) (fun hb1 => ?_) (fun hb1 => ?_)
  · skip
    refine z_iconst (pc := 22) dX10_isCar_22 ?_
    refine z_ireturn (pc := 23) dX10_isCar_23 rfl (Or.inr ⟨rfl, by omega⟩) ok (by decide) (by decide) ?_
    exact ⟨by first | rfl | omega | simp_all, rfl⟩
  · skip
    refine x_iload_n (pc := 4) dX10_isCar_4 (List.Mem.tail _ (List.Mem.head _)) ?_
    refine x_aload_n (pc := 5) dX10_isCar_5 (List.Mem.head _) ?_
    refine z_getR (pc := 6) (k := 3) (r := 98) dX10_isCar_6 lf_X10_23 sh_20 rfl rf_20_3 ?_
    refine z_getR (pc := 9) (k := 0) (r := 35) dX10_isCar_9 lf_X10_37 sh_98 rfl rf_98_0 ?_
    have rd2 := ok.1 35 1
    refine z_getI (pc := 12) (k := 1) (v := H.1 35 1) dX10_isCar_12 lf_X10_455 sh_35 rfl rfl ?_
    refine z_icmp_ge (pc := 15) (tgt := 22) dX10_isCar_15 (by decide) (by omega) (by omega) (by omega) (by omega) (fun hb3 => ?_) (fun hb3 => ?_)
    · skip
      refine z_iconst (pc := 22) dX10_isCar_22 ?_
      refine z_ireturn (pc := 23) dX10_isCar_23 rfl (Or.inr ⟨rfl, by omega⟩) ok (by decide) (by decide) ?_
      exact ⟨by first | rfl | omega | simp_all, rfl⟩
    · skip
      refine z_iconst (pc := 18) dX10_isCar_18 ?_
      refine x_goto (pc := 19) (tgt := 23) dX10_isCar_19 (by decide) ?_
      refine z_ireturn (pc := 23) dX10_isCar_23 rfl (Or.inr ⟨rfl, by omega⟩) ok (by decide) (by decide) ?_
      exact ⟨by first | rfl | omega | simp_all, rfl⟩

theorem c_X11_isCar {d : Nat} {H : ZH} (ok : okZ H) {a : Int} (a1 : -2147483648 ≤ a) (a2 : a ≤ 2147483647) (ws : WFS (H.1 2)) : EvC zX (d + 2) mX11_isCar [.ref 0, .int (zN (a))] (eh H) (zPi (fun (rz : Int) (Hz : ZH) => rz = (if 0 ≤ a ∧ a ≤ H.1 2 1 - 1 then 1 else 0) ∧ Hz = H)) := by
  show _ ∧ Ev zX mX11_isCar (EvC zX (d + 1)) (zPi (fun (rz : Int) (Hz : ZH) => rz = (if 0 ≤ a ∧ a ≤ H.1 2 1 - 1 then 1 else 0) ∧ Hz = H)) 0 [(0, .ref 0), (1, .int (zN (a)))] [] (eh H)
  refine ⟨Nat.le_of_ble_eq_true rfl, ?_⟩
  have wsx := ws
  obtain ⟨ws0, ws1, wsC, ws34, ws35, ws36, ws37, ws38, ws39⟩ := wsx
  refine x_iload_n (pc := 0) dX11_isCar_0 (List.Mem.tail _ (List.Mem.head _)) ?_
  refine z_i2l (pc := 1) dX11_isCar_1 (by omega) (by omega) ?_
  refine z_lconst (pc := 2) 0 dX11_isCar_2 rfl ?_
  refine x_aload_n (pc := 3) dX11_isCar_3 (List.Mem.head _) ?_
  refine z_getR (pc := 4) (k := 2) (r := 2) dX11_isCar_4 lf_X11_17 sh_0 rfl rf_0_2 ?_
  refine z_iconst (pc := 7) dX11_isCar_7 ?_
  have rd1 := ok.1 2 1
  refine z_iald (pc := 8) (j := 1) (v := H.1 2 1) dX11_isCar_8 sh_2 rfl (Nat.le_of_ble_eq_true rfl) (by decide) rfl ?_
  refine z_iconst (pc := 9) dX11_isCar_9 ?_
  refine z_isub (pc := 10) dX11_isCar_10 ?_
  refine z_i2l (pc := 11) dX11_isCar_11 (by omega) (by omega) ?_
  refine z_callSbp (pc := 12) (i := mX11_within) (S := []) [.long (zL (a)), .long (zL (0)), .long (zL (((H.1 2 1) - 1)))] dX11_isCar_12 ml_X11_152 ok_X11_within rfl (Or.inr rfl) (Nat.le_of_ble_eq_true rfl) (c_X11_within (d := d) (v := a) (lo := 0) (hi := (((H.1 2 1) - 1))) (v1 := (by omega)) (v2 := (by omega)) (lo1 := (by omega)) (lo2 := (by omega)) (hi1 := (by omega)) (hi2 := (by omega)) (ok := ok)) (fun hc4 ok3 => ?_) (fun hc4 ok3 => ?_)
  · skip
    refine z_ireturn (pc := 15) dX11_isCar_15 rfl (Or.inr ⟨rfl, by omega⟩) ok3 (by decide) (by decide) ?_
    exact ⟨by first | rfl | omega | simp_all, rfl⟩
  · skip
    refine z_ireturn (pc := 15) dX11_isCar_15 rfl (Or.inr ⟨rfl, by omega⟩) ok3 (by decide) (by decide) ?_
    exact ⟨by first | rfl | omega | simp_all, rfl⟩

theorem c_X10_car {d : Nat} {H : ZH} (ok : okZ H) {c what : Int} (c1 : -2147483648 ≤ c) (c2 : c ≤ 2147483647) (what1 : -2147483648 ≤ what) (what2 : what ≤ 2147483647) (cn : cntOK H 25) (ws : WFS (H.1 2)) (rs : RepSc H 35 (H.1 2)) : EvC zX (d + 2) mX10_car [.ref 20, .int (zN (c)), .int (zN (what))] (eh H) (zPi (fun (r : Int) (H1 : ZH) => r = (S_car (H.1 2) c what).1 ∧ H1 = bumpC (S_car (H.1 2) c what).2 H)) := by
  show _ ∧ Ev zX mX10_car (EvC zX (d + 1)) (zPi (fun (r : Int) (H1 : ZH) => r = (S_car (H.1 2) c what).1 ∧ H1 = bumpC (S_car (H.1 2) c what).2 H)) 0 [(0, .ref 20), (1, .int (zN (c))), (2, .int (zN (what)))] [] (eh H)
  refine ⟨Nat.le_of_ble_eq_true rfl, ?_⟩
  have wsx := ws
  obtain ⟨ws0, ws1, wsC, ws34, ws35, ws36, ws37, ws38, ws39⟩ := wsx
  have rsx := rs
  obtain ⟨rs0, rs1, rsC, rs34, rs35, rs36, rs37, rs38, rs39⟩ := rsx
  refine x_aload_n (pc := 0) dX10_car_0 (List.Mem.head _) ?_
  refine x_iload_n (pc := 1) dX10_car_1 (List.Mem.tail _ (List.Mem.head _)) ?_
  refine z_callVbp (pc := 2) (i := mX10_isCar) (S := []) [.int (zN (c))] dX10_car_2 ml_X10_137 ok_X10_isCar rfl sh_20 rfl (Or.inr rfl) (Nat.le_of_ble_eq_true rfl) (c_X10_isCar (d := d) (a := c) (a1 := (by omega)) (a2 := (by omega)) (ok := ok) (ws := (by first | assumption | omega)) (rs := (by first | assumption | omega))) (fun hc3 ok2 => ?_) (fun hc3 ok2 => ?_)
  · skip
    refine z_if_ne (pc := 5) (tgt := 15) dX10_car_5 (by decide) (by decide) (by decide) (fun _ => ?_) (fun h => absurd h (by decide))
    have rc : H.1 36 c.toNat = H.1 2 (2 + c.toNat) ∧ H.1 37 c.toNat = H.1 2 (10 + c.toNat) ∧ H.1 38 c.toNat = H.1 2 (18 + c.toNat) ∧ H.1 39 c.toNat = H.1 2 (26 + c.toNat) := rsC c.toNat (by omega)
    refine x_iload_n (pc := 15) dX10_car_15 (List.Mem.tail _ (List.Mem.tail _ (List.Mem.head _))) ?_
    rcases Int.decEq (what) (0) with hk5_0 | hk5_0
    rotate_left
    · skip
      refine z_tabIn (pc := 16) (0) (tgt := 48) dX10_car_16 hk5_0 (by omega) (by omega) (by decide) (by decide) rfl (by decide) ?_
      refine x_aload_n (pc := 48) dX10_car_48 (List.Mem.head _) ?_
      refine z_getR (pc := 49) (k := 3) (r := 98) dX10_car_49 lf_X10_23 sh_20 rfl rf_20_3 ?_
      refine z_getR (pc := 52) (k := 0) (r := 35) dX10_car_52 lf_X10_37 sh_98 rfl rf_98_0 ?_
      refine z_getR (pc := 55) (k := 2) (r := 36) dX10_car_55 lf_X10_141 sh_35 rfl rf_35_2 ?_
      refine x_iload_n (pc := 58) dX10_car_58 (List.Mem.tail _ (List.Mem.head _)) ?_
      have rd6 := ok2.1 36 c.toNat
      refine z_iald (pc := 59) (j := c.toNat) (v := H.1 36 c.toNat) dX10_car_59 sh_36 (by omega) (by omega) (by decide) rfl ?_
      refine z_ireturn (pc := 60) dX10_car_60 rfl (Or.inl rfl) ok2 (by omega) (by omega) ?_
      have e : S_car (H.1 2) c what = (H.1 2 (2 + c.toNat), 6) := by unfold S_car; rw [if_pos (by omega), show 2 + 8 * what.toNat + c.toNat = 2 + c.toNat by omega]
      rw [e]
      exact ⟨by omega, rfl⟩
    rcases Int.decEq (what) (1) with hk5_1 | hk5_1
    rotate_left
    · skip
      refine z_tabIn (pc := 16) (1) (tgt := 61) dX10_car_16 hk5_1 (by omega) (by omega) (by decide) (by decide) rfl (by decide) ?_
      refine x_aload_n (pc := 61) dX10_car_61 (List.Mem.head _) ?_
      refine z_getR (pc := 62) (k := 3) (r := 98) dX10_car_62 lf_X10_23 sh_20 rfl rf_20_3 ?_
      refine z_getR (pc := 65) (k := 0) (r := 35) dX10_car_65 lf_X10_37 sh_98 rfl rf_98_0 ?_
      refine z_getR (pc := 68) (k := 3) (r := 37) dX10_car_68 lf_X10_144 sh_35 rfl rf_35_3 ?_
      refine x_iload_n (pc := 71) dX10_car_71 (List.Mem.tail _ (List.Mem.head _)) ?_
      have rd7 := ok2.1 37 c.toNat
      refine z_iald (pc := 72) (j := c.toNat) (v := H.1 37 c.toNat) dX10_car_72 sh_37 (by omega) (by omega) (by decide) rfl ?_
      refine z_ireturn (pc := 73) dX10_car_73 rfl (Or.inl rfl) ok2 (by omega) (by omega) ?_
      have e : S_car (H.1 2) c what = (H.1 2 (10 + c.toNat), 6) := by unfold S_car; rw [if_pos (by omega), show 2 + 8 * what.toNat + c.toNat = 10 + c.toNat by omega]
      rw [e]
      exact ⟨by omega, rfl⟩
    rcases Int.decEq (what) (2) with hk5_2 | hk5_2
    rotate_left
    · skip
      refine z_tabIn (pc := 16) (2) (tgt := 74) dX10_car_16 hk5_2 (by omega) (by omega) (by decide) (by decide) rfl (by decide) ?_
      refine x_aload_n (pc := 74) dX10_car_74 (List.Mem.head _) ?_
      refine z_getR (pc := 75) (k := 3) (r := 98) dX10_car_75 lf_X10_23 sh_20 rfl rf_20_3 ?_
      refine z_getR (pc := 78) (k := 0) (r := 35) dX10_car_78 lf_X10_37 sh_98 rfl rf_98_0 ?_
      refine z_getR (pc := 81) (k := 4) (r := 38) dX10_car_81 lf_X10_147 sh_35 rfl rf_35_4 ?_
      refine x_iload_n (pc := 84) dX10_car_84 (List.Mem.tail _ (List.Mem.head _)) ?_
      have rd8 := ok2.1 38 c.toNat
      refine z_iald (pc := 85) (j := c.toNat) (v := H.1 38 c.toNat) dX10_car_85 sh_38 (by omega) (by omega) (by decide) rfl ?_
      refine z_ireturn (pc := 86) dX10_car_86 rfl (Or.inl rfl) ok2 (by omega) (by omega) ?_
      have e : S_car (H.1 2) c what = (H.1 2 (18 + c.toNat), 6) := by unfold S_car; rw [if_pos (by omega), show 2 + 8 * what.toNat + c.toNat = 18 + c.toNat by omega]
      rw [e]
      exact ⟨by omega, rfl⟩
    rcases Int.decEq (what) (3) with hk5_3 | hk5_3
    rotate_left
    · skip
      refine z_tabIn (pc := 16) (3) (tgt := 87) dX10_car_16 hk5_3 (by omega) (by omega) (by decide) (by decide) rfl (by decide) ?_
      refine x_aload_n (pc := 87) dX10_car_87 (List.Mem.head _) ?_
      refine z_getR (pc := 88) (k := 3) (r := 98) dX10_car_88 lf_X10_23 sh_20 rfl rf_20_3 ?_
      refine z_getR (pc := 91) (k := 0) (r := 35) dX10_car_91 lf_X10_37 sh_98 rfl rf_98_0 ?_
      refine z_getR (pc := 94) (k := 5) (r := 39) dX10_car_94 lf_X10_150 sh_35 rfl rf_35_5 ?_
      refine x_iload_n (pc := 97) dX10_car_97 (List.Mem.tail _ (List.Mem.head _)) ?_
      have rd9 := ok2.1 39 c.toNat
      refine z_iald (pc := 98) (j := c.toNat) (v := H.1 39 c.toNat) dX10_car_98 sh_39 (by omega) (by omega) (by decide) rfl ?_
      refine z_ireturn (pc := 99) dX10_car_99 rfl (Or.inl rfl) ok2 (by omega) (by omega) ?_
      have e : S_car (H.1 2) c what = (H.1 2 (26 + c.toNat), 6) := by unfold S_car; rw [if_pos (by omega), show 2 + 8 * what.toNat + c.toNat = 26 + c.toNat by omega]
      rw [e]
      exact ⟨by omega, rfl⟩
    refine z_tabOut (pc := 16) (tgt := 100) dX10_car_16 (by omega) (by omega) (by omega) (by decide) ?_
    refine x_aload_n (pc := 100) dX10_car_100 (List.Mem.head _) ?_
    refine z_bipush (pc := 101) dX10_car_101 bp_m2 ?_
    refine z_callVip (pc := 103) (i := mX10_refuse) (S := []) [.int (zN ((-2)))] dX10_car_103 ml_X10_97 ok_X10_refuse rfl sh_20 rfl (Or.inl rfl) (Nat.le_of_ble_eq_true rfl) (c_X10_refuse (d := d) (code := ((-2))) (code1 := (by omega)) (code2 := (by omega)) (ok := ok2) (cn := (by first | assumption | omega))) (fun r10a r10b ok11 => ?_)
    show Ev _ _ _ _ _ _ _ (eh (wI H 25 ((refIx ((-2)))) (H.1 25 (refIx ((-2))) + 1)))
    refine z_ireturn (pc := 106) dX10_car_106 rfl (Or.inl rfl) ok11 (by omega) (by omega) ?_
    have e : S_car (H.1 2) c what = (-2, 0) := by unfold S_car; rw [if_neg (by omega)]
    rw [e]
    exact ⟨rfl, rfl⟩
  · skip
    refine z_if_ne (pc := 5) (tgt := 15) dX10_car_5 (by decide) (by decide) (by decide) (fun h => absurd h (by decide)) (fun _ => ?_)
    refine x_aload_n (pc := 8) dX10_car_8 (List.Mem.head _) ?_
    refine z_bipush (pc := 9) dX10_car_9 bp_m2 ?_
    refine z_callVip (pc := 11) (i := mX10_refuse) (S := []) [.int (zN ((-2)))] dX10_car_11 ml_X10_97 ok_X10_refuse rfl sh_20 rfl (Or.inl rfl) (Nat.le_of_ble_eq_true rfl) (c_X10_refuse (d := d) (code := ((-2))) (code1 := (by omega)) (code2 := (by omega)) (ok := ok2) (cn := (by first | assumption | omega))) (fun r13a r13b ok14 => ?_)
    show Ev _ _ _ _ _ _ _ (eh (wI H 25 ((refIx ((-2)))) (H.1 25 (refIx ((-2))) + 1)))
    refine z_ireturn (pc := 14) dX10_car_14 rfl (Or.inl rfl) ok14 (by omega) (by omega) ?_
    have e : S_car (H.1 2) c what = (-2, 0) := by unfold S_car; rw [if_neg (by omega)]
    rw [e]
    exact ⟨rfl, rfl⟩

theorem c_X11_car {d : Nat} {H : ZH} (ok : okZ H) {c what : Int} (c1 : -2147483648 ≤ c) (c2 : c ≤ 2147483647) (what1 : -2147483648 ≤ what) (what2 : what ≤ 2147483647) (cm : cntOK H 1) (th : H.1 0 0 = 0) (ws : WFS (H.1 2)) : EvC zX (d + 3) mX11_car [.ref 0, .int (zN (c)), .int (zN (what))] (eh H) (zPi (fun (r : Int) (H1 : ZH) => r = (S_car (H.1 2) c what).1 ∧ H1 = bumpM (S_car (H.1 2) c what).2 H)) := by
  show _ ∧ Ev zX mX11_car (EvC zX (d + 2)) (zPi (fun (r : Int) (H1 : ZH) => r = (S_car (H.1 2) c what).1 ∧ H1 = bumpM (S_car (H.1 2) c what).2 H)) 0 [(0, .ref 0), (1, .int (zN (c))), (2, .int (zN (what)))] [] (eh H)
  refine ⟨Nat.le_of_ble_eq_true rfl, ?_⟩
  have wsx := ws
  obtain ⟨ws0, ws1, wsC, ws34, ws35, ws36, ws37, ws38, ws39⟩ := wsx
  refine x_aload_n (pc := 0) dX11_car_0 (List.Mem.head _) ?_
  refine z_iconst (pc := 1) dX11_car_1 ?_
  refine z_putI (pc := 2) (k := 0) dX11_car_2 lp_X11_1 sh_0 rfl ?_
  have ok1 := okI ok 0 0 (v := 0) (by decide) (by decide)
  rw [wI_same th]
  refine x_aload_n (pc := 5) dX11_car_5 (List.Mem.head _) ?_
  refine x_iload_n (pc := 6) dX11_car_6 (List.Mem.tail _ (List.Mem.head _)) ?_
  refine z_callVbp (pc := 7) (i := mX11_isCar) (S := []) [.int (zN (c))] dX11_car_7 ml_X11_210 ok_X11_isCar rfl sh_0 rfl (Or.inr rfl) (Nat.le_of_ble_eq_true rfl) (c_X11_isCar (d := d) (a := c) (a1 := (by omega)) (a2 := (by omega)) (ok := ok) (ws := (by first | assumption | omega))) (fun hc4 ok3 => ?_) (fun hc4 ok3 => ?_)
  · skip
    refine z_if_eq (pc := 10) (tgt := 25) dX11_car_10 (by decide) (by decide) (by decide) (fun h => absurd h (by decide)) (fun _ => ?_)
    refine x_iload_n (pc := 13) dX11_car_13 (List.Mem.tail _ (List.Mem.tail _ (List.Mem.head _))) ?_
    refine z_i2l (pc := 14) dX11_car_14 (by omega) (by omega) ?_
    refine z_lconst (pc := 15) 0 dX11_car_15 rfl ?_
    refine z_ldc2_w (pc := 16) 3 dX11_car_16 cl_X11_213 (by decide) ?_
    refine z_callSbp (pc := 19) (i := mX11_within) (S := []) [.long (zL (what)), .long (zL (0)), .long (zL (3))] dX11_car_19 ml_X11_152 ok_X11_within rfl (Or.inr rfl) (Nat.le_of_ble_eq_true rfl) (c_X11_within (d := d + 1) (v := what) (lo := 0) (hi := 3) (v1 := (by omega)) (v2 := (by omega)) (lo1 := (by omega)) (lo2 := (by omega)) (hi1 := (by omega)) (hi2 := (by omega)) (ok := ok3)) (fun hc8 ok7 => ?_) (fun hc8 ok7 => ?_)
    · skip
      refine z_if_ne (pc := 22) (tgt := 32) dX11_car_22 (by decide) (by decide) (by decide) (fun _ => ?_) (fun h => absurd h (by decide))
      refine x_aload_n (pc := 32) dX11_car_32 (List.Mem.head _) ?_
      refine z_getR (pc := 33) (k := 2) (r := 2) dX11_car_33 lf_X11_17 sh_0 rfl rf_0_2 ?_
      refine z_iconst (pc := 36) dX11_car_36 ?_
      refine z_bipush (pc := 37) dX11_car_37 bp_8 ?_
      refine x_iload_n (pc := 39) dX11_car_39 (List.Mem.tail _ (List.Mem.tail _ (List.Mem.head _))) ?_
      refine z_imul (pc := 40) dX11_car_40 ?_
      refine z_iadd (pc := 41) dX11_car_41 ?_
      refine x_iload_n (pc := 42) dX11_car_42 (List.Mem.tail _ (List.Mem.head _)) ?_
      refine z_iadd (pc := 43) dX11_car_43 ?_
      have rd10 := ok7.1 2 (2 + 8 * what.toNat + c.toNat)
      refine z_iald (pc := 44) (j := 2 + 8 * what.toNat + c.toNat) (v := H.1 2 (2 + 8 * what.toNat + c.toNat)) dX11_car_44 sh_2 (by omega) (by omega) (by decide) rfl ?_
      refine z_ireturn (pc := 45) dX11_car_45 rfl (Or.inl rfl) ok7 (by omega) (by omega) ?_
      have e : S_car (H.1 2) c what = (H.1 2 (2 + 8 * what.toNat + c.toNat), 6) := by unfold S_car; rw [if_pos (by omega)]
      rw [e]
      exact ⟨rfl, rfl⟩
    · skip
      refine z_if_ne (pc := 22) (tgt := 32) dX11_car_22 (by decide) (by decide) (by decide) (fun h => absurd h (by decide)) (fun _ => ?_)
      refine x_aload_n (pc := 25) dX11_car_25 (List.Mem.head _) ?_
      refine z_bipush (pc := 26) dX11_car_26 bp_m2 ?_
      refine z_callVip (pc := 28) (i := mX11_no) (S := []) [.int (zN ((-2)))] dX11_car_28 ml_X11_89 ok_X11_no rfl sh_0 rfl (Or.inl rfl) (Nat.le_of_ble_eq_true rfl) (c_X11_no (d := d + 1) (code := ((-2))) (code1 := (by omega)) (code2 := (by omega)) (ok := ok7) (cn := (by first | assumption | omega))) (fun r12a r12b ok13 => ?_)
      show Ev _ _ _ _ _ _ _ (eh (wI H 1 ((refIx ((-2)))) (H.1 1 (refIx ((-2))) + 1)))
      refine z_ireturn (pc := 31) dX11_car_31 rfl (Or.inl rfl) ok13 (by omega) (by omega) ?_
      have e : S_car (H.1 2) c what = (-2, 0) := by unfold S_car; rw [if_neg (by omega)]
      rw [e]
      exact ⟨rfl, rfl⟩
  · skip
    refine z_if_eq (pc := 10) (tgt := 25) dX11_car_10 (by decide) (by decide) (by decide) (fun _ => ?_) (fun h => absurd h (by decide))
    refine x_aload_n (pc := 25) dX11_car_25 (List.Mem.head _) ?_
    refine z_bipush (pc := 26) dX11_car_26 bp_m2 ?_
    refine z_callVip (pc := 28) (i := mX11_no) (S := []) [.int (zN ((-2)))] dX11_car_28 ml_X11_89 ok_X11_no rfl sh_0 rfl (Or.inl rfl) (Nat.le_of_ble_eq_true rfl) (c_X11_no (d := d + 1) (code := ((-2))) (code1 := (by omega)) (code2 := (by omega)) (ok := ok3) (cn := (by first | assumption | omega))) (fun r15a r15b ok16 => ?_)
    show Ev _ _ _ _ _ _ _ (eh (wI H 1 ((refIx ((-2)))) (H.1 1 (refIx ((-2))) + 1)))
    refine z_ireturn (pc := 31) dX11_car_31 rfl (Or.inl rfl) ok16 (by omega) (by omega) ?_
    have e : S_car (H.1 2) c what = (-2, 0) := by unfold S_car; rw [if_neg (by omega)]
    rw [e]
    exact ⟨rfl, rfl⟩

theorem c_X10_trait {d : Nat} {H : ZH} (ok : okZ H) {tr on : Int} (on01 : on = 0 ∨ on = 1) (tr1 : -2147483648 ≤ tr) (tr2 : tr ≤ 2147483647) (cn : cntOK H 25) (ws : WFS (H.1 2)) (rs : RepSc H 35 (H.1 2)) : EvC zX (d + 2) mX10_trait [.ref 20, .int (zN (tr)), .int (zN (on))] (eh H) (zPi (fun (r : Int) (H1 : ZH) => r = (S_trait (H.1 2) tr).1 ∧ H1 = if (S_trait (H.1 2) tr).2 = 6 then wI (wI H 20 8 0) 35 6 (trnew (H.1 2) tr on) else bumpC (S_trait (H.1 2) tr).2 H)) := by
  show _ ∧ Ev zX mX10_trait (EvC zX (d + 1)) (zPi (fun (r : Int) (H1 : ZH) => r = (S_trait (H.1 2) tr).1 ∧ H1 = if (S_trait (H.1 2) tr).2 = 6 then wI (wI H 20 8 0) 35 6 (trnew (H.1 2) tr on) else bumpC (S_trait (H.1 2) tr).2 H)) 0 [(0, .ref 20), (1, .int (zN (tr))), (2, .int (zN (on)))] [] (eh H)
  refine ⟨Nat.le_of_ble_eq_true rfl, ?_⟩
  have wsx := ws
  obtain ⟨ws0, ws1, wsC, ws34, ws35, ws36, ws37, ws38, ws39⟩ := wsx
  have rsx := rs
  obtain ⟨rs0, rs1, rsC, rs34, rs35, rs36, rs37, rs38, rs39⟩ := rsx
  refine x_iload_n (pc := 0) dX10_trait_0 (List.Mem.tail _ (List.Mem.head _)) ?_
  refine z_if_lt (pc := 1) (tgt := 10) dX10_trait_1 (by decide) (by omega) (by omega) (fun hb1 => ?_) (fun hb1 => ?_)
  · skip
    refine x_aload_n (pc := 10) dX10_trait_10 (List.Mem.head _) ?_
    refine z_bipush (pc := 11) dX10_trait_11 bp_m2 ?_
    refine z_callVip (pc := 13) (i := mX10_refuse) (S := []) [.int (zN ((-2)))] dX10_trait_13 ml_X10_97 ok_X10_refuse rfl sh_20 rfl (Or.inl rfl) (Nat.le_of_ble_eq_true rfl) (c_X10_refuse (d := d) (code := ((-2))) (code1 := (by omega)) (code2 := (by omega)) (ok := ok) (cn := (by first | assumption | omega))) (fun r2a r2b ok3 => ?_)
    show Ev _ _ _ _ _ _ _ (eh (wI H 25 ((refIx ((-2)))) (H.1 25 (refIx ((-2))) + 1)))
    refine z_ireturn (pc := 16) dX10_trait_16 rfl (Or.inl rfl) ok3 (by omega) (by omega) ?_
    have e : S_trait (H.1 2) tr = (-2, 0) := by unfold S_trait; rw [if_neg (by omega)]
    rw [e]
    exact ⟨rfl, rfl⟩
  · skip
    refine x_iload_n (pc := 4) dX10_trait_4 (List.Mem.tail _ (List.Mem.head _)) ?_
    refine z_bipush (pc := 5) dX10_trait_5 bp_8 ?_
    refine z_icmp_lt (pc := 7) (tgt := 17) dX10_trait_7 (by decide) (by omega) (by omega) (by decide) (by decide) (fun hb4 => ?_) (fun hb4 => ?_)
    · skip
      have ab := and_bitI (t := H.1 2 34) (k := tr.toNat) (by omega) (by omega) (by omega)
      have ac : ((((H.1 2 34).toNat &&& 2 ^ tr.toNat : Nat)) : Int) ≤ 255 := by have := @Nat.and_le_left (H.1 2 34).toNat (2 ^ tr.toNat); omega
      have ob := or256 (t := H.1 2 34) (k := tr.toNat) (by omega) (by omega) (by omega)
      have zb := zandn_bd (t := H.1 2 34) (k := tr.toNat) (by omega) (by omega) (by omega)
      have pb := pow256 (t := H.1 2 34) (k := tr.toNat) (by omega) (by omega)
      refine x_aload_n (pc := 17) dX10_trait_17 (List.Mem.head _) ?_
      refine z_iconst (pc := 18) dX10_trait_18 ?_
      refine z_putZ (pc := 19) (k := 8) dX10_trait_19 lp_X10_115 sh_20 rfl (by omega) ?_
      have ok5 := okI ok 20 8 (v := 0) (by decide) (by decide)
      refine z_iconst (pc := 22) dX10_trait_22 ?_
      refine x_iload_n (pc := 23) dX10_trait_23 (List.Mem.tail _ (List.Mem.head _)) ?_
      refine z_ishl1 (pc := 24) (k := tr.toNat) dX10_trait_24 (by omega) (by omega) ?_
      refine x_istore_n (pc := 25) dX10_trait_25 (Nat.le_of_ble_eq_true rfl) ?_
      show Ev _ _ _ _ _ [(3, .int (zN (((2 ^ tr.toNat : Nat) : Int)))), (0, .ref 20), (1, .int (zN (tr))), (2, .int (zN (on)))] _ _
      refine x_aload_n (pc := 26) dX10_trait_26 (List.Mem.tail _ (List.Mem.head _)) ?_
      refine z_getR (pc := 27) (k := 3) (r := 98) dX10_trait_27 lf_X10_23 sh_20 rfl rf_20_3 ?_
      refine z_getR (pc := 30) (k := 0) (r := 35) dX10_trait_30 lf_X10_37 sh_98 rfl rf_98_0 ?_
      refine z_getI (pc := 33) (k := 6) (v := (H.1 2 34)) dX10_trait_33 lf_X10_153 sh_35 rfl (by rw [wI1c (by omega), rs34]) ?_
      refine x_iload_n (pc := 36) dX10_trait_36 (List.Mem.head _) ?_
      refine z_iand (pc := 37) (m := (H.1 2 34).toNat) (n := 2 ^ tr.toNat) dX10_trait_37 (by omega) rfl ?_
      refine z_if_eq (pc := 38) (tgt := 45) dX10_trait_38 (by decide) (by omega) (by omega) (fun hb6 => ?_) (fun hb6 => ?_)
      · skip
        have ab2 := ab.mp hb6
        refine z_iconst (pc := 45) dX10_trait_45 ?_
        refine x_istore (pc := 46) dX10_trait_46 (Nat.le_of_ble_eq_true rfl) ?_
        show Ev _ _ _ _ _ [(4, .int (zN (0))), (3, .int (zN (((2 ^ tr.toNat : Nat) : Int)))), (0, .ref 20), (1, .int (zN (tr))), (2, .int (zN (on)))] _ _
        refine x_aload_n (pc := 48) dX10_trait_48 (List.Mem.tail _ (List.Mem.tail _ (List.Mem.head _))) ?_
        refine z_getR (pc := 49) (k := 3) (r := 98) dX10_trait_49 lf_X10_23 sh_20 rfl rf_20_3 ?_
        refine z_getR (pc := 52) (k := 0) (r := 35) dX10_trait_52 lf_X10_37 sh_98 rfl rf_98_0 ?_
        refine x_iload_n (pc := 55) dX10_trait_55 (List.Mem.tail _ (List.Mem.tail _ (List.Mem.tail _ (List.Mem.tail _ (List.Mem.head _))))) ?_
        refine z_if_eq (pc := 56) (tgt := 74) dX10_trait_56 (by decide) (by omega) (by omega) (fun hb7 => ?_) (fun hb7 => ?_)
        · skip
          refine x_aload_n (pc := 74) dX10_trait_74 (List.Mem.tail _ (List.Mem.tail _ (List.Mem.head _))) ?_
          refine z_getR (pc := 75) (k := 3) (r := 98) dX10_trait_75 lf_X10_23 sh_20 rfl rf_20_3 ?_
          refine z_getR (pc := 78) (k := 0) (r := 35) dX10_trait_78 lf_X10_37 sh_98 rfl rf_98_0 ?_
          refine z_getI (pc := 81) (k := 6) (v := (H.1 2 34)) dX10_trait_81 lf_X10_153 sh_35 rfl (by rw [wI1c (by omega), rs34]) ?_
          refine x_iload_n (pc := 84) dX10_trait_84 (List.Mem.tail _ (List.Mem.head _)) ?_
          refine z_iconst (pc := 85) dX10_trait_85 ?_
          refine z_andn (pc := 86) (t := ((H.1 2 34))) (k := tr.toNat) dX10_trait_86 dX10_trait_87 (by omega) (by omega) (by omega) ?_
          refine z_putI (pc := 88) (k := 6) dX10_trait_88 lp_X10_153 sh_35 rfl ?_
          have ok8 := okI ok5 35 6 (v := (zandn ((H.1 2 34)) tr.toNat)) (by omega) (by omega)
          refine x_iload (pc := 91) dX10_trait_91 (List.Mem.head _) ?_
          refine z_ireturn (pc := 93) dX10_trait_93 rfl (Or.inl rfl) ok8 (by decide) (by decide) ?_
          have e : S_trait (H.1 2) tr = (H.1 2 34 / 2 ^ tr.toNat % 2, 6) := by unfold S_trait; exact if_pos (by omega)
          rw [e]
          refine ⟨by omega, ?_⟩
          show _ = wI (wI H 20 8 0) 35 6 (trnew (H.1 2) tr on)
          unfold trnew
          first | rw [if_pos (by omega)] | rw [if_neg (by omega)]
        · skip
          refine x_aload_n (pc := 59) dX10_trait_59 (List.Mem.tail _ (List.Mem.tail _ (List.Mem.head _))) ?_
          refine z_getR (pc := 60) (k := 3) (r := 98) dX10_trait_60 lf_X10_23 sh_20 rfl rf_20_3 ?_
          refine z_getR (pc := 63) (k := 0) (r := 35) dX10_trait_63 lf_X10_37 sh_98 rfl rf_98_0 ?_
          refine z_getI (pc := 66) (k := 6) (v := (H.1 2 34)) dX10_trait_66 lf_X10_153 sh_35 rfl (by rw [wI1c (by omega), rs34]) ?_
          refine x_iload_n (pc := 69) dX10_trait_69 (List.Mem.tail _ (List.Mem.head _)) ?_
          refine z_ior (pc := 70) (m := (H.1 2 34).toNat) (n := 2 ^ tr.toNat) dX10_trait_70 (by omega) rfl ?_
          refine x_goto (pc := 71) (tgt := 88) dX10_trait_71 (by decide) ?_
          refine z_putI (pc := 88) (k := 6) dX10_trait_88 lp_X10_153 sh_35 rfl ?_
          have ok9 := okI ok5 35 6 (v := ((((H.1 2 34).toNat) ||| (2 ^ tr.toNat) : Nat) : Int)) (by omega) (by omega)
          refine x_iload (pc := 91) dX10_trait_91 (List.Mem.head _) ?_
          refine z_ireturn (pc := 93) dX10_trait_93 rfl (Or.inl rfl) ok9 (by decide) (by decide) ?_
          have e : S_trait (H.1 2) tr = (H.1 2 34 / 2 ^ tr.toNat % 2, 6) := by unfold S_trait; exact if_pos (by omega)
          rw [e]
          refine ⟨by omega, ?_⟩
          show _ = wI (wI H 20 8 0) 35 6 (trnew (H.1 2) tr on)
          unfold trnew
          first | rw [if_pos (by omega)] | rw [if_neg (by omega)]
      · skip
        have ab2 := fun q => hb6 (ab.mpr q)
        refine z_iconst (pc := 41) dX10_trait_41 ?_
        refine x_goto (pc := 42) (tgt := 46) dX10_trait_42 (by decide) ?_
        refine x_istore (pc := 46) dX10_trait_46 (Nat.le_of_ble_eq_true rfl) ?_
        show Ev _ _ _ _ _ [(4, .int (zN (1))), (3, .int (zN (((2 ^ tr.toNat : Nat) : Int)))), (0, .ref 20), (1, .int (zN (tr))), (2, .int (zN (on)))] _ _
        refine x_aload_n (pc := 48) dX10_trait_48 (List.Mem.tail _ (List.Mem.tail _ (List.Mem.head _))) ?_
        refine z_getR (pc := 49) (k := 3) (r := 98) dX10_trait_49 lf_X10_23 sh_20 rfl rf_20_3 ?_
        refine z_getR (pc := 52) (k := 0) (r := 35) dX10_trait_52 lf_X10_37 sh_98 rfl rf_98_0 ?_
        refine x_iload_n (pc := 55) dX10_trait_55 (List.Mem.tail _ (List.Mem.tail _ (List.Mem.tail _ (List.Mem.tail _ (List.Mem.head _))))) ?_
        refine z_if_eq (pc := 56) (tgt := 74) dX10_trait_56 (by decide) (by omega) (by omega) (fun hb10 => ?_) (fun hb10 => ?_)
        · skip
          refine x_aload_n (pc := 74) dX10_trait_74 (List.Mem.tail _ (List.Mem.tail _ (List.Mem.head _))) ?_
          refine z_getR (pc := 75) (k := 3) (r := 98) dX10_trait_75 lf_X10_23 sh_20 rfl rf_20_3 ?_
          refine z_getR (pc := 78) (k := 0) (r := 35) dX10_trait_78 lf_X10_37 sh_98 rfl rf_98_0 ?_
          refine z_getI (pc := 81) (k := 6) (v := (H.1 2 34)) dX10_trait_81 lf_X10_153 sh_35 rfl (by rw [wI1c (by omega), rs34]) ?_
          refine x_iload_n (pc := 84) dX10_trait_84 (List.Mem.tail _ (List.Mem.head _)) ?_
          refine z_iconst (pc := 85) dX10_trait_85 ?_
          refine z_andn (pc := 86) (t := ((H.1 2 34))) (k := tr.toNat) dX10_trait_86 dX10_trait_87 (by omega) (by omega) (by omega) ?_
          refine z_putI (pc := 88) (k := 6) dX10_trait_88 lp_X10_153 sh_35 rfl ?_
          have ok11 := okI ok5 35 6 (v := (zandn ((H.1 2 34)) tr.toNat)) (by omega) (by omega)
          refine x_iload (pc := 91) dX10_trait_91 (List.Mem.head _) ?_
          refine z_ireturn (pc := 93) dX10_trait_93 rfl (Or.inl rfl) ok11 (by decide) (by decide) ?_
          have e : S_trait (H.1 2) tr = (H.1 2 34 / 2 ^ tr.toNat % 2, 6) := by unfold S_trait; exact if_pos (by omega)
          rw [e]
          refine ⟨by omega, ?_⟩
          show _ = wI (wI H 20 8 0) 35 6 (trnew (H.1 2) tr on)
          unfold trnew
          first | rw [if_pos (by omega)] | rw [if_neg (by omega)]
        · skip
          refine x_aload_n (pc := 59) dX10_trait_59 (List.Mem.tail _ (List.Mem.tail _ (List.Mem.head _))) ?_
          refine z_getR (pc := 60) (k := 3) (r := 98) dX10_trait_60 lf_X10_23 sh_20 rfl rf_20_3 ?_
          refine z_getR (pc := 63) (k := 0) (r := 35) dX10_trait_63 lf_X10_37 sh_98 rfl rf_98_0 ?_
          refine z_getI (pc := 66) (k := 6) (v := (H.1 2 34)) dX10_trait_66 lf_X10_153 sh_35 rfl (by rw [wI1c (by omega), rs34]) ?_
          refine x_iload_n (pc := 69) dX10_trait_69 (List.Mem.tail _ (List.Mem.head _)) ?_
          refine z_ior (pc := 70) (m := (H.1 2 34).toNat) (n := 2 ^ tr.toNat) dX10_trait_70 (by omega) rfl ?_
          refine x_goto (pc := 71) (tgt := 88) dX10_trait_71 (by decide) ?_
          refine z_putI (pc := 88) (k := 6) dX10_trait_88 lp_X10_153 sh_35 rfl ?_
          have ok12 := okI ok5 35 6 (v := ((((H.1 2 34).toNat) ||| (2 ^ tr.toNat) : Nat) : Int)) (by omega) (by omega)
          refine x_iload (pc := 91) dX10_trait_91 (List.Mem.head _) ?_
          refine z_ireturn (pc := 93) dX10_trait_93 rfl (Or.inl rfl) ok12 (by decide) (by decide) ?_
          have e : S_trait (H.1 2) tr = (H.1 2 34 / 2 ^ tr.toNat % 2, 6) := by unfold S_trait; exact if_pos (by omega)
          rw [e]
          refine ⟨by omega, ?_⟩
          show _ = wI (wI H 20 8 0) 35 6 (trnew (H.1 2) tr on)
          unfold trnew
          first | rw [if_pos (by omega)] | rw [if_neg (by omega)]
    · skip
      refine x_aload_n (pc := 10) dX10_trait_10 (List.Mem.head _) ?_
      refine z_bipush (pc := 11) dX10_trait_11 bp_m2 ?_
      refine z_callVip (pc := 13) (i := mX10_refuse) (S := []) [.int (zN ((-2)))] dX10_trait_13 ml_X10_97 ok_X10_refuse rfl sh_20 rfl (Or.inl rfl) (Nat.le_of_ble_eq_true rfl) (c_X10_refuse (d := d) (code := ((-2))) (code1 := (by omega)) (code2 := (by omega)) (ok := ok) (cn := (by first | assumption | omega))) (fun r13a r13b ok14 => ?_)
      show Ev _ _ _ _ _ _ _ (eh (wI H 25 ((refIx ((-2)))) (H.1 25 (refIx ((-2))) + 1)))
      refine z_ireturn (pc := 16) dX10_trait_16 rfl (Or.inl rfl) ok14 (by omega) (by omega) ?_
      have e : S_trait (H.1 2) tr = (-2, 0) := by unfold S_trait; rw [if_neg (by omega)]
      rw [e]
      exact ⟨rfl, rfl⟩

theorem c_X11_trait {d : Nat} {H : ZH} (ok : okZ H) {tr on : Int} (on01 : on = 0 ∨ on = 1) (tr1 : -2147483648 ≤ tr) (tr2 : tr ≤ 2147483647) (cm : cntOK H 1) (th : H.1 0 0 = 0) (ws : WFS (H.1 2)) : EvC zX (d + 2) mX11_trait [.ref 0, .int (zN (tr)), .int (zN (on))] (eh H) (zPi (fun (r : Int) (H1 : ZH) => r = (S_trait (H.1 2) tr).1 ∧ H1 = if (S_trait (H.1 2) tr).2 = 6 then wI H 2 34 (trnew (H.1 2) tr on) else bumpM (S_trait (H.1 2) tr).2 H)) := by
  show _ ∧ Ev zX mX11_trait (EvC zX (d + 1)) (zPi (fun (r : Int) (H1 : ZH) => r = (S_trait (H.1 2) tr).1 ∧ H1 = if (S_trait (H.1 2) tr).2 = 6 then wI H 2 34 (trnew (H.1 2) tr on) else bumpM (S_trait (H.1 2) tr).2 H)) 0 [(0, .ref 0), (1, .int (zN (tr))), (2, .int (zN (on)))] [] (eh H)
  refine ⟨Nat.le_of_ble_eq_true rfl, ?_⟩
  have wsx := ws
  obtain ⟨ws0, ws1, wsC, ws34, ws35, ws36, ws37, ws38, ws39⟩ := wsx
  refine x_aload_n (pc := 0) dX11_trait_0 (List.Mem.head _) ?_
  refine z_iconst (pc := 1) dX11_trait_1 ?_
  refine z_putI (pc := 2) (k := 0) dX11_trait_2 lp_X11_1 sh_0 rfl ?_
  have ok1 := okI ok 0 0 (v := 0) (by decide) (by decide)
  rw [wI_same th]
  refine x_iload_n (pc := 5) dX11_trait_5 (List.Mem.tail _ (List.Mem.head _)) ?_
  refine z_i2l (pc := 6) dX11_trait_6 (by omega) (by omega) ?_
  refine z_lconst (pc := 7) 0 dX11_trait_7 rfl ?_
  refine z_ldc2_w (pc := 8) 7 dX11_trait_8 cl_X11_215 (by decide) ?_
  refine z_callSbp (pc := 11) (i := mX11_within) (S := []) [.long (zL (tr)), .long (zL (0)), .long (zL (7))] dX11_trait_11 ml_X11_152 ok_X11_within rfl (Or.inr rfl) (Nat.le_of_ble_eq_true rfl) (c_X11_within (d := d) (v := tr) (lo := 0) (hi := 7) (v1 := (by omega)) (v2 := (by omega)) (lo1 := (by omega)) (lo2 := (by omega)) (hi1 := (by omega)) (hi2 := (by omega)) (ok := ok)) (fun hc4 ok3 => ?_) (fun hc4 ok3 => ?_)
  · skip
    refine z_if_ne (pc := 14) (tgt := 24) dX11_trait_14 (by decide) (by decide) (by decide) (fun _ => ?_) (fun h => absurd h (by decide))
    have ab := and_bitI (t := H.1 2 34) (k := tr.toNat) (by omega) (by omega) (by omega)
    have ac : ((((H.1 2 34).toNat &&& 2 ^ tr.toNat : Nat)) : Int) ≤ 255 := by have := @Nat.and_le_left (H.1 2 34).toNat (2 ^ tr.toNat); omega
    have ob := or256 (t := H.1 2 34) (k := tr.toNat) (by omega) (by omega) (by omega)
    have zb := zandn_bd (t := H.1 2 34) (k := tr.toNat) (by omega) (by omega) (by omega)
    have pb := pow256 (t := H.1 2 34) (k := tr.toNat) (by omega) (by omega)
    refine x_aload_n (pc := 24) dX11_trait_24 (List.Mem.head _) ?_
    refine z_getR (pc := 25) (k := 2) (r := 2) dX11_trait_25 lf_X11_17 sh_0 rfl rf_0_2 ?_
    refine z_bipush (pc := 28) dX11_trait_28 bp_34 ?_
    have rd6 := ok3.1 2 34
    refine z_iald (pc := 30) (j := 34) (v := H.1 2 34) dX11_trait_30 sh_2 rfl (Nat.le_of_ble_eq_true rfl) (by decide) rfl ?_
    refine x_iload_n (pc := 31) dX11_trait_31 (List.Mem.tail _ (List.Mem.head _)) ?_
    refine z_ishr (pc := 32) (k := tr.toNat) dX11_trait_32 (by omega) (by omega) (by omega) (by omega) ?_
    refine z_iconst (pc := 33) dX11_trait_33 ?_
    refine z_iand1 (pc := 34) dX11_trait_34 ?_
    refine x_istore_n (pc := 35) dX11_trait_35 (Nat.le_of_ble_eq_true rfl) ?_
    show Ev _ _ _ _ _ [(3, .int (zN ((((H.1 2 34) / 2 ^ (tr.toNat)) % 2)))), (0, .ref 0), (1, .int (zN (tr))), (2, .int (zN (on)))] _ _
    refine x_aload_n (pc := 36) dX11_trait_36 (List.Mem.tail _ (List.Mem.head _)) ?_
    refine z_getR (pc := 37) (k := 2) (r := 2) dX11_trait_37 lf_X11_17 sh_0 rfl rf_0_2 ?_
    refine z_bipush (pc := 40) dX11_trait_40 bp_34 ?_
    refine x_iload_n (pc := 42) dX11_trait_42 (List.Mem.tail _ (List.Mem.tail _ (List.Mem.tail _ (List.Mem.head _)))) ?_
    refine z_if_eq (pc := 43) (tgt := 60) dX11_trait_43 (by decide) (by omega) (by omega) (fun hb7 => ?_) (fun hb7 => ?_)
    · skip
      refine x_aload_n (pc := 60) dX11_trait_60 (List.Mem.tail _ (List.Mem.head _)) ?_
      refine z_getR (pc := 61) (k := 2) (r := 2) dX11_trait_61 lf_X11_17 sh_0 rfl rf_0_2 ?_
      refine z_bipush (pc := 64) dX11_trait_64 bp_34 ?_
      have rd8 := ok3.1 2 34
      refine z_iald (pc := 66) (j := 34) (v := H.1 2 34) dX11_trait_66 sh_2 rfl (Nat.le_of_ble_eq_true rfl) (by decide) rfl ?_
      refine z_iconst (pc := 67) dX11_trait_67 ?_
      refine x_iload_n (pc := 68) dX11_trait_68 (List.Mem.tail _ (List.Mem.tail _ (List.Mem.head _))) ?_
      refine z_ishl1 (pc := 69) (k := tr.toNat) dX11_trait_69 (by omega) (by omega) ?_
      refine z_iconst (pc := 70) dX11_trait_70 ?_
      refine z_andn (pc := 71) (t := (H.1 2 34)) (k := tr.toNat) dX11_trait_71 dX11_trait_72 (by omega) (by omega) (by omega) ?_
      refine z_iast (pc := 73) (j := 34) (v := (zandn (H.1 2 34) tr.toNat)) dX11_trait_73 sh_2 rfl (Nat.le_of_ble_eq_true rfl) (by decide) ?_
      have ok9 := okI ok3 2 34 (v := (zandn (H.1 2 34) tr.toNat)) (by omega) (by omega)
      refine x_iload_n (pc := 74) dX11_trait_74 (List.Mem.head _) ?_
      refine z_ireturn (pc := 75) dX11_trait_75 rfl (Or.inl rfl) ok9 (by omega) (by omega) ?_
      have e : S_trait (H.1 2) tr = (H.1 2 34 / 2 ^ tr.toNat % 2, 6) := by unfold S_trait; exact if_pos (by omega)
      rw [e]
      refine ⟨by omega, ?_⟩
      show _ = wI H 2 34 (trnew (H.1 2) tr on)
      unfold trnew
      first | rw [if_pos (by omega)] | rw [if_neg (by omega)]
    · skip
      refine x_aload_n (pc := 46) dX11_trait_46 (List.Mem.tail _ (List.Mem.head _)) ?_
      refine z_getR (pc := 47) (k := 2) (r := 2) dX11_trait_47 lf_X11_17 sh_0 rfl rf_0_2 ?_
      refine z_bipush (pc := 50) dX11_trait_50 bp_34 ?_
      have rd10 := ok3.1 2 34
      refine z_iald (pc := 52) (j := 34) (v := H.1 2 34) dX11_trait_52 sh_2 rfl (Nat.le_of_ble_eq_true rfl) (by decide) rfl ?_
      refine z_iconst (pc := 53) dX11_trait_53 ?_
      refine x_iload_n (pc := 54) dX11_trait_54 (List.Mem.tail _ (List.Mem.tail _ (List.Mem.head _))) ?_
      refine z_ishl1 (pc := 55) (k := tr.toNat) dX11_trait_55 (by omega) (by omega) ?_
      refine z_ior (pc := 56) (m := (H.1 2 34).toNat) (n := 2 ^ tr.toNat) dX11_trait_56 (by omega) rfl ?_
      refine x_goto (pc := 57) (tgt := 73) dX11_trait_57 (by decide) ?_
      refine z_iast (pc := 73) (j := 34) (v := ((((H.1 2 34).toNat) ||| (2 ^ tr.toNat) : Nat) : Int)) dX11_trait_73 sh_2 rfl (Nat.le_of_ble_eq_true rfl) (by decide) ?_
      have ok11 := okI ok3 2 34 (v := ((((H.1 2 34).toNat) ||| (2 ^ tr.toNat) : Nat) : Int)) (by omega) (by omega)
      refine x_iload_n (pc := 74) dX11_trait_74 (List.Mem.head _) ?_
      refine z_ireturn (pc := 75) dX11_trait_75 rfl (Or.inl rfl) ok11 (by omega) (by omega) ?_
      have e : S_trait (H.1 2) tr = (H.1 2 34 / 2 ^ tr.toNat % 2, 6) := by unfold S_trait; exact if_pos (by omega)
      rw [e]
      refine ⟨by omega, ?_⟩
      show _ = wI H 2 34 (trnew (H.1 2) tr on)
      unfold trnew
      first | rw [if_pos (by omega)] | rw [if_neg (by omega)]
  · skip
    refine z_if_ne (pc := 14) (tgt := 24) dX11_trait_14 (by decide) (by decide) (by decide) (fun h => absurd h (by decide)) (fun _ => ?_)
    refine x_aload_n (pc := 17) dX11_trait_17 (List.Mem.head _) ?_
    refine z_bipush (pc := 18) dX11_trait_18 bp_m2 ?_
    refine z_callVip (pc := 20) (i := mX11_no) (S := []) [.int (zN ((-2)))] dX11_trait_20 ml_X11_89 ok_X11_no rfl sh_0 rfl (Or.inl rfl) (Nat.le_of_ble_eq_true rfl) (c_X11_no (d := d) (code := ((-2))) (code1 := (by omega)) (code2 := (by omega)) (ok := ok3) (cn := (by first | assumption | omega))) (fun r13a r13b ok14 => ?_)
    show Ev _ _ _ _ _ _ _ (eh (wI H 1 ((refIx ((-2)))) (H.1 1 (refIx ((-2))) + 1)))
    refine z_ireturn (pc := 23) dX11_trait_23 rfl (Or.inl rfl) ok14 (by omega) (by omega) ?_
    have e : S_trait (H.1 2) tr = (-2, 0) := by unfold S_trait; rw [if_neg (by omega)]
    rw [e]
    exact ⟨rfl, rfl⟩

theorem c_X10_count {d : Nat} {H : ZH} (ok : okZ H) {what : Int} (what1 : -2147483648 ≤ what) (what2 : what ≤ 2147483647) (ws : WFS (H.1 2)) (rs : RepSc H 35 (H.1 2)) (rl : H.1 59 0 = H.1 2 40) (rp0 : H.1 71 0 = H.1 2 477) (rt : H.1 20 1 = H.1 0 6) : EvC zX (d + 1) mX10_count [.ref 20, .int (zN (what))] (eh H) (zPi (fun (rz : Int) (Hz : ZH) => rz = (S_count (H.1 2) (H.1 0 6) what) ∧ Hz = H)) := by
  show _ ∧ Ev zX mX10_count (EvC zX d) (zPi (fun (rz : Int) (Hz : ZH) => rz = (S_count (H.1 2) (H.1 0 6) what) ∧ Hz = H)) 0 [(0, .ref 20), (1, .int (zN (what)))] [] (eh H)
  refine ⟨Nat.le_of_ble_eq_true rfl, ?_⟩
  have wsx := ws
  obtain ⟨ws0, ws1, wsC, ws34, ws35, ws36, ws37, ws38, ws39⟩ := wsx
  have rsx := rs
  obtain ⟨rs0, rs1, rsC, rs34, rs35, rs36, rs37, rs38, rs39⟩ := rsx
  refine x_aload_n (pc := 0) dX10_count_0 (List.Mem.head _) ?_
  refine z_getR (pc := 1) (k := 3) (r := 98) dX10_count_1 lf_X10_23 sh_20 rfl rf_20_3 ?_
  refine z_getR (pc := 4) (k := 0) (r := 35) dX10_count_4 lf_X10_37 sh_98 rfl rf_98_0 ?_
  refine x_astore_n (pc := 7) dX10_count_7 (Nat.le_of_ble_eq_true rfl) ?_
  show Ev _ _ _ _ _ [(2, .ref 35), (0, .ref 20), (1, .int (zN (what)))] _ _
  refine x_iload_n (pc := 8) dX10_count_8 (List.Mem.tail _ (List.Mem.tail _ (List.Mem.head _))) ?_
  rcases Int.decEq (what) (0) with hk1_0 | hk1_0
  rotate_left
  · skip
    refine z_tabIn (pc := 9) (0) (tgt := 68) dX10_count_9 hk1_0 (by omega) (by omega) (by decide) (by decide) rfl (by decide) ?_
    refine x_aload_n (pc := 68) dX10_count_68 (List.Mem.head _) ?_
    have rd2 := ok.1 35 0
    refine z_getI (pc := 69) (k := 0) (v := H.1 35 0) dX10_count_69 lf_X10_452 sh_35 rfl rfl ?_
    refine z_ireturn (pc := 72) dX10_count_72 rfl (Or.inl rfl) ok (by omega) (by omega) ?_
    refine ⟨?_, rfl⟩
    unfold S_count
    (repeat' split) <;> omega
  rcases Int.decEq (what) (1) with hk1_1 | hk1_1
  rotate_left
  · skip
    refine z_tabIn (pc := 9) (1) (tgt := 73) dX10_count_9 hk1_1 (by omega) (by omega) (by decide) (by decide) rfl (by decide) ?_
    refine x_aload_n (pc := 73) dX10_count_73 (List.Mem.head _) ?_
    have rd3 := ok.1 35 1
    refine z_getI (pc := 74) (k := 1) (v := H.1 35 1) dX10_count_74 lf_X10_455 sh_35 rfl rfl ?_
    refine z_ireturn (pc := 77) dX10_count_77 rfl (Or.inl rfl) ok (by omega) (by omega) ?_
    refine ⟨?_, rfl⟩
    unfold S_count
    (repeat' split) <;> omega
  rcases Int.decEq (what) (2) with hk1_2 | hk1_2
  rotate_left
  · skip
    refine z_tabIn (pc := 9) (2) (tgt := 78) dX10_count_9 hk1_2 (by omega) (by omega) (by decide) (by decide) rfl (by decide) ?_
    refine x_aload_n (pc := 78) dX10_count_78 (List.Mem.head _) ?_
    have rd4 := ok.1 35 6
    refine z_getI (pc := 79) (k := 6) (v := H.1 35 6) dX10_count_79 lf_X10_153 sh_35 rfl rfl ?_
    refine z_ireturn (pc := 82) dX10_count_82 rfl (Or.inl rfl) ok (by omega) (by omega) ?_
    refine ⟨?_, rfl⟩
    unfold S_count
    (repeat' split) <;> omega
  rcases Int.decEq (what) (3) with hk1_3 | hk1_3
  rotate_left
  · skip
    refine z_tabIn (pc := 9) (3) (tgt := 83) dX10_count_9 hk1_3 (by omega) (by omega) (by decide) (by decide) rfl (by decide) ?_
    refine x_aload_n (pc := 83) dX10_count_83 (List.Mem.head _) ?_
    have rd5 := ok.1 35 7
    refine z_getI (pc := 84) (k := 7) (v := H.1 35 7) dX10_count_84 lf_X10_256 sh_35 rfl rfl ?_
    refine z_ireturn (pc := 87) dX10_count_87 rfl (Or.inl rfl) ok (by omega) (by omega) ?_
    refine ⟨?_, rfl⟩
    unfold S_count
    (repeat' split) <;> omega
  rcases Int.decEq (what) (4) with hk1_4 | hk1_4
  rotate_left
  · skip
    refine z_tabIn (pc := 9) (4) (tgt := 88) dX10_count_9 hk1_4 (by omega) (by omega) (by decide) (by decide) rfl (by decide) ?_
    refine x_aload_n (pc := 88) dX10_count_88 (List.Mem.head _) ?_
    have rd6 := ok.1 35 8
    refine z_getI (pc := 89) (k := 8) (v := H.1 35 8) dX10_count_89 lf_X10_458 sh_35 rfl rfl ?_
    refine z_ireturn (pc := 92) dX10_count_92 rfl (Or.inl rfl) ok (by omega) (by omega) ?_
    refine ⟨?_, rfl⟩
    unfold S_count
    (repeat' split) <;> omega
  rcases Int.decEq (what) (5) with hk1_5 | hk1_5
  rotate_left
  · skip
    refine z_tabIn (pc := 9) (5) (tgt := 93) dX10_count_9 hk1_5 (by omega) (by omega) (by decide) (by decide) rfl (by decide) ?_
    refine x_aload_n (pc := 93) dX10_count_93 (List.Mem.head _) ?_
    have rd7 := ok.1 35 9
    refine z_getI (pc := 94) (k := 9) (v := H.1 35 9) dX10_count_94 lf_X10_461 sh_35 rfl rfl ?_
    refine z_ireturn (pc := 97) dX10_count_97 rfl (Or.inl rfl) ok (by omega) (by omega) ?_
    refine ⟨?_, rfl⟩
    unfold S_count
    (repeat' split) <;> omega
  rcases Int.decEq (what) (6) with hk1_6 | hk1_6
  rotate_left
  · skip
    refine z_tabIn (pc := 9) (6) (tgt := 98) dX10_count_9 hk1_6 (by omega) (by omega) (by decide) (by decide) rfl (by decide) ?_
    refine x_aload_n (pc := 98) dX10_count_98 (List.Mem.head _) ?_
    have rd8 := ok.1 35 10
    refine z_getI (pc := 99) (k := 10) (v := H.1 35 10) dX10_count_99 lf_X10_464 sh_35 rfl rfl ?_
    refine z_ireturn (pc := 102) dX10_count_102 rfl (Or.inl rfl) ok (by omega) (by omega) ?_
    refine ⟨?_, rfl⟩
    unfold S_count
    (repeat' split) <;> omega
  rcases Int.decEq (what) (7) with hk1_7 | hk1_7
  rotate_left
  · skip
    refine z_tabIn (pc := 9) (7) (tgt := 103) dX10_count_9 hk1_7 (by omega) (by omega) (by decide) (by decide) rfl (by decide) ?_
    refine x_aload_n (pc := 103) dX10_count_103 (List.Mem.tail _ (List.Mem.head _)) ?_
    refine z_getR (pc := 104) (k := 3) (r := 98) dX10_count_104 lf_X10_23 sh_20 rfl rf_20_3 ?_
    refine z_getR (pc := 107) (k := 1) (r := 59) dX10_count_107 lf_X10_41 sh_98 rfl rf_98_1 ?_
    have rd9 := ok.1 59 0
    refine z_getI (pc := 110) (k := 0) (v := H.1 59 0) dX10_count_110 lf_X10_133 sh_59 rfl rfl ?_
    refine z_ireturn (pc := 113) dX10_count_113 rfl (Or.inl rfl) ok (by omega) (by omega) ?_
    refine ⟨?_, rfl⟩
    unfold S_count
    (repeat' split) <;> omega
  rcases Int.decEq (what) (8) with hk1_8 | hk1_8
  rotate_left
  · skip
    refine z_tabIn (pc := 9) (8) (tgt := 114) dX10_count_9 hk1_8 (by omega) (by omega) (by decide) (by decide) rfl (by decide) ?_
    refine x_aload_n (pc := 114) dX10_count_114 (List.Mem.tail _ (List.Mem.head _)) ?_
    refine z_getR (pc := 115) (k := 3) (r := 98) dX10_count_115 lf_X10_23 sh_20 rfl rf_20_3 ?_
    refine z_getR (pc := 118) (k := 2) (r := 71) dX10_count_118 lf_X10_293 sh_98 rfl rf_98_2 ?_
    have rd10 := ok.1 71 0
    refine z_getI (pc := 121) (k := 0) (v := H.1 71 0) dX10_count_121 lf_X10_297 sh_71 rfl rfl ?_
    refine z_ireturn (pc := 124) dX10_count_124 rfl (Or.inl rfl) ok (by omega) (by omega) ?_
    refine ⟨?_, rfl⟩
    unfold S_count
    (repeat' split) <;> omega
  rcases Int.decEq (what) (9) with hk1_9 | hk1_9
  rotate_left
  · skip
    refine z_tabIn (pc := 9) (9) (tgt := 125) dX10_count_9 hk1_9 (by omega) (by omega) (by decide) (by decide) rfl (by decide) ?_
    refine x_aload_n (pc := 125) dX10_count_125 (List.Mem.tail _ (List.Mem.head _)) ?_
    have rd11 := ok.1 20 1
    refine z_getI (pc := 126) (k := 1) (v := H.1 20 1) dX10_count_126 lf_X10_93 sh_20 rfl rfl ?_
    refine z_ireturn (pc := 129) dX10_count_129 rfl (Or.inl rfl) ok (by omega) (by omega) ?_
    refine ⟨?_, rfl⟩
    unfold S_count
    (repeat' split) <;> omega
  rcases Int.decEq (what) (10) with hk1_10 | hk1_10
  rotate_left
  · skip
    refine z_tabIn (pc := 9) (10) (tgt := 130) dX10_count_9 hk1_10 (by omega) (by omega) (by decide) (by decide) rfl (by decide) ?_
    refine x_aload_n (pc := 130) dX10_count_130 (List.Mem.head _) ?_
    have rd12 := ok.1 35 11
    refine z_getI (pc := 131) (k := 11) (v := H.1 35 11) dX10_count_131 lf_X10_124 sh_35 rfl rfl ?_
    refine z_ireturn (pc := 134) dX10_count_134 rfl (Or.inl rfl) ok (by omega) (by omega) ?_
    refine ⟨?_, rfl⟩
    unfold S_count
    (repeat' split) <;> omega
  refine z_tabOut (pc := 9) (tgt := 135) dX10_count_9 (by omega) (by omega) (by omega) (by decide) ?_
  refine z_iconst (pc := 135) dX10_count_135 ?_
  refine z_ireturn (pc := 136) dX10_count_136 rfl (Or.inl rfl) ok (by decide) (by decide) ?_
  refine ⟨?_, rfl⟩
  unfold S_count
  (repeat' split) <;> omega

theorem c_X11_count {d : Nat} {H : ZH} (ok : okZ H) {what : Int} (what1 : -2147483648 ≤ what) (what2 : what ≤ 2147483647) (th : H.1 0 0 = 0) : EvC zX (d + 1) mX11_count [.ref 0, .int (zN (what))] (eh H) (zPi (fun (rz : Int) (Hz : ZH) => rz = (S_count (H.1 2) (H.1 0 6) what) ∧ Hz = H)) := by
  show _ ∧ Ev zX mX11_count (EvC zX d) (zPi (fun (rz : Int) (Hz : ZH) => rz = (S_count (H.1 2) (H.1 0 6) what) ∧ Hz = H)) 0 [(0, .ref 0), (1, .int (zN (what)))] [] (eh H)
  refine ⟨Nat.le_of_ble_eq_true rfl, ?_⟩
  refine x_aload_n (pc := 0) dX11_count_0 (List.Mem.head _) ?_
  refine z_iconst (pc := 1) dX11_count_1 ?_
  refine z_putI (pc := 2) (k := 0) dX11_count_2 lp_X11_1 sh_0 rfl ?_
  have ok1 := okI ok 0 0 (v := 0) (by decide) (by decide)
  rw [wI_same th]
  refine x_iload_n (pc := 5) dX11_count_5 (List.Mem.tail _ (List.Mem.head _)) ?_
  rcases Int.decEq (what) (0) with hk2_0 | hk2_0
  rotate_left
  · skip
    refine z_tabIn (pc := 6) (0) (tgt := 64) dX11_count_6 hk2_0 (by omega) (by omega) (by decide) (by decide) rfl (by decide) ?_
    refine x_aload_n (pc := 64) dX11_count_64 (List.Mem.head _) ?_
    refine z_getR (pc := 65) (k := 2) (r := 2) dX11_count_65 lf_X11_17 sh_0 rfl rf_0_2 ?_
    refine z_iconst (pc := 68) dX11_count_68 ?_
    have rd3 := ok.1 2 0
    refine z_iald (pc := 69) (j := 0) (v := H.1 2 0) dX11_count_69 sh_2 rfl (Nat.le_of_ble_eq_true rfl) (by decide) rfl ?_
    refine z_ireturn (pc := 70) dX11_count_70 rfl (Or.inl rfl) ok (by omega) (by omega) ?_
    refine ⟨?_, rfl⟩
    unfold S_count
    (repeat' split) <;> omega
  rcases Int.decEq (what) (1) with hk2_1 | hk2_1
  rotate_left
  · skip
    refine z_tabIn (pc := 6) (1) (tgt := 71) dX11_count_6 hk2_1 (by omega) (by omega) (by decide) (by decide) rfl (by decide) ?_
    refine x_aload_n (pc := 71) dX11_count_71 (List.Mem.head _) ?_
    refine z_getR (pc := 72) (k := 2) (r := 2) dX11_count_72 lf_X11_17 sh_0 rfl rf_0_2 ?_
    refine z_iconst (pc := 75) dX11_count_75 ?_
    have rd4 := ok.1 2 1
    refine z_iald (pc := 76) (j := 1) (v := H.1 2 1) dX11_count_76 sh_2 rfl (Nat.le_of_ble_eq_true rfl) (by decide) rfl ?_
    refine z_ireturn (pc := 77) dX11_count_77 rfl (Or.inl rfl) ok (by omega) (by omega) ?_
    refine ⟨?_, rfl⟩
    unfold S_count
    (repeat' split) <;> omega
  rcases Int.decEq (what) (2) with hk2_2 | hk2_2
  rotate_left
  · skip
    refine z_tabIn (pc := 6) (2) (tgt := 78) dX11_count_6 hk2_2 (by omega) (by omega) (by decide) (by decide) rfl (by decide) ?_
    refine x_aload_n (pc := 78) dX11_count_78 (List.Mem.head _) ?_
    refine z_getR (pc := 79) (k := 2) (r := 2) dX11_count_79 lf_X11_17 sh_0 rfl rf_0_2 ?_
    refine z_bipush (pc := 82) dX11_count_82 bp_34 ?_
    have rd5 := ok.1 2 34
    refine z_iald (pc := 84) (j := 34) (v := H.1 2 34) dX11_count_84 sh_2 rfl (Nat.le_of_ble_eq_true rfl) (by decide) rfl ?_
    refine z_ireturn (pc := 85) dX11_count_85 rfl (Or.inl rfl) ok (by omega) (by omega) ?_
    refine ⟨?_, rfl⟩
    unfold S_count
    (repeat' split) <;> omega
  rcases Int.decEq (what) (3) with hk2_3 | hk2_3
  rotate_left
  · skip
    refine z_tabIn (pc := 6) (3) (tgt := 86) dX11_count_6 hk2_3 (by omega) (by omega) (by decide) (by decide) rfl (by decide) ?_
    refine x_aload_n (pc := 86) dX11_count_86 (List.Mem.head _) ?_
    refine z_getR (pc := 87) (k := 2) (r := 2) dX11_count_87 lf_X11_17 sh_0 rfl rf_0_2 ?_
    refine z_bipush (pc := 90) dX11_count_90 bp_35 ?_
    have rd6 := ok.1 2 35
    refine z_iald (pc := 92) (j := 35) (v := H.1 2 35) dX11_count_92 sh_2 rfl (Nat.le_of_ble_eq_true rfl) (by decide) rfl ?_
    refine z_ireturn (pc := 93) dX11_count_93 rfl (Or.inl rfl) ok (by omega) (by omega) ?_
    refine ⟨?_, rfl⟩
    unfold S_count
    (repeat' split) <;> omega
  rcases Int.decEq (what) (4) with hk2_4 | hk2_4
  rotate_left
  · skip
    refine z_tabIn (pc := 6) (4) (tgt := 94) dX11_count_6 hk2_4 (by omega) (by omega) (by decide) (by decide) rfl (by decide) ?_
    refine x_aload_n (pc := 94) dX11_count_94 (List.Mem.head _) ?_
    refine z_getR (pc := 95) (k := 2) (r := 2) dX11_count_95 lf_X11_17 sh_0 rfl rf_0_2 ?_
    refine z_bipush (pc := 98) dX11_count_98 bp_36 ?_
    have rd7 := ok.1 2 36
    refine z_iald (pc := 100) (j := 36) (v := H.1 2 36) dX11_count_100 sh_2 rfl (Nat.le_of_ble_eq_true rfl) (by decide) rfl ?_
    refine z_ireturn (pc := 101) dX11_count_101 rfl (Or.inl rfl) ok (by omega) (by omega) ?_
    refine ⟨?_, rfl⟩
    unfold S_count
    (repeat' split) <;> omega
  rcases Int.decEq (what) (5) with hk2_5 | hk2_5
  rotate_left
  · skip
    refine z_tabIn (pc := 6) (5) (tgt := 102) dX11_count_6 hk2_5 (by omega) (by omega) (by decide) (by decide) rfl (by decide) ?_
    refine x_aload_n (pc := 102) dX11_count_102 (List.Mem.head _) ?_
    refine z_getR (pc := 103) (k := 2) (r := 2) dX11_count_103 lf_X11_17 sh_0 rfl rf_0_2 ?_
    refine z_bipush (pc := 106) dX11_count_106 bp_37 ?_
    have rd8 := ok.1 2 37
    refine z_iald (pc := 108) (j := 37) (v := H.1 2 37) dX11_count_108 sh_2 rfl (Nat.le_of_ble_eq_true rfl) (by decide) rfl ?_
    refine z_ireturn (pc := 109) dX11_count_109 rfl (Or.inl rfl) ok (by omega) (by omega) ?_
    refine ⟨?_, rfl⟩
    unfold S_count
    (repeat' split) <;> omega
  rcases Int.decEq (what) (6) with hk2_6 | hk2_6
  rotate_left
  · skip
    refine z_tabIn (pc := 6) (6) (tgt := 110) dX11_count_6 hk2_6 (by omega) (by omega) (by decide) (by decide) rfl (by decide) ?_
    refine x_aload_n (pc := 110) dX11_count_110 (List.Mem.head _) ?_
    refine z_getR (pc := 111) (k := 2) (r := 2) dX11_count_111 lf_X11_17 sh_0 rfl rf_0_2 ?_
    refine z_bipush (pc := 114) dX11_count_114 bp_38 ?_
    have rd9 := ok.1 2 38
    refine z_iald (pc := 116) (j := 38) (v := H.1 2 38) dX11_count_116 sh_2 rfl (Nat.le_of_ble_eq_true rfl) (by decide) rfl ?_
    refine z_ireturn (pc := 117) dX11_count_117 rfl (Or.inl rfl) ok (by omega) (by omega) ?_
    refine ⟨?_, rfl⟩
    unfold S_count
    (repeat' split) <;> omega
  rcases Int.decEq (what) (7) with hk2_7 | hk2_7
  rotate_left
  · skip
    refine z_tabIn (pc := 6) (7) (tgt := 118) dX11_count_6 hk2_7 (by omega) (by omega) (by decide) (by decide) rfl (by decide) ?_
    refine x_aload_n (pc := 118) dX11_count_118 (List.Mem.head _) ?_
    refine z_getR (pc := 119) (k := 2) (r := 2) dX11_count_119 lf_X11_17 sh_0 rfl rf_0_2 ?_
    refine z_bipush (pc := 122) dX11_count_122 bp_40 ?_
    have rd10 := ok.1 2 40
    refine z_iald (pc := 124) (j := 40) (v := H.1 2 40) dX11_count_124 sh_2 rfl (Nat.le_of_ble_eq_true rfl) (by decide) rfl ?_
    refine z_ireturn (pc := 125) dX11_count_125 rfl (Or.inl rfl) ok (by omega) (by omega) ?_
    refine ⟨?_, rfl⟩
    unfold S_count
    (repeat' split) <;> omega
  rcases Int.decEq (what) (8) with hk2_8 | hk2_8
  rotate_left
  · skip
    refine z_tabIn (pc := 6) (8) (tgt := 126) dX11_count_6 hk2_8 (by omega) (by omega) (by decide) (by decide) rfl (by decide) ?_
    refine x_aload_n (pc := 126) dX11_count_126 (List.Mem.head _) ?_
    refine z_getR (pc := 127) (k := 2) (r := 2) dX11_count_127 lf_X11_17 sh_0 rfl rf_0_2 ?_
    refine z_sipush (pc := 130) dX11_count_130 sp_477 ?_
    have rd11 := ok.1 2 477
    refine z_iald (pc := 133) (j := 477) (v := H.1 2 477) dX11_count_133 sh_2 rfl (Nat.le_of_ble_eq_true rfl) (by decide) rfl ?_
    refine z_ireturn (pc := 134) dX11_count_134 rfl (Or.inl rfl) ok (by omega) (by omega) ?_
    refine ⟨?_, rfl⟩
    unfold S_count
    (repeat' split) <;> omega
  rcases Int.decEq (what) (9) with hk2_9 | hk2_9
  rotate_left
  · skip
    refine z_tabIn (pc := 6) (9) (tgt := 135) dX11_count_6 hk2_9 (by omega) (by omega) (by decide) (by decide) rfl (by decide) ?_
    refine x_aload_n (pc := 135) dX11_count_135 (List.Mem.head _) ?_
    have rd12 := ok.1 0 6
    refine z_getI (pc := 136) (k := 6) (v := H.1 0 6) dX11_count_136 lf_X11_86 sh_0 rfl rfl ?_
    refine z_ireturn (pc := 139) dX11_count_139 rfl (Or.inl rfl) ok (by omega) (by omega) ?_
    refine ⟨?_, rfl⟩
    unfold S_count
    (repeat' split) <;> omega
  rcases Int.decEq (what) (10) with hk2_10 | hk2_10
  rotate_left
  · skip
    refine z_tabIn (pc := 6) (10) (tgt := 140) dX11_count_6 hk2_10 (by omega) (by omega) (by decide) (by decide) rfl (by decide) ?_
    refine x_aload_n (pc := 140) dX11_count_140 (List.Mem.head _) ?_
    refine z_getR (pc := 141) (k := 2) (r := 2) dX11_count_141 lf_X11_17 sh_0 rfl rf_0_2 ?_
    refine z_bipush (pc := 144) dX11_count_144 bp_39 ?_
    have rd13 := ok.1 2 39
    refine z_iald (pc := 146) (j := 39) (v := H.1 2 39) dX11_count_146 sh_2 rfl (Nat.le_of_ble_eq_true rfl) (by decide) rfl ?_
    refine z_ireturn (pc := 147) dX11_count_147 rfl (Or.inl rfl) ok (by omega) (by omega) ?_
    refine ⟨?_, rfl⟩
    unfold S_count
    (repeat' split) <;> omega
  refine z_tabOut (pc := 6) (tgt := 148) dX11_count_6 (by omega) (by omega) (by omega) (by decide) ?_
  refine z_iconst (pc := 148) dX11_count_148 ?_
  refine z_ireturn (pc := 149) dX11_count_149 rfl (Or.inl rfl) ok (by decide) (by decide) ?_
  refine ⟨?_, rfl⟩
  unfold S_count
  (repeat' split) <;> omega
