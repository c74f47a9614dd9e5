/-! GROUP A: refused calls, numbers alone. -/
def refIx (c : Int) : Nat := if c = -2 then 0 else if c = -3 then 1 else if c = -5 then 2 else if c = -6 then 3 else if c = -7 then 4 else 5
theorem refIx_lt (c : Int) : refIx c < 6 := by unfold refIx; repeat' split <;> try omega
/-- the counters behind a refusal: class (cell 25), reference (cell 1); 6: none -/
def bumpC (n : Nat) (H : ZH) : ZH := if n < 6 then wI H 25 n (H.1 25 n + 1) else H
def bumpM (n : Nat) (H : ZH) : ZH := if n < 6 then wI H 1 n (H.1 1 n + 1) else H
def cntOK (H : ZH) (c : Nat) : Prop := ∀ k, k < 6 → 0 ≤ H.1 c k ∧ H.1 c k ≤ 1000000
/-- months of a FINE -/
def zmon (s base d : Int) : Int := s + ((base - s) * d).tdiv 100
def zfin (s base d : Int) : Nat → Int
  | 0 => s
  | n + 1 => zmon (zfin s base d n) base d
theorem mul_bd {x y : Int} {A B : Int} (h1 : -A ≤ x) (h2 : x ≤ A) (h3 : 0 ≤ y) (h4 : y ≤ B) : -(A * B) ≤ x * y ∧ x * y ≤ A * B := by
  have hA : 0 ≤ A := by omega
  have e1 : x * y ≤ A * y := Int.mul_le_mul_of_nonneg_right h2 h3
  have e2 : A * y ≤ A * B := Int.mul_le_mul_of_nonneg_left h4 hA
  have e3 : -A * y ≤ x * y := Int.mul_le_mul_of_nonneg_right h1 h3
  have e4 : -A * y = -(A * y) := Int.neg_mul A y
  omega
theorem tdiv_bd {x d A : Int} (hd : 0 < d) (h1 : -(A * d) ≤ x) (h2 : x ≤ A * d) : -A ≤ x.tdiv d ∧ x.tdiv d ≤ A := by
  rcases Int.le_total 0 x with h | h
  · rw [Int.tdiv_eq_ediv_of_nonneg h]
    refine ⟨?_, Int.ediv_le_of_le_mul hd h2⟩
    have h3 : 0 ≤ x / d := Int.ediv_nonneg h (by omega)
    have h4 : 0 ≤ A * d := by omega
    have h5 : 0 ≤ A := by
      rcases Int.lt_or_le A 0 with q | q
      · have := Int.mul_neg_of_neg_of_pos q hd; omega
      · exact q
    omega
  · have e : x.tdiv d = -((-x).tdiv d) := by rw [Int.neg_tdiv, Int.neg_neg]
    rw [e, Int.tdiv_eq_ediv_of_nonneg (by omega)]
    have h6 : (-x) / d ≤ A := Int.ediv_le_of_le_mul hd (by omega)
    have h3 : 0 ≤ (-x) / d := Int.ediv_nonneg (by omega) (by omega)
    omega
theorem zmon_bd {s base d : Int} (h1 : 0 ≤ s) (h2 : s ≤ 1000) (h3 : 0 ≤ base) (h4 : base ≤ 1000) (h5 : 0 ≤ d) (h6 : d ≤ 100) : 0 ≤ zmon s base d ∧ zmon s base d ≤ 1000 := by
  unfold zmon
  rcases Int.le_total s base with h | h
  · have e1 : 0 ≤ (base - s) * d := Int.mul_nonneg (by omega) h5
    have e2 : (base - s) * d ≤ (base - s) * 100 := Int.mul_le_mul_of_nonneg_left h6 (by omega)
    rw [Int.tdiv_eq_ediv_of_nonneg e1]
    omega
  · have e1 : 0 ≤ (s - base) * d := Int.mul_nonneg (by omega) h5
    have e2 : (s - base) * d ≤ (s - base) * 100 := Int.mul_le_mul_of_nonneg_left h6 (by omega)
    have e3 : (base - s) * d = -((s - base) * d) := by rw [← Int.neg_mul, Int.neg_sub]
    rw [e3, Int.neg_tdiv, Int.tdiv_eq_ediv_of_nonneg e1]
    omega
theorem zfin_bd {s base d : Int} (h1 : 0 ≤ s) (h2 : s ≤ 1000) (h3 : 0 ≤ base) (h4 : base ≤ 1000) (h5 : 0 ≤ d) (h6 : d ≤ 100) (n : Nat) : 0 ≤ zfin s base d n ∧ zfin s base d n ≤ 1000 := by
  induction n with
  | zero => exact ⟨h1, h2⟩
  | succ n ih => exact zmon_bd ih.1 ih.2 h3 h4 h5 h6
def fineOK (now base d months : Int) : Prop := (0 ≤ now ∧ now ≤ 1000) ∧ (0 ≤ base ∧ base ≤ 1000) ∧ (0 ≤ d ∧ d ≤ 100) ∧ (0 ≤ months ∧ months ≤ 60)

theorem c_X10_refuse {d : Nat} {H : ZH} (ok : okZ H) {code : Int} (code1 : -2147483648 ≤ code) (code2 : code ≤ 2147483647) (cn : cntOK H 25) : EvC zX (d + 1) mX10_refuse [.ref 20, .int (zN (code))] (eh H) (zPi (fun (rz : Int) (Hz : ZH) => rz = (code) ∧ Hz = wI H 25 (refIx code) (H.1 25 (refIx code) + 1))) := by
  show _ ∧ Ev zX mX10_refuse (EvC zX d) (zPi (fun (rz : Int) (Hz : ZH) => rz = (code) ∧ Hz = wI H 25 (refIx code) (H.1 25 (refIx code) + 1))) 0 [(0, .ref 20), (1, .int (zN (code)))] [] (eh H)
  refine ⟨Nat.le_of_ble_eq_true rfl, ?_⟩
  have q0 := cn 0 (by decide)
  have q1 := cn 1 (by decide)
  have q2 := cn 2 (by decide)
  have q3 := cn 3 (by decide)
  have q4 := cn 4 (by decide)
  have q5 := cn 5 (by decide)
  refine x_iload_n (pc := 0) dX10_refuse_0 (List.Mem.tail _ (List.Mem.head _)) ?_
  rcases Int.decEq (code) (-7) with hk1_0 | hk1_0
  rotate_left
  · skip
    refine z_tabIn (pc := 1) (-7) (tgt := 92) dX10_refuse_1 hk1_0 (by omega) (by omega) (by decide) (by decide) rfl (by decide) ?_
    refine x_aload_n (pc := 92) dX10_refuse_92 (List.Mem.head _) ?_
    refine z_getR (pc := 93) (k := 15) (r := 25) dX10_refuse_93 lf_X10_89 sh_20 rfl rf_20_15 ?_
    refine z_iconst (pc := 96) dX10_refuse_96 ?_
    refine x_dup2 (pc := 97) dX10_refuse_97 rfl rfl ?_
    have rd2 := ok.1 25 4
    refine z_iald (pc := 98) (j := 4) (v := H.1 25 4) dX10_refuse_98 sh_25 rfl (Nat.le_of_ble_eq_true rfl) (by decide) rfl ?_
    refine z_iconst (pc := 99) dX10_refuse_99 ?_
    refine z_iadd (pc := 100) dX10_refuse_100 ?_
    refine z_iast (pc := 101) (j := 4) (v := ((H.1 25 4) + 1)) dX10_refuse_101 sh_25 rfl (Nat.le_of_ble_eq_true rfl) (by decide) ?_
    have ok3 := okI ok 25 4 (v := ((H.1 25 4) + 1)) (by omega) (by omega)
    refine x_goto (pc := 102) (tgt := 115) dX10_refuse_102 (by decide) ?_
    refine x_iload_n (pc := 115) dX10_refuse_115 (List.Mem.tail _ (List.Mem.head _)) ?_
    refine z_ireturn (pc := 116) dX10_refuse_116 rfl (Or.inl rfl) ok3 (by omega) (by omega) ?_
    refine ⟨rfl, ?_⟩
    unfold refIx
    repeat' split
    all_goals first | rfl | omega | (exfalso; omega)
  rcases Int.decEq (code) (-6) with hk1_1 | hk1_1
  rotate_left
  · skip
    refine z_tabIn (pc := 1) (-6) (tgt := 79) dX10_refuse_1 hk1_1 (by omega) (by omega) (by decide) (by decide) rfl (by decide) ?_
    refine x_aload_n (pc := 79) dX10_refuse_79 (List.Mem.head _) ?_
    refine z_getR (pc := 80) (k := 15) (r := 25) dX10_refuse_80 lf_X10_89 sh_20 rfl rf_20_15 ?_
    refine z_iconst (pc := 83) dX10_refuse_83 ?_
    refine x_dup2 (pc := 84) dX10_refuse_84 rfl rfl ?_
    have rd4 := ok.1 25 3
    refine z_iald (pc := 85) (j := 3) (v := H.1 25 3) dX10_refuse_85 sh_25 rfl (Nat.le_of_ble_eq_true rfl) (by decide) rfl ?_
    refine z_iconst (pc := 86) dX10_refuse_86 ?_
    refine z_iadd (pc := 87) dX10_refuse_87 ?_
    refine z_iast (pc := 88) (j := 3) (v := ((H.1 25 3) + 1)) dX10_refuse_88 sh_25 rfl (Nat.le_of_ble_eq_true rfl) (by decide) ?_
    have ok5 := okI ok 25 3 (v := ((H.1 25 3) + 1)) (by omega) (by omega)
    refine x_goto (pc := 89) (tgt := 115) dX10_refuse_89 (by decide) ?_
    refine x_iload_n (pc := 115) dX10_refuse_115 (List.Mem.tail _ (List.Mem.head _)) ?_
    refine z_ireturn (pc := 116) dX10_refuse_116 rfl (Or.inl rfl) ok5 (by omega) (by omega) ?_
    refine ⟨rfl, ?_⟩
    unfold refIx
    repeat' split
    all_goals first | rfl | omega | (exfalso; omega)
  rcases Int.decEq (code) (-5) with hk1_2 | hk1_2
  rotate_left
  · skip
    refine z_tabIn (pc := 1) (-5) (tgt := 66) dX10_refuse_1 hk1_2 (by omega) (by omega) (by decide) (by decide) rfl (by decide) ?_
    refine x_aload_n (pc := 66) dX10_refuse_66 (List.Mem.head _) ?_
    refine z_getR (pc := 67) (k := 15) (r := 25) dX10_refuse_67 lf_X10_89 sh_20 rfl rf_20_15 ?_
    refine z_iconst (pc := 70) dX10_refuse_70 ?_
    refine x_dup2 (pc := 71) dX10_refuse_71 rfl rfl ?_
    have rd6 := ok.1 25 2
    refine z_iald (pc := 72) (j := 2) (v := H.1 25 2) dX10_refuse_72 sh_25 rfl (Nat.le_of_ble_eq_true rfl) (by decide) rfl ?_
    refine z_iconst (pc := 73) dX10_refuse_73 ?_
    refine z_iadd (pc := 74) dX10_refuse_74 ?_
    refine z_iast (pc := 75) (j := 2) (v := ((H.1 25 2) + 1)) dX10_refuse_75 sh_25 rfl (Nat.le_of_ble_eq_true rfl) (by decide) ?_
    have ok7 := okI ok 25 2 (v := ((H.1 25 2) + 1)) (by omega) (by omega)
    refine x_goto (pc := 76) (tgt := 115) dX10_refuse_76 (by decide) ?_
    refine x_iload_n (pc := 115) dX10_refuse_115 (List.Mem.tail _ (List.Mem.head _)) ?_
    refine z_ireturn (pc := 116) dX10_refuse_116 rfl (Or.inl rfl) ok7 (by omega) (by omega) ?_
    refine ⟨rfl, ?_⟩
    unfold refIx
    repeat' split
    all_goals first | rfl | omega | (exfalso; omega)
  rcases Int.decEq (code) (-3) with hk1_4 | hk1_4
  rotate_left
  · skip
    refine z_tabIn (pc := 1) (-3) (tgt := 53) dX10_refuse_1 hk1_4 (by omega) (by omega) (by decide) (by decide) rfl (by decide) ?_
    refine x_aload_n (pc := 53) dX10_refuse_53 (List.Mem.head _) ?_
    refine z_getR (pc := 54) (k := 15) (r := 25) dX10_refuse_54 lf_X10_89 sh_20 rfl rf_20_15 ?_
    refine z_iconst (pc := 57) dX10_refuse_57 ?_
    refine x_dup2 (pc := 58) dX10_refuse_58 rfl rfl ?_
    have rd8 := ok.1 25 1
    refine z_iald (pc := 59) (j := 1) (v := H.1 25 1) dX10_refuse_59 sh_25 rfl (Nat.le_of_ble_eq_true rfl) (by decide) rfl ?_
    refine z_iconst (pc := 60) dX10_refuse_60 ?_
    refine z_iadd (pc := 61) dX10_refuse_61 ?_
    refine z_iast (pc := 62) (j := 1) (v := ((H.1 25 1) + 1)) dX10_refuse_62 sh_25 rfl (Nat.le_of_ble_eq_true rfl) (by decide) ?_
    have ok9 := okI ok 25 1 (v := ((H.1 25 1) + 1)) (by omega) (by omega)
    refine x_goto (pc := 63) (tgt := 115) dX10_refuse_63 (by decide) ?_
    refine x_iload_n (pc := 115) dX10_refuse_115 (List.Mem.tail _ (List.Mem.head _)) ?_
    refine z_ireturn (pc := 116) dX10_refuse_116 rfl (Or.inl rfl) ok9 (by omega) (by omega) ?_
    refine ⟨rfl, ?_⟩
    unfold refIx
    repeat' split
    all_goals first | rfl | omega | (exfalso; omega)
  rcases Int.decEq (code) (-2) with hk1_5 | hk1_5
  rotate_left
  · skip
    refine z_tabIn (pc := 1) (-2) (tgt := 40) dX10_refuse_1 hk1_5 (by omega) (by omega) (by decide) (by decide) rfl (by decide) ?_
    refine x_aload_n (pc := 40) dX10_refuse_40 (List.Mem.head _) ?_
    refine z_getR (pc := 41) (k := 15) (r := 25) dX10_refuse_41 lf_X10_89 sh_20 rfl rf_20_15 ?_
    refine z_iconst (pc := 44) dX10_refuse_44 ?_
    refine x_dup2 (pc := 45) dX10_refuse_45 rfl rfl ?_
    have rd10 := ok.1 25 0
    refine z_iald (pc := 46) (j := 0) (v := H.1 25 0) dX10_refuse_46 sh_25 rfl (Nat.le_of_ble_eq_true rfl) (by decide) rfl ?_
    refine z_iconst (pc := 47) dX10_refuse_47 ?_
    refine z_iadd (pc := 48) dX10_refuse_48 ?_
    refine z_iast (pc := 49) (j := 0) (v := ((H.1 25 0) + 1)) dX10_refuse_49 sh_25 rfl (Nat.le_of_ble_eq_true rfl) (by decide) ?_
    have ok11 := okI ok 25 0 (v := ((H.1 25 0) + 1)) (by omega) (by omega)
    refine x_goto (pc := 50) (tgt := 115) dX10_refuse_50 (by decide) ?_
    refine x_iload_n (pc := 115) dX10_refuse_115 (List.Mem.tail _ (List.Mem.head _)) ?_
    refine z_ireturn (pc := 116) dX10_refuse_116 rfl (Or.inl rfl) ok11 (by omega) (by omega) ?_
    refine ⟨rfl, ?_⟩
    unfold refIx
    repeat' split
    all_goals first | rfl | omega | (exfalso; omega)
  rcases Int.decEq (code) (-4) with hk1_3 | hk1_3
  rotate_left
  · skip
    refine z_tabIn (pc := 1) (-4) (tgt := 105) dX10_refuse_1 hk1_3 (by omega) (by omega) (by decide) (by decide) rfl (by decide) ?_
    refine x_aload_n (pc := 105) dX10_refuse_105 (List.Mem.head _) ?_
    refine z_getR (pc := 106) (k := 15) (r := 25) dX10_refuse_106 lf_X10_89 sh_20 rfl rf_20_15 ?_
    refine z_iconst (pc := 109) dX10_refuse_109 ?_
    refine x_dup2 (pc := 110) dX10_refuse_110 rfl rfl ?_
    have rd12 := ok.1 25 5
    refine z_iald (pc := 111) (j := 5) (v := H.1 25 5) dX10_refuse_111 sh_25 rfl (Nat.le_of_ble_eq_true rfl) (by decide) rfl ?_
    refine z_iconst (pc := 112) dX10_refuse_112 ?_
    refine z_iadd (pc := 113) dX10_refuse_113 ?_
    refine z_iast (pc := 114) (j := 5) (v := ((H.1 25 5) + 1)) dX10_refuse_114 sh_25 rfl (Nat.le_of_ble_eq_true rfl) (by decide) ?_
    have ok13 := okI ok 25 5 (v := ((H.1 25 5) + 1)) (by omega) (by omega)
    refine x_iload_n (pc := 115) dX10_refuse_115 (List.Mem.tail _ (List.Mem.head _)) ?_
    refine z_ireturn (pc := 116) dX10_refuse_116 rfl (Or.inl rfl) ok13 (by omega) (by omega) ?_
    refine ⟨rfl, ?_⟩
    unfold refIx
    repeat' split
    all_goals first | rfl | omega | (exfalso; omega)
  refine z_tabOut (pc := 1) (tgt := 105) dX10_refuse_1 (by omega) (by omega) (by omega) (by decide) ?_
  refine x_aload_n (pc := 105) dX10_refuse_105 (List.Mem.head _) ?_
  refine z_getR (pc := 106) (k := 15) (r := 25) dX10_refuse_106 lf_X10_89 sh_20 rfl rf_20_15 ?_
  refine z_iconst (pc := 109) dX10_refuse_109 ?_
  refine x_dup2 (pc := 110) dX10_refuse_110 rfl rfl ?_
  have rd14 := ok.1 25 5
  refine z_iald (pc := 111) (j := 5) (v := H.1 25 5) dX10_refuse_111 sh_25 rfl (Nat.le_of_ble_eq_true rfl) (by decide) rfl ?_
  refine z_iconst (pc := 112) dX10_refuse_112 ?_
  refine z_iadd (pc := 113) dX10_refuse_113 ?_
  refine z_iast (pc := 114) (j := 5) (v := ((H.1 25 5) + 1)) dX10_refuse_114 sh_25 rfl (Nat.le_of_ble_eq_true rfl) (by decide) ?_
  have ok15 := okI ok 25 5 (v := ((H.1 25 5) + 1)) (by omega) (by omega)
  refine x_iload_n (pc := 115) dX10_refuse_115 (List.Mem.tail _ (List.Mem.head _)) ?_
  refine z_ireturn (pc := 116) dX10_refuse_116 rfl (Or.inl rfl) ok15 (by omega) (by omega) ?_
  refine ⟨rfl, ?_⟩
  unfold refIx
  repeat' split
  all_goals first | rfl | omega | (exfalso; omega)

theorem c_X10_refuseAs {d : Nat} {H : ZH} (ok : okZ H) {a : Int} (a1 : -2147483648 ≤ a) (a2 : a ≤ 2147483647) (cn : cntOK H 25) : EvC zX (d + 1) mX10_refuseAs [.ref 20, .int (zN (a))] (eh H) (zPi (fun (rz : Int) (Hz : ZH) => rz = (a) ∧ Hz = wI H 25 0 (H.1 25 0 + 1))) := by
  show _ ∧ Ev zX mX10_refuseAs (EvC zX d) (zPi (fun (rz : Int) (Hz : ZH) => rz = (a) ∧ Hz = wI H 25 0 (H.1 25 0 + 1))) 0 [(0, .ref 20), (1, .int (zN (a)))] [] (eh H)
  refine ⟨Nat.le_of_ble_eq_true rfl, ?_⟩
  have q0 := cn 0 (by decide)
  refine x_aload_n (pc := 0) dX10_refuseAs_0 (List.Mem.head _) ?_
  refine z_getR (pc := 1) (k := 15) (r := 25) dX10_refuseAs_1 lf_X10_89 sh_20 rfl rf_20_15 ?_
  refine z_iconst (pc := 4) dX10_refuseAs_4 ?_
  refine x_dup2 (pc := 5) dX10_refuseAs_5 rfl rfl ?_
  have rd1 := ok.1 25 0
  refine z_iald (pc := 6) (j := 0) (v := H.1 25 0) dX10_refuseAs_6 sh_25 rfl (Nat.le_of_ble_eq_true rfl) (by decide) rfl ?_
  refine z_iconst (pc := 7) dX10_refuseAs_7 ?_
  refine z_iadd (pc := 8) dX10_refuseAs_8 ?_
  refine z_iast (pc := 9) (j := 0) (v := ((H.1 25 0) + 1)) dX10_refuseAs_9 sh_25 rfl (Nat.le_of_ble_eq_true rfl) (by decide) ?_
  have ok2 := okI ok 25 0 (v := ((H.1 25 0) + 1)) (by omega) (by omega)
  refine x_iload_n (pc := 10) dX10_refuseAs_10 (List.Mem.tail _ (List.Mem.head _)) ?_
  refine z_ireturn (pc := 11) dX10_refuseAs_11 rfl (Or.inl rfl) ok2 (by omega) (by omega) ?_
  exact ⟨by first | rfl | omega | simp_all, rfl⟩

theorem c_X11_no {d : Nat} {H : ZH} (ok : okZ H) {code : Int} (code1 : -2147483648 ≤ code) (code2 : code ≤ 2147483647) (cn : cntOK H 1) : EvC zX (d + 1) mX11_no [.ref 0, .int (zN (code))] (eh H) (zPi (fun (rz : Int) (Hz : ZH) => rz = (code) ∧ Hz = wI H 1 (refIx code) (H.1 1 (refIx code) + 1))) := by
  show _ ∧ Ev zX mX11_no (EvC zX d) (zPi (fun (rz : Int) (Hz : ZH) => rz = (code) ∧ Hz = wI H 1 (refIx code) (H.1 1 (refIx code) + 1))) 0 [(0, .ref 0), (1, .int (zN (code)))] [] (eh H)
  refine ⟨Nat.le_of_ble_eq_true rfl, ?_⟩
  have q0 := cn 0 (by decide)
  have q1 := cn 1 (by decide)
  have q2 := cn 2 (by decide)
  have q3 := cn 3 (by decide)
  have q4 := cn 4 (by decide)
  have q5 := cn 5 (by decide)
  refine x_aload_n (pc := 0) dX11_no_0 (List.Mem.head _) ?_
  refine z_getR (pc := 1) (k := 1) (r := 1) dX11_no_1 lf_X11_7 sh_0 rfl rf_0_1 ?_
  refine x_iload_n (pc := 4) dX11_no_4 (List.Mem.tail _ (List.Mem.head _)) ?_
  refine z_bipush (pc := 5) dX11_no_5 bp_m2 ?_
  refine z_icmp_ne (pc := 7) (tgt := 14) dX11_no_7 (by decide) (by omega) (by omega) (by decide) (by decide) (fun hb1 => ?_) (fun hb1 => ?_)
  · skip
    refine x_iload_n (pc := 14) dX11_no_14 (List.Mem.tail _ (List.Mem.head _)) ?_
    refine z_bipush (pc := 15) dX11_no_15 bp_m3 ?_
    refine z_icmp_ne (pc := 17) (tgt := 24) dX11_no_17 (by decide) (by omega) (by omega) (by decide) (by decide) (fun hb2 => ?_) (fun hb2 => ?_)
    · skip
      refine x_iload_n (pc := 24) dX11_no_24 (List.Mem.tail _ (List.Mem.head _)) ?_
      refine z_bipush (pc := 25) dX11_no_25 bp_m5 ?_
      refine z_icmp_ne (pc := 27) (tgt := 34) dX11_no_27 (by decide) (by omega) (by omega) (by decide) (by decide) (fun hb3 => ?_) (fun hb3 => ?_)
      · skip
        refine x_iload_n (pc := 34) dX11_no_34 (List.Mem.tail _ (List.Mem.head _)) ?_
        refine z_bipush (pc := 35) dX11_no_35 bp_m6 ?_
        refine z_icmp_ne (pc := 37) (tgt := 44) dX11_no_37 (by decide) (by omega) (by omega) (by decide) (by decide) (fun hb4 => ?_) (fun hb4 => ?_)
        · skip
          refine x_iload_n (pc := 44) dX11_no_44 (List.Mem.tail _ (List.Mem.head _)) ?_
          refine z_bipush (pc := 45) dX11_no_45 bp_m7 ?_
          refine z_icmp_ne (pc := 47) (tgt := 54) dX11_no_47 (by decide) (by omega) (by omega) (by decide) (by decide) (fun hb5 => ?_) (fun hb5 => ?_)
          · skip
            refine z_iconst (pc := 54) dX11_no_54 ?_
            refine x_dup2 (pc := 55) dX11_no_55 rfl rfl ?_
            have rd6 := ok.1 1 5
            refine z_iald (pc := 56) (j := 5) (v := H.1 1 5) dX11_no_56 sh_1 rfl (Nat.le_of_ble_eq_true rfl) (by decide) rfl ?_
            refine z_iconst (pc := 57) dX11_no_57 ?_
            refine z_iadd (pc := 58) dX11_no_58 ?_
            refine z_iast (pc := 59) (j := 5) (v := ((H.1 1 5) + 1)) dX11_no_59 sh_1 rfl (Nat.le_of_ble_eq_true rfl) (by decide) ?_
            have ok7 := okI ok 1 5 (v := ((H.1 1 5) + 1)) (by omega) (by omega)
            refine x_iload_n (pc := 60) dX11_no_60 (List.Mem.tail _ (List.Mem.head _)) ?_
            refine z_ireturn (pc := 61) dX11_no_61 rfl (Or.inl rfl) ok7 (by omega) (by omega) ?_
            refine ⟨rfl, ?_⟩
            unfold refIx
            repeat' split
            all_goals first | rfl | omega | (exfalso; omega)
          · skip
            refine z_iconst (pc := 50) dX11_no_50 ?_
            refine x_goto (pc := 51) (tgt := 55) dX11_no_51 (by decide) ?_
            refine x_dup2 (pc := 55) dX11_no_55 rfl rfl ?_
            have rd8 := ok.1 1 4
            refine z_iald (pc := 56) (j := 4) (v := H.1 1 4) dX11_no_56 sh_1 rfl (Nat.le_of_ble_eq_true rfl) (by decide) rfl ?_
            refine z_iconst (pc := 57) dX11_no_57 ?_
            refine z_iadd (pc := 58) dX11_no_58 ?_
            refine z_iast (pc := 59) (j := 4) (v := ((H.1 1 4) + 1)) dX11_no_59 sh_1 rfl (Nat.le_of_ble_eq_true rfl) (by decide) ?_
            have ok9 := okI ok 1 4 (v := ((H.1 1 4) + 1)) (by omega) (by omega)
            refine x_iload_n (pc := 60) dX11_no_60 (List.Mem.tail _ (List.Mem.head _)) ?_
            refine z_ireturn (pc := 61) dX11_no_61 rfl (Or.inl rfl) ok9 (by omega) (by omega) ?_
            refine ⟨rfl, ?_⟩
            unfold refIx
            repeat' split
            all_goals first | rfl | omega | (exfalso; omega)
        · skip
          refine z_iconst (pc := 40) dX11_no_40 ?_
          refine x_goto (pc := 41) (tgt := 55) dX11_no_41 (by decide) ?_
          refine x_dup2 (pc := 55) dX11_no_55 rfl rfl ?_
          have rd10 := ok.1 1 3
          refine z_iald (pc := 56) (j := 3) (v := H.1 1 3) dX11_no_56 sh_1 rfl (Nat.le_of_ble_eq_true rfl) (by decide) rfl ?_
          refine z_iconst (pc := 57) dX11_no_57 ?_
          refine z_iadd (pc := 58) dX11_no_58 ?_
          refine z_iast (pc := 59) (j := 3) (v := ((H.1 1 3) + 1)) dX11_no_59 sh_1 rfl (Nat.le_of_ble_eq_true rfl) (by decide) ?_
          have ok11 := okI ok 1 3 (v := ((H.1 1 3) + 1)) (by omega) (by omega)
          refine x_iload_n (pc := 60) dX11_no_60 (List.Mem.tail _ (List.Mem.head _)) ?_
          refine z_ireturn (pc := 61) dX11_no_61 rfl (Or.inl rfl) ok11 (by omega) (by omega) ?_
          refine ⟨rfl, ?_⟩
          unfold refIx
          repeat' split
          all_goals first | rfl | omega | (exfalso; omega)
      · skip
        refine z_iconst (pc := 30) dX11_no_30 ?_
        refine x_goto (pc := 31) (tgt := 55) dX11_no_31 (by decide) ?_
        refine x_dup2 (pc := 55) dX11_no_55 rfl rfl ?_
        have rd12 := ok.1 1 2
        refine z_iald (pc := 56) (j := 2) (v := H.1 1 2) dX11_no_56 sh_1 rfl (Nat.le_of_ble_eq_true rfl) (by decide) rfl ?_
        refine z_iconst (pc := 57) dX11_no_57 ?_
        refine z_iadd (pc := 58) dX11_no_58 ?_
        refine z_iast (pc := 59) (j := 2) (v := ((H.1 1 2) + 1)) dX11_no_59 sh_1 rfl (Nat.le_of_ble_eq_true rfl) (by decide) ?_
        have ok13 := okI ok 1 2 (v := ((H.1 1 2) + 1)) (by omega) (by omega)
        refine x_iload_n (pc := 60) dX11_no_60 (List.Mem.tail _ (List.Mem.head _)) ?_
        refine z_ireturn (pc := 61) dX11_no_61 rfl (Or.inl rfl) ok13 (by omega) (by omega) ?_
        refine ⟨rfl, ?_⟩
        unfold refIx
        repeat' split
        all_goals first | rfl | omega | (exfalso; omega)
    · skip
      refine z_iconst (pc := 20) dX11_no_20 ?_
      refine x_goto (pc := 21) (tgt := 55) dX11_no_21 (by decide) ?_
      refine x_dup2 (pc := 55) dX11_no_55 rfl rfl ?_
      have rd14 := ok.1 1 1
      refine z_iald (pc := 56) (j := 1) (v := H.1 1 1) dX11_no_56 sh_1 rfl (Nat.le_of_ble_eq_true rfl) (by decide) rfl ?_
      refine z_iconst (pc := 57) dX11_no_57 ?_
      refine z_iadd (pc := 58) dX11_no_58 ?_
      refine z_iast (pc := 59) (j := 1) (v := ((H.1 1 1) + 1)) dX11_no_59 sh_1 rfl (Nat.le_of_ble_eq_true rfl) (by decide) ?_
      have ok15 := okI ok 1 1 (v := ((H.1 1 1) + 1)) (by omega) (by omega)
      refine x_iload_n (pc := 60) dX11_no_60 (List.Mem.tail _ (List.Mem.head _)) ?_
      refine z_ireturn (pc := 61) dX11_no_61 rfl (Or.inl rfl) ok15 (by omega) (by omega) ?_
      refine ⟨rfl, ?_⟩
      unfold refIx
      repeat' split
      all_goals first | rfl | omega | (exfalso; omega)
  · skip
    refine z_iconst (pc := 10) dX11_no_10 ?_
    refine x_goto (pc := 11) (tgt := 55) dX11_no_11 (by decide) ?_
    refine x_dup2 (pc := 55) dX11_no_55 rfl rfl ?_
    have rd16 := ok.1 1 0
    refine z_iald (pc := 56) (j := 0) (v := H.1 1 0) dX11_no_56 sh_1 rfl (Nat.le_of_ble_eq_true rfl) (by decide) rfl ?_
    refine z_iconst (pc := 57) dX11_no_57 ?_
    refine z_iadd (pc := 58) dX11_no_58 ?_
    refine z_iast (pc := 59) (j := 0) (v := ((H.1 1 0) + 1)) dX11_no_59 sh_1 rfl (Nat.le_of_ble_eq_true rfl) (by decide) ?_
    have ok17 := okI ok 1 0 (v := ((H.1 1 0) + 1)) (by omega) (by omega)
    refine x_iload_n (pc := 60) dX11_no_60 (List.Mem.tail _ (List.Mem.head _)) ?_
    refine z_ireturn (pc := 61) dX11_no_61 rfl (Or.inl rfl) ok17 (by omega) (by omega) ?_
    refine ⟨rfl, ?_⟩
    unfold refIx
    repeat' split
    all_goals first | rfl | omega | (exfalso; omega)

theorem c_X11_none {d : Nat} {H : ZH} (ok : okZ H) {a : Int} (a1 : -2147483648 ≤ a) (a2 : a ≤ 2147483647) (cn : cntOK H 1) : EvC zX (d + 1) mX11_none [.ref 0, .int (zN (a))] (eh H) (zPi (fun (rz : Int) (Hz : ZH) => rz = (a) ∧ Hz = wI H 1 0 (H.1 1 0 + 1))) := by
  show _ ∧ Ev zX mX11_none (EvC zX d) (zPi (fun (rz : Int) (Hz : ZH) => rz = (a) ∧ Hz = wI H 1 0 (H.1 1 0 + 1))) 0 [(0, .ref 0), (1, .int (zN (a)))] [] (eh H)
  refine ⟨Nat.le_of_ble_eq_true rfl, ?_⟩
  have q0 := cn 0 (by decide)
  refine x_aload_n (pc := 0) dX11_none_0 (List.Mem.head _) ?_
  refine z_getR (pc := 1) (k := 1) (r := 1) dX11_none_1 lf_X11_7 sh_0 rfl rf_0_1 ?_
  refine z_iconst (pc := 4) dX11_none_4 ?_
  refine x_dup2 (pc := 5) dX11_none_5 rfl rfl ?_
  have rd1 := ok.1 1 0
  refine z_iald (pc := 6) (j := 0) (v := H.1 1 0) dX11_none_6 sh_1 rfl (Nat.le_of_ble_eq_true rfl) (by decide) rfl ?_
  refine z_iconst (pc := 7) dX11_none_7 ?_
  refine z_iadd (pc := 8) dX11_none_8 ?_
  refine z_iast (pc := 9) (j := 0) (v := ((H.1 1 0) + 1)) dX11_none_9 sh_1 rfl (Nat.le_of_ble_eq_true rfl) (by decide) ?_
  have ok2 := okI ok 1 0 (v := ((H.1 1 0) + 1)) (by omega) (by omega)
  refine x_iload_n (pc := 10) dX11_none_10 (List.Mem.tail _ (List.Mem.head _)) ?_
  refine z_ireturn (pc := 11) dX11_none_11 rfl (Or.inl rfl) ok2 (by omega) (by omega) ?_
  exact ⟨by first | rfl | omega | simp_all, rfl⟩

theorem c_X11_within {d : Nat} {H : ZH} (ok : okZ H) {v lo hi : Int} (v1 : -9223372036854775808 ≤ v) (v2 : v ≤ 9223372036854775807) (lo1 : -9223372036854775808 ≤ lo) (lo2 : lo ≤ 9223372036854775807) (hi1 : -9223372036854775808 ≤ hi) (hi2 : hi ≤ 9223372036854775807) : EvC zX (d + 1) mX11_within [.long (zL (v)), .long (zL (lo)), .long (zL (hi))] (eh H) (zPi (fun (rz : Int) (Hz : ZH) => rz = (if lo ≤ v ∧ v ≤ hi then 1 else 0) ∧ Hz = H)) := by
  show _ ∧ Ev zX mX11_within (EvC zX d) (zPi (fun (rz : Int) (Hz : ZH) => rz = (if lo ≤ v ∧ v ≤ hi then 1 else 0) ∧ Hz = H)) 0 [(0, .long (zL (v))), (2, .long (zL (lo))), (4, .long (zL (hi)))] [] (eh H)
  refine ⟨Nat.le_of_ble_eq_true rfl, ?_⟩
  refine x_lload_n (pc := 0) dX11_within_0 (List.Mem.head _) ?_
  refine x_lload_n (pc := 1) dX11_within_1 (List.Mem.tail _ (List.Mem.head _)) ?_
  refine z_lcmp_lt (pc := 2) (tgt := 17) dX11_within_2 dX11_within_3 (by decide) (by omega) (by omega) (by omega) (by omega) (fun hb1 => ?_) (fun hb1 => ?_)
  · skip
    refine z_iconst (pc := 17) dX11_within_17 ?_
    refine z_ireturn (pc := 18) dX11_within_18 rfl (Or.inr ⟨rfl, by omega⟩) ok (by decide) (by decide) ?_
    exact ⟨by first | rfl | omega | simp_all, rfl⟩
  · skip
    refine x_lload_n (pc := 6) dX11_within_6 (List.Mem.head _) ?_
    refine x_lload (pc := 7) dX11_within_7 (List.Mem.tail _ (List.Mem.tail _ (List.Mem.head _))) ?_
    refine z_lcmp_gt (pc := 9) (tgt := 17) dX11_within_9 dX11_within_10 (by decide) (by omega) (by omega) (by omega) (by omega) (fun hb2 => ?_) (fun hb2 => ?_)
    · skip
      refine z_iconst (pc := 17) dX11_within_17 ?_
      refine z_ireturn (pc := 18) dX11_within_18 rfl (Or.inr ⟨rfl, by omega⟩) ok (by decide) (by decide) ?_
      exact ⟨by first | rfl | omega | simp_all, rfl⟩
    · skip
      refine z_iconst (pc := 13) dX11_within_13 ?_
      refine x_goto (pc := 14) (tgt := 18) dX11_within_14 (by decide) ?_
      refine z_ireturn (pc := 18) dX11_within_18 rfl (Or.inr ⟨rfl, by omega⟩) ok (by decide) (by decide) ?_
      exact ⟨by first | rfl | omega | simp_all, rfl⟩

theorem c_X10_isWithin {d : Nat} {H : ZH} (ok : okZ H) {v hi : Int} (v1 : -2147483648 ≤ v) (v2 : v ≤ 2147483647) (hi1 : -2147483648 ≤ hi) (hi2 : hi ≤ 2147483647) : EvC zX (d + 1) mX10_isWithin [.int (zN (v)), .int (zN (hi))] (eh H) (zPi (fun (rz : Int) (Hz : ZH) => rz = (if 0 ≤ v ∧ v ≤ hi then 1 else 0) ∧ Hz = H)) := by
  show _ ∧ Ev zX mX10_isWithin (EvC zX d) (zPi (fun (rz : Int) (Hz : ZH) => rz = (if 0 ≤ v ∧ v ≤ hi then 1 else 0) ∧ Hz = H)) 0 [(0, .int (zN (v))), (1, .int (zN (hi)))] [] (eh H)
  refine ⟨Nat.le_of_ble_eq_true rfl, ?_⟩
  refine x_iload_n (pc := 0) dX10_isWithin_0 (List.Mem.head _) ?_
  refine z_if_lt (pc := 1) (tgt := 13) dX10_isWithin_1 (by decide) (by omega) (by omega) (fun hb1 => ?_) (fun hb1 => ?_)
  · skip
    refine z_iconst (pc := 13) dX10_isWithin_13 ?_
    refine z_ireturn (pc := 14) dX10_isWithin_14 rfl (Or.inr ⟨rfl, by omega⟩) ok (by decide) (by decide) ?_
    exact ⟨by first | rfl | omega | simp_all, rfl⟩
  · skip
    refine x_iload_n (pc := 4) dX10_isWithin_4 (List.Mem.head _) ?_
    refine x_iload_n (pc := 5) dX10_isWithin_5 (List.Mem.tail _ (List.Mem.head _)) ?_
    refine z_icmp_gt (pc := 6) (tgt := 13) dX10_isWithin_6 (by decide) (by omega) (by omega) (by omega) (by omega) (fun hb2 => ?_) (fun hb2 => ?_)
    · skip
      refine z_iconst (pc := 13) dX10_isWithin_13 ?_
      refine z_ireturn (pc := 14) dX10_isWithin_14 rfl (Or.inr ⟨rfl, by omega⟩) ok (by decide) (by decide) ?_
      exact ⟨by first | rfl | omega | simp_all, rfl⟩
    · skip
      refine z_iconst (pc := 9) dX10_isWithin_9 ?_
      refine x_goto (pc := 10) (tgt := 14) dX10_isWithin_10 (by decide) ?_
      refine z_ireturn (pc := 14) dX10_isWithin_14 rfl (Or.inr ⟨rfl, by omega⟩) ok (by decide) (by decide) ?_
      exact ⟨by first | rfl | omega | simp_all, rfl⟩

theorem c_X10_isFine {d : Nat} {H : ZH} (ok : okZ H) {w base dd : Int} (w1 : -2147483648 ≤ w) (w2 : w ≤ 2147483647) (base1 : -2147483648 ≤ base) (base2 : base ≤ 2147483647) (dd1 : -2147483648 ≤ dd) (dd2 : dd ≤ 2147483647) : EvC zX (d + 2) mX10_isFine [.int (zN (w)), .int (zN (base)), .int (zN (dd))] (eh H) (zPi (fun (rz : Int) (Hz : ZH) => rz = (if (0 ≤ w ∧ w ≤ 1000) ∧ (0 ≤ base ∧ base ≤ 1000) ∧ (0 ≤ dd ∧ dd ≤ 100) then 1 else 0) ∧ Hz = H)) := by
  show _ ∧ Ev zX mX10_isFine (EvC zX (d + 1)) (zPi (fun (rz : Int) (Hz : ZH) => rz = (if (0 ≤ w ∧ w ≤ 1000) ∧ (0 ≤ base ∧ base ≤ 1000) ∧ (0 ≤ dd ∧ dd ≤ 100) then 1 else 0) ∧ Hz = H)) 0 [(0, .int (zN (w))), (1, .int (zN (base))), (2, .int (zN (dd)))] [] (eh H)
  refine ⟨Nat.le_of_ble_eq_true rfl, ?_⟩
  refine x_iload_n (pc := 0) dX10_isFine_0 (List.Mem.head _) ?_
  refine z_sipush (pc := 1) dX10_isFine_1 sp_1000 ?_
  refine z_callSbp (pc := 4) (i := mX10_isWithin) (S := []) [.int (zN (w)), .int (zN (1000))] dX10_isFine_4 ml_X10_302 ok_X10_isWithin rfl (Or.inr rfl) (Nat.le_of_ble_eq_true rfl) (c_X10_isWithin (d := d) (v := w) (hi := 1000) (v1 := (by omega)) (v2 := (by omega)) (hi1 := (by omega)) (hi2 := (by omega)) (ok := ok)) (fun hc3 ok2 => ?_) (fun hc3 ok2 => ?_)
  · skip
    refine z_if_eq (pc := 7) (tgt := 33) dX10_isFine_7 (by decide) (by decide) (by decide) (fun h => absurd h (by decide)) (fun _ => ?_)
    refine x_iload_n (pc := 10) dX10_isFine_10 (List.Mem.tail _ (List.Mem.head _)) ?_
    refine z_sipush (pc := 11) dX10_isFine_11 sp_1000 ?_
    refine z_callSbp (pc := 14) (i := mX10_isWithin) (S := []) [.int (zN (base)), .int (zN (1000))] dX10_isFine_14 ml_X10_302 ok_X10_isWithin rfl (Or.inr rfl) (Nat.le_of_ble_eq_true rfl) (c_X10_isWithin (d := d) (v := base) (hi := 1000) (v1 := (by omega)) (v2 := (by omega)) (hi1 := (by omega)) (hi2 := (by omega)) (ok := ok2)) (fun hc7 ok6 => ?_) (fun hc7 ok6 => ?_)
    · skip
      refine z_if_eq (pc := 17) (tgt := 33) dX10_isFine_17 (by decide) (by decide) (by decide) (fun h => absurd h (by decide)) (fun _ => ?_)
      refine x_iload_n (pc := 20) dX10_isFine_20 (List.Mem.tail _ (List.Mem.tail _ (List.Mem.head _))) ?_
      refine z_bipush (pc := 21) dX10_isFine_21 bp_100 ?_
      refine z_callSbp (pc := 23) (i := mX10_isWithin) (S := []) [.int (zN (dd)), .int (zN (100))] dX10_isFine_23 ml_X10_302 ok_X10_isWithin rfl (Or.inr rfl) (Nat.le_of_ble_eq_true rfl) (c_X10_isWithin (d := d) (v := dd) (hi := 100) (v1 := (by omega)) (v2 := (by omega)) (hi1 := (by omega)) (hi2 := (by omega)) (ok := ok6)) (fun hc11 ok10 => ?_) (fun hc11 ok10 => ?_)
      · skip
        refine z_if_eq (pc := 26) (tgt := 33) dX10_isFine_26 (by decide) (by decide) (by decide) (fun h => absurd h (by decide)) (fun _ => ?_)
        refine z_iconst (pc := 29) dX10_isFine_29 ?_
        refine x_goto (pc := 30) (tgt := 34) dX10_isFine_30 (by decide) ?_
        refine z_ireturn (pc := 34) dX10_isFine_34 rfl (Or.inr ⟨rfl, by omega⟩) ok10 (by decide) (by decide) ?_
        exact ⟨by first | rfl | omega | simp_all, rfl⟩
      · skip
        refine z_if_eq (pc := 26) (tgt := 33) dX10_isFine_26 (by decide) (by decide) (by decide) (fun _ => ?_) (fun h => absurd h (by decide))
        refine z_iconst (pc := 33) dX10_isFine_33 ?_
        refine z_ireturn (pc := 34) dX10_isFine_34 rfl (Or.inr ⟨rfl, by omega⟩) ok10 (by decide) (by decide) ?_
        exact ⟨by first | rfl | omega | simp_all, rfl⟩
    · skip
      refine z_if_eq (pc := 17) (tgt := 33) dX10_isFine_17 (by decide) (by decide) (by decide) (fun _ => ?_) (fun h => absurd h (by decide))
      refine z_iconst (pc := 33) dX10_isFine_33 ?_
      refine z_ireturn (pc := 34) dX10_isFine_34 rfl (Or.inr ⟨rfl, by omega⟩) ok6 (by decide) (by decide) ?_
      exact ⟨by first | rfl | omega | simp_all, rfl⟩
  · skip
    refine z_if_eq (pc := 7) (tgt := 33) dX10_isFine_7 (by decide) (by decide) (by decide) (fun _ => ?_) (fun h => absurd h (by decide))
    refine z_iconst (pc := 33) dX10_isFine_33 ?_
    refine z_ireturn (pc := 34) dX10_isFine_34 rfl (Or.inr ⟨rfl, by omega⟩) ok2 (by decide) (by decide) ?_
    exact ⟨by first | rfl | omega | simp_all, rfl⟩

theorem c_X10_monthOn {d : Nat} {H : ZH} (ok : okZ H) {s base dd : Int} (s1 : 0 ≤ s) (s2 : s ≤ 1000) (b1 : 0 ≤ base) (b2 : base ≤ 1000) (d1 : 0 ≤ dd) (d2 : dd ≤ 100) : EvC zX (d + 1) mX10_monthOn [.int (zN (s)), .int (zN (base)), .int (zN (dd))] (eh H) (zPi (fun (rz : Int) (Hz : ZH) => rz = (zmon s base dd) ∧ Hz = H)) := by
  show _ ∧ Ev zX mX10_monthOn (EvC zX d) (zPi (fun (rz : Int) (Hz : ZH) => rz = (zmon s base dd) ∧ Hz = H)) 0 [(0, .int (zN (s))), (1, .int (zN (base))), (2, .int (zN (dd)))] [] (eh H)
  refine ⟨Nat.le_of_ble_eq_true rfl, ?_⟩
  have e1 := mul_bd (x := base - s) (y := dd) (A := 1000) (B := 100) (by omega) (by omega) d1 d2
  have e2 := tdiv_bd (x := (base - s) * dd) (d := 100) (A := 1000) (by decide) (by omega) (by omega)
  have e3 := zmon_bd s1 s2 b1 b2 d1 d2
  unfold zmon at e3
  refine x_iload_n (pc := 0) dX10_monthOn_0 (List.Mem.head _) ?_
  refine x_iload_n (pc := 1) dX10_monthOn_1 (List.Mem.tail _ (List.Mem.head _)) ?_
  refine x_iload_n (pc := 2) dX10_monthOn_2 (List.Mem.head _) ?_
  refine z_isub (pc := 3) dX10_monthOn_3 ?_
  refine x_iload_n (pc := 4) dX10_monthOn_4 (List.Mem.tail _ (List.Mem.tail _ (List.Mem.head _))) ?_
  refine z_imul (pc := 5) dX10_monthOn_5 ?_
  refine z_bipush (pc := 6) dX10_monthOn_6 bp_100 ?_
  refine z_idiv (pc := 8) dX10_monthOn_8 (by omega) (by omega) (by omega) (by omega) (by omega) ?_
  refine z_iadd (pc := 9) dX10_monthOn_9 ?_
  refine z_ireturn (pc := 10) dX10_monthOn_10 rfl (Or.inl rfl) ok (by omega) (by omega) ?_
  exact ⟨rfl, rfl⟩


theorem wI_same {H : ZH} {c k : Nat} {v : Int} (h : H.1 c k = v) : wI H c k v = H := by
  unfold wI
  refine Prod.ext ?_ rfl
  funext c' k'
  show (if c' = c ∧ k' = k then v else H.1 c' k') = H.1 c' k'
  split
  · next q => rw [q.1, q.2, h]
  · rfl
def S_fine (w base dd mo : Int) : Int × Nat := if ((0 ≤ w ∧ w ≤ 1000) ∧ (0 ≤ base ∧ base ≤ 1000) ∧ (0 ≤ dd ∧ dd ≤ 100)) ∧ (0 ≤ mo ∧ mo ≤ 60) then (zfin w base dd mo.toNat, 6) else (-3, 1)
/-- the first month of n that is near, from k on -/
def zunt (w base dd near : Int) : Nat → Nat → Int
  | 0, _ => -1
  | n + 1, k => if -near ≤ zfin w base dd k - base ∧ zfin w base dd k - base ≤ near then (k : Int) else zunt w base dd near n (k + 1)
def S_until (w base dd near : Int) : Int × Nat := if ((0 ≤ w ∧ w ≤ 1000) ∧ (0 ≤ base ∧ base ≤ 1000) ∧ (0 ≤ dd ∧ dd ≤ 100)) ∧ (0 ≤ near ∧ near ≤ 1000) then (zunt w base dd near 1000 0, 6) else (-3, 1)

theorem c_X10_fine {d : Nat} {H : ZH} (ok : okZ H) {w base dd mo : Int} (w1 : -2147483648 ≤ w) (w2 : w ≤ 2147483647) (base1 : -2147483648 ≤ base) (base2 : base ≤ 2147483647) (dd1 : -2147483648 ≤ dd) (dd2 : dd ≤ 2147483647) (mo1 : -2147483648 ≤ mo) (mo2 : mo ≤ 2147483647) (cn : cntOK H 25) : EvC zX (d + 3) mX10_fine [.ref 20, .int (zN (w)), .int (zN (base)), .int (zN (dd)), .int (zN (mo))] (eh H) (zPi (fun (r : Int) (H1 : ZH) => r = (S_fine w base dd mo).1 ∧ H1 = bumpC (S_fine w base dd mo).2 H)) := by
  show _ ∧ Ev zX mX10_fine (EvC zX (d + 2)) (zPi (fun (r : Int) (H1 : ZH) => r = (S_fine w base dd mo).1 ∧ H1 = bumpC (S_fine w base dd mo).2 H)) 0 [(0, .ref 20), (1, .int (zN (w))), (2, .int (zN (base))), (3, .int (zN (dd))), (4, .int (zN (mo)))] [] (eh H)
  refine ⟨Nat.le_of_ble_eq_true rfl, ?_⟩
  refine x_iload_n (pc := 0) dX10_fine_0 (List.Mem.tail _ (List.Mem.head _)) ?_
  refine x_iload_n (pc := 1) dX10_fine_1 (List.Mem.tail _ (List.Mem.tail _ (List.Mem.head _))) ?_
  refine x_iload_n (pc := 2) dX10_fine_2 (List.Mem.tail _ (List.Mem.tail _ (List.Mem.tail _ (List.Mem.head _)))) ?_
  refine z_callSbp (pc := 3) (i := mX10_isFine) (S := []) [.int (zN (w)), .int (zN (base)), .int (zN (dd))] dX10_fine_3 ml_X10_374 ok_X10_isFine rfl (Or.inr rfl) (Nat.le_of_ble_eq_true rfl) (c_X10_isFine (d := d) (w := w) (base := base) (dd := dd) (w1 := (by omega)) (w2 := (by omega)) (base1 := (by omega)) (base2 := (by omega)) (dd1 := (by omega)) (dd2 := (by omega)) (ok := ok)) (fun hc3 ok2 => ?_) (fun hc3 ok2 => ?_)
  · skip
    refine z_if_eq (pc := 6) (tgt := 19) dX10_fine_6 (by decide) (by decide) (by decide) (fun h => absurd h (by decide)) (fun _ => ?_)
    refine x_iload (pc := 9) dX10_fine_9 (List.Mem.tail _ (List.Mem.tail _ (List.Mem.tail _ (List.Mem.tail _ (List.Mem.head _))))) ?_
    refine z_bipush (pc := 11) dX10_fine_11 bp_60 ?_
    refine z_callSbp (pc := 13) (i := mX10_isWithin) (S := []) [.int (zN (mo)), .int (zN (60))] dX10_fine_13 ml_X10_302 ok_X10_isWithin rfl (Or.inr rfl) (Nat.le_of_ble_eq_true rfl) (c_X10_isWithin (d := d + 1) (v := mo) (hi := 60) (v1 := (by omega)) (v2 := (by omega)) (hi1 := (by omega)) (hi2 := (by omega)) (ok := ok2)) (fun hc7 ok6 => ?_) (fun hc7 ok6 => ?_)
    · skip
      refine z_if_ne (pc := 16) (tgt := 26) dX10_fine_16 (by decide) (by decide) (by decide) (fun _ => ?_) (fun h => absurd h (by decide))
      refine x_iload_n (pc := 26) dX10_fine_26 (List.Mem.tail _ (List.Mem.head _)) ?_
      refine x_istore (pc := 27) dX10_fine_27 (Nat.le_of_ble_eq_true rfl) ?_
      show Ev _ _ _ _ _ [(5, .int (zN (w))), (0, .ref 20), (1, .int (zN (w))), (2, .int (zN (base))), (3, .int (zN (dd))), (4, .int (zN (mo)))] _ _
      refine z_iconst (pc := 29) dX10_fine_29 ?_
      refine x_istore (pc := 30) dX10_fine_30 (Nat.le_of_ble_eq_true rfl) ?_
      show Ev _ _ _ _ _ [(6, .int (zN (0))), (5, .int (zN (w))), (0, .ref 20), (1, .int (zN (w))), (2, .int (zN (base))), (3, .int (zN (dd))), (4, .int (zN (mo)))] _ _
      have lp32 : ∀ (nF : Nat) (k : Nat), ((k : Int) ≤ mo) → mo.toNat - k < nF → Ev zX mX10_fine (EvC zX (d + 2)) (zPi (fun (r : Int) (H1 : ZH) => r = (S_fine w base dd mo).1 ∧ H1 = bumpC (S_fine w base dd mo).2 H)) 32 [(0, .ref 20), (1, .int (zN (w))), (2, .int (zN (base))), (3, .int (zN (dd))), (4, .int (zN (mo))), (5, .int (zN (zfin w base dd k))), (6, .int (zN ((k : Int))))] [] (eh H) := by
        intro nF
        induction nF with
        | zero => intro k hk hm; exact absurd hm (Nat.not_lt_zero _)
        | succ nF ih32 =>
          intro k hk hm
          have zb := zfin_bd (s := w) (base := base) (d := dd) (by omega) (by omega) (by omega) (by omega) (by omega) (by omega) k
          refine x_iload (pc := 32) dX10_fine_32 (List.Mem.tail _ (List.Mem.tail _ (List.Mem.tail _ (List.Mem.tail _ (List.Mem.tail _ (List.Mem.tail _ (List.Mem.head _))))))) ?_
          refine x_iload (pc := 34) dX10_fine_34 (List.Mem.tail _ (List.Mem.tail _ (List.Mem.tail _ (List.Mem.tail _ (List.Mem.head _))))) ?_
          refine z_icmp_ge (pc := 36) (tgt := 54) dX10_fine_36 (by decide) (by omega) (by omega) (by omega) (by omega) (fun hb9 => ?_) (fun hb9 => ?_)
          · skip
            refine x_iload (pc := 54) dX10_fine_54 (List.Mem.tail _ (List.Mem.tail _ (List.Mem.tail _ (List.Mem.tail _ (List.Mem.tail _ (List.Mem.head _)))))) ?_
            refine z_ireturn (pc := 56) dX10_fine_56 rfl (Or.inl rfl) ok6 (by omega) (by omega) ?_
            have ek : k = mo.toNat := by omega
            have e : S_fine w base dd mo = (zfin w base dd mo.toNat, 6) := by unfold S_fine; exact if_pos (by omega)
            rw [e]
            exact ⟨by rw [ek], rfl⟩
          · skip
            refine x_iload (pc := 39) dX10_fine_39 (List.Mem.tail _ (List.Mem.tail _ (List.Mem.tail _ (List.Mem.tail _ (List.Mem.tail _ (List.Mem.head _)))))) ?_
            refine x_iload_n (pc := 41) dX10_fine_41 (List.Mem.tail _ (List.Mem.tail _ (List.Mem.head _))) ?_
            refine x_iload_n (pc := 42) dX10_fine_42 (List.Mem.tail _ (List.Mem.tail _ (List.Mem.tail _ (List.Mem.head _)))) ?_
            refine z_callSip (pc := 43) (i := mX10_monthOn) (S := []) [.int (zN (zfin w base dd k)), .int (zN (base)), .int (zN (dd))] dX10_fine_43 ml_X10_378 ok_X10_monthOn rfl (Or.inl rfl) (Nat.le_of_ble_eq_true rfl) (c_X10_monthOn (d := d + 1) (s := (zfin w base dd k)) (base := base) (dd := dd) (s1 := (by omega)) (s2 := (by omega)) (b1 := (by omega)) (b2 := (by omega)) (d1 := (by omega)) (d2 := (by omega)) (ok := ok6)) (fun r10a r10b ok11 => ?_)
            refine x_istore (pc := 46) dX10_fine_46 (Nat.le_of_ble_eq_true rfl) ?_
            show Ev _ _ _ _ _ [(5, .int (zN ((zmon (zfin w base dd k) base dd)))), (0, .ref 20), (1, .int (zN (w))), (2, .int (zN (base))), (3, .int (zN (dd))), (4, .int (zN (mo))), (6, .int (zN ((k : Int))))] _ _
            refine z_iinc (pc := 48) dX10_fine_48 (List.Mem.tail _ (List.Mem.tail _ (List.Mem.tail _ (List.Mem.tail _ (List.Mem.tail _ (List.Mem.tail _ (List.Mem.head _))))))) (Nat.le_of_ble_eq_true rfl) ?_
            show Ev _ _ _ _ _ [(6, .int (zN ((k : Int) + 1))), (5, .int (zN ((zmon (zfin w base dd k) base dd)))), (0, .ref 20), (1, .int (zN (w))), (2, .int (zN (base))), (3, .int (zN (dd))), (4, .int (zN (mo)))] _ _
            refine x_goto (pc := 51) (tgt := 32) dX10_fine_51 (by decide) ?_
            refine x_weaken (L1 := [(0, .ref 20), (1, .int (zN (w))), (2, .int (zN (base))), (3, .int (zN (dd))), (4, .int (zN (mo))), (5, .int (zN (zfin w base dd (k + 1)))), (6, .int (zN ((((k + 1) : Nat) : Int))))]) (List.forall_mem_cons.mpr ⟨(List.Mem.tail _ (List.Mem.tail _ (List.Mem.head _))), (List.forall_mem_cons.mpr ⟨(List.Mem.tail _ (List.Mem.tail _ (List.Mem.tail _ (List.Mem.head _)))), (List.forall_mem_cons.mpr ⟨(List.Mem.tail _ (List.Mem.tail _ (List.Mem.tail _ (List.Mem.tail _ (List.Mem.head _))))), (List.forall_mem_cons.mpr ⟨(List.Mem.tail _ (List.Mem.tail _ (List.Mem.tail _ (List.Mem.tail _ (List.Mem.tail _ (List.Mem.head _)))))), (List.forall_mem_cons.mpr ⟨(List.Mem.tail _ (List.Mem.tail _ (List.Mem.tail _ (List.Mem.tail _ (List.Mem.tail _ (List.Mem.tail _ (List.Mem.head _))))))), (List.forall_mem_cons.mpr ⟨(mem_ci (rfl) (List.Mem.tail _ (List.Mem.head _))), (List.forall_mem_cons.mpr ⟨(mem_ci (by omega) (List.Mem.head _)), (fun _ h => absurd h List.not_mem_nil)⟩)⟩)⟩)⟩)⟩)⟩)⟩) ?_
            exact ih32 ((k + 1)) (by first | assumption | omega) (by omega)
      refine x_weaken (L1 := [(0, .ref 20), (1, .int (zN (w))), (2, .int (zN (base))), (3, .int (zN (dd))), (4, .int (zN (mo))), (5, .int (zN (zfin w base dd 0))), (6, .int (zN (((0 : Nat) : Int))))]) (List.forall_mem_cons.mpr ⟨(List.Mem.tail _ (List.Mem.tail _ (List.Mem.head _))), (List.forall_mem_cons.mpr ⟨(List.Mem.tail _ (List.Mem.tail _ (List.Mem.tail _ (List.Mem.head _)))), (List.forall_mem_cons.mpr ⟨(List.Mem.tail _ (List.Mem.tail _ (List.Mem.tail _ (List.Mem.tail _ (List.Mem.head _))))), (List.forall_mem_cons.mpr ⟨(List.Mem.tail _ (List.Mem.tail _ (List.Mem.tail _ (List.Mem.tail _ (List.Mem.tail _ (List.Mem.head _)))))), (List.forall_mem_cons.mpr ⟨(List.Mem.tail _ (List.Mem.tail _ (List.Mem.tail _ (List.Mem.tail _ (List.Mem.tail _ (List.Mem.tail _ (List.Mem.head _))))))), (List.forall_mem_cons.mpr ⟨(mem_ci (rfl) (List.Mem.tail _ (List.Mem.head _))), (List.forall_mem_cons.mpr ⟨(mem_ci (by omega) (List.Mem.head _)), (fun _ h => absurd h List.not_mem_nil)⟩)⟩)⟩)⟩)⟩)⟩)⟩) ?_
      exact lp32 (mo.toNat - 0 + 1) (0) (by first | assumption | omega) (Nat.lt_succ_self _)
    · skip
      refine z_if_ne (pc := 16) (tgt := 26) dX10_fine_16 (by decide) (by decide) (by decide) (fun h => absurd h (by decide)) (fun _ => ?_)
      refine x_aload_n (pc := 19) dX10_fine_19 (List.Mem.head _) ?_
      refine z_bipush (pc := 20) dX10_fine_20 bp_m3 ?_
      refine z_callVip (pc := 22) (i := mX10_refuse) (S := []) [.int (zN ((-3)))] dX10_fine_22 ml_X10_97 ok_X10_refuse rfl sh_20 rfl (Or.inl rfl) (Nat.le_of_ble_eq_true rfl) (c_X10_refuse (d := d + 1) (code := ((-3))) (code1 := (by omega)) (code2 := (by omega)) (ok := ok6) (cn := (by first | assumption | omega))) (fun r13a r13b ok14 => ?_)
      show Ev _ _ _ _ _ _ _ (eh (wI H 25 ((refIx ((-3)))) (H.1 25 (refIx ((-3))) + 1)))
      refine z_ireturn (pc := 25) dX10_fine_25 rfl (Or.inl rfl) ok14 (by omega) (by omega) ?_
      have e : S_fine w base dd mo = (-3, 1) := by unfold S_fine; exact if_neg (by omega)
      rw [e]
      exact ⟨rfl, rfl⟩
  · skip
    refine z_if_eq (pc := 6) (tgt := 19) dX10_fine_6 (by decide) (by decide) (by decide) (fun _ => ?_) (fun h => absurd h (by decide))
    refine x_aload_n (pc := 19) dX10_fine_19 (List.Mem.head _) ?_
    refine z_bipush (pc := 20) dX10_fine_20 bp_m3 ?_
    refine z_callVip (pc := 22) (i := mX10_refuse) (S := []) [.int (zN ((-3)))] dX10_fine_22 ml_X10_97 ok_X10_refuse rfl sh_20 rfl (Or.inl rfl) (Nat.le_of_ble_eq_true rfl) (c_X10_refuse (d := d + 1) (code := ((-3))) (code1 := (by omega)) (code2 := (by omega)) (ok := ok2) (cn := (by first | assumption | omega))) (fun r16a r16b ok17 => ?_)
    show Ev _ _ _ _ _ _ _ (eh (wI H 25 ((refIx ((-3)))) (H.1 25 (refIx ((-3))) + 1)))
    refine z_ireturn (pc := 25) dX10_fine_25 rfl (Or.inl rfl) ok17 (by omega) (by omega) ?_
    have e : S_fine w base dd mo = (-3, 1) := by unfold S_fine; exact if_neg (by omega)
    rw [e]
    exact ⟨rfl, rfl⟩

theorem c_X11_fine {d : Nat} {H : ZH} (ok : okZ H) {w base dd mo : Int} (w1 : -2147483648 ≤ w) (w2 : w ≤ 2147483647) (base1 : -2147483648 ≤ base) (base2 : base ≤ 2147483647) (dd1 : -2147483648 ≤ dd) (dd2 : dd ≤ 2147483647) (mo1 : -2147483648 ≤ mo) (mo2 : mo ≤ 2147483647) (cm : cntOK H 1) (th : H.1 0 0 = 0) : EvC zX (d + 2) mX11_fine [.ref 0, .int (zN (w)), .int (zN (base)), .int (zN (dd)), .int (zN (mo))] (eh H) (zPi (fun (r : Int) (H1 : ZH) => r = (S_fine w base dd mo).1 ∧ H1 = bumpM (S_fine w base dd mo).2 H)) := by
  show _ ∧ Ev zX mX11_fine (EvC zX (d + 1)) (zPi (fun (r : Int) (H1 : ZH) => r = (S_fine w base dd mo).1 ∧ H1 = bumpM (S_fine w base dd mo).2 H)) 0 [(0, .ref 0), (1, .int (zN (w))), (2, .int (zN (base))), (3, .int (zN (dd))), (4, .int (zN (mo)))] [] (eh H)
  refine ⟨Nat.le_of_ble_eq_true rfl, ?_⟩
  refine x_aload_n (pc := 0) dX11_fine_0 (List.Mem.head _) ?_
  refine z_iconst (pc := 1) dX11_fine_1 ?_
  refine z_putI (pc := 2) (k := 0) dX11_fine_2 lp_X11_1 sh_0 rfl ?_
  have ok1 := okI ok 0 0 (v := 0) (by decide) (by decide)
  rw [wI_same th]
  refine x_iload_n (pc := 5) dX11_fine_5 (List.Mem.tail _ (List.Mem.head _)) ?_
  refine z_i2l (pc := 6) dX11_fine_6 (by omega) (by omega) ?_
  refine z_lconst (pc := 7) 0 dX11_fine_7 rfl ?_
  refine z_ldc2_w (pc := 8) 1000 dX11_fine_8 cl_X11_306 (by decide) ?_
  refine z_callSbp (pc := 11) (i := mX11_within) (S := []) [.long (zL (w)), .long (zL (0)), .long (zL (1000))] dX11_fine_11 ml_X11_152 ok_X11_within rfl (Or.inr rfl) (Nat.le_of_ble_eq_true rfl) (c_X11_within (d := d) (v := w) (lo := 0) (hi := 1000) (v1 := (by omega)) (v2 := (by omega)) (lo1 := (by omega)) (lo2 := (by omega)) (hi1 := (by omega)) (hi2 := (by omega)) (ok := ok)) (fun hc4 ok3 => ?_) (fun hc4 ok3 => ?_)
  · skip
    refine z_if_eq (pc := 14) (tgt := 54) dX11_fine_14 (by decide) (by decide) (by decide) (fun h => absurd h (by decide)) (fun _ => ?_)
    refine x_iload_n (pc := 17) dX11_fine_17 (List.Mem.tail _ (List.Mem.tail _ (List.Mem.head _))) ?_
    refine z_i2l (pc := 18) dX11_fine_18 (by omega) (by omega) ?_
    refine z_lconst (pc := 19) 0 dX11_fine_19 rfl ?_
    refine z_ldc2_w (pc := 20) 1000 dX11_fine_20 cl_X11_306 (by decide) ?_
    refine z_callSbp (pc := 23) (i := mX11_within) (S := []) [.long (zL (base)), .long (zL (0)), .long (zL (1000))] dX11_fine_23 ml_X11_152 ok_X11_within rfl (Or.inr rfl) (Nat.le_of_ble_eq_true rfl) (c_X11_within (d := d) (v := base) (lo := 0) (hi := 1000) (v1 := (by omega)) (v2 := (by omega)) (lo1 := (by omega)) (lo2 := (by omega)) (hi1 := (by omega)) (hi2 := (by omega)) (ok := ok3)) (fun hc8 ok7 => ?_) (fun hc8 ok7 => ?_)
    · skip
      refine z_if_eq (pc := 26) (tgt := 54) dX11_fine_26 (by decide) (by decide) (by decide) (fun h => absurd h (by decide)) (fun _ => ?_)
      refine x_iload_n (pc := 29) dX11_fine_29 (List.Mem.tail _ (List.Mem.tail _ (List.Mem.tail _ (List.Mem.head _)))) ?_
      refine z_i2l (pc := 30) dX11_fine_30 (by omega) (by omega) ?_
      refine z_lconst (pc := 31) 0 dX11_fine_31 rfl ?_
      refine z_ldc2_w (pc := 32) 100 dX11_fine_32 cl_X11_286 (by decide) ?_
      refine z_callSbp (pc := 35) (i := mX11_within) (S := []) [.long (zL (dd)), .long (zL (0)), .long (zL (100))] dX11_fine_35 ml_X11_152 ok_X11_within rfl (Or.inr rfl) (Nat.le_of_ble_eq_true rfl) (c_X11_within (d := d) (v := dd) (lo := 0) (hi := 100) (v1 := (by omega)) (v2 := (by omega)) (lo1 := (by omega)) (lo2 := (by omega)) (hi1 := (by omega)) (hi2 := (by omega)) (ok := ok7)) (fun hc12 ok11 => ?_) (fun hc12 ok11 => ?_)
      · skip
        refine z_if_eq (pc := 38) (tgt := 54) dX11_fine_38 (by decide) (by decide) (by decide) (fun h => absurd h (by decide)) (fun _ => ?_)
        refine x_iload (pc := 41) dX11_fine_41 (List.Mem.tail _ (List.Mem.tail _ (List.Mem.tail _ (List.Mem.tail _ (List.Mem.head _))))) ?_
        refine z_i2l (pc := 43) dX11_fine_43 (by omega) (by omega) ?_
        refine z_lconst (pc := 44) 0 dX11_fine_44 rfl ?_
        refine z_ldc2_w (pc := 45) 60 dX11_fine_45 cl_X11_221 (by decide) ?_
        refine z_callSbp (pc := 48) (i := mX11_within) (S := []) [.long (zL (mo)), .long (zL (0)), .long (zL (60))] dX11_fine_48 ml_X11_152 ok_X11_within rfl (Or.inr rfl) (Nat.le_of_ble_eq_true rfl) (c_X11_within (d := d) (v := mo) (lo := 0) (hi := 60) (v1 := (by omega)) (v2 := (by omega)) (lo1 := (by omega)) (lo2 := (by omega)) (hi1 := (by omega)) (hi2 := (by omega)) (ok := ok11)) (fun hc16 ok15 => ?_) (fun hc16 ok15 => ?_)
        · skip
          refine z_if_ne (pc := 51) (tgt := 61) dX11_fine_51 (by decide) (by decide) (by decide) (fun _ => ?_) (fun h => absurd h (by decide))
          refine x_iload_n (pc := 61) dX11_fine_61 (List.Mem.tail _ (List.Mem.head _)) ?_
          refine x_istore (pc := 62) dX11_fine_62 (Nat.le_of_ble_eq_true rfl) ?_
          show Ev _ _ _ _ _ [(5, .int (zN (w))), (0, .ref 0), (1, .int (zN (w))), (2, .int (zN (base))), (3, .int (zN (dd))), (4, .int (zN (mo)))] _ _
          refine z_iconst (pc := 64) dX11_fine_64 ?_
          refine x_istore (pc := 65) dX11_fine_65 (Nat.le_of_ble_eq_true rfl) ?_
          show Ev _ _ _ _ _ [(6, .int (zN (0))), (5, .int (zN (w))), (0, .ref 0), (1, .int (zN (w))), (2, .int (zN (base))), (3, .int (zN (dd))), (4, .int (zN (mo)))] _ _
          have lp67 : ∀ (nF : Nat) (k : Nat), ((k : Int) ≤ mo) → mo.toNat - k < nF → Ev zX mX11_fine (EvC zX (d + 1)) (zPi (fun (r : Int) (H1 : ZH) => r = (S_fine w base dd mo).1 ∧ H1 = bumpM (S_fine w base dd mo).2 H)) 67 [(0, .ref 0), (1, .int (zN (w))), (2, .int (zN (base))), (3, .int (zN (dd))), (4, .int (zN (mo))), (5, .int (zN (zfin w base dd k))), (6, .int (zN ((k : Int))))] [] (eh H) := by
            intro nF
            induction nF with
            | zero => intro k hk hm; exact absurd hm (Nat.not_lt_zero _)
            | succ nF ih67 =>
              intro k hk hm
              have zb := zfin_bd (s := w) (base := base) (d := dd) (by omega) (by omega) (by omega) (by omega) (by omega) (by omega) k
              refine x_iload (pc := 67) dX11_fine_67 (List.Mem.tail _ (List.Mem.tail _ (List.Mem.tail _ (List.Mem.tail _ (List.Mem.tail _ (List.Mem.tail _ (List.Mem.head _))))))) ?_
              refine x_iload (pc := 69) dX11_fine_69 (List.Mem.tail _ (List.Mem.tail _ (List.Mem.tail _ (List.Mem.tail _ (List.Mem.head _))))) ?_
              refine z_icmp_ge (pc := 71) (tgt := 94) dX11_fine_71 (by decide) (by omega) (by omega) (by omega) (by omega) (fun hb18 => ?_) (fun hb18 => ?_)
              · skip
                refine x_iload (pc := 94) dX11_fine_94 (List.Mem.tail _ (List.Mem.tail _ (List.Mem.tail _ (List.Mem.tail _ (List.Mem.tail _ (List.Mem.head _)))))) ?_
                refine z_ireturn (pc := 96) dX11_fine_96 rfl (Or.inl rfl) ok15 (by omega) (by omega) ?_
                have ek : k = mo.toNat := by omega
                have e : S_fine w base dd mo = (zfin w base dd mo.toNat, 6) := by unfold S_fine; exact if_pos (by omega)
                rw [e]
                exact ⟨by rw [ek], rfl⟩
              · skip
                have e1 := mul_bd (x := base - zfin w base dd k) (y := dd) (A := 1000) (B := 100) (by omega) (by omega) (by omega) (by omega)
                have e2 := tdiv_bd (x := (base - zfin w base dd k) * dd) (d := 100) (A := 1000) (by decide) (by omega) (by omega)
                refine x_iload (pc := 74) dX11_fine_74 (List.Mem.tail _ (List.Mem.tail _ (List.Mem.tail _ (List.Mem.tail _ (List.Mem.tail _ (List.Mem.head _)))))) ?_
                refine x_iload_n (pc := 76) dX11_fine_76 (List.Mem.tail _ (List.Mem.tail _ (List.Mem.head _))) ?_
                refine x_iload (pc := 77) dX11_fine_77 (List.Mem.tail _ (List.Mem.tail _ (List.Mem.tail _ (List.Mem.tail _ (List.Mem.tail _ (List.Mem.head _)))))) ?_
                refine z_isub (pc := 79) dX11_fine_79 ?_
                refine x_iload_n (pc := 80) dX11_fine_80 (List.Mem.tail _ (List.Mem.tail _ (List.Mem.tail _ (List.Mem.head _)))) ?_
                refine z_imul (pc := 81) dX11_fine_81 ?_
                refine z_bipush (pc := 82) dX11_fine_82 bp_100 ?_
                refine z_idiv (pc := 84) dX11_fine_84 (by omega) (by omega) (by omega) (by omega) (by omega) ?_
                refine z_iadd (pc := 85) dX11_fine_85 ?_
                refine x_istore (pc := 86) dX11_fine_86 (Nat.le_of_ble_eq_true rfl) ?_
                show Ev _ _ _ _ _ [(5, .int (zN ((zfin w base dd k + ((((base - zfin w base dd k) * dd)).tdiv (100)))))), (0, .ref 0), (1, .int (zN (w))), (2, .int (zN (base))), (3, .int (zN (dd))), (4, .int (zN (mo))), (6, .int (zN ((k : Int))))] _ _
                refine z_iinc (pc := 88) dX11_fine_88 (List.Mem.tail _ (List.Mem.tail _ (List.Mem.tail _ (List.Mem.tail _ (List.Mem.tail _ (List.Mem.tail _ (List.Mem.head _))))))) (Nat.le_of_ble_eq_true rfl) ?_
                show Ev _ _ _ _ _ [(6, .int (zN ((k : Int) + 1))), (5, .int (zN ((zfin w base dd k + ((((base - zfin w base dd k) * dd)).tdiv (100)))))), (0, .ref 0), (1, .int (zN (w))), (2, .int (zN (base))), (3, .int (zN (dd))), (4, .int (zN (mo)))] _ _
                refine x_goto (pc := 91) (tgt := 67) dX11_fine_91 (by decide) ?_
                refine x_weaken (L1 := [(0, .ref 0), (1, .int (zN (w))), (2, .int (zN (base))), (3, .int (zN (dd))), (4, .int (zN (mo))), (5, .int (zN (zfin w base dd (k + 1)))), (6, .int (zN ((((k + 1) : Nat) : Int))))]) (List.forall_mem_cons.mpr ⟨(List.Mem.tail _ (List.Mem.tail _ (List.Mem.head _))), (List.forall_mem_cons.mpr ⟨(List.Mem.tail _ (List.Mem.tail _ (List.Mem.tail _ (List.Mem.head _)))), (List.forall_mem_cons.mpr ⟨(List.Mem.tail _ (List.Mem.tail _ (List.Mem.tail _ (List.Mem.tail _ (List.Mem.head _))))), (List.forall_mem_cons.mpr ⟨(List.Mem.tail _ (List.Mem.tail _ (List.Mem.tail _ (List.Mem.tail _ (List.Mem.tail _ (List.Mem.head _)))))), (List.forall_mem_cons.mpr ⟨(List.Mem.tail _ (List.Mem.tail _ (List.Mem.tail _ (List.Mem.tail _ (List.Mem.tail _ (List.Mem.tail _ (List.Mem.head _))))))), (List.forall_mem_cons.mpr ⟨(mem_ci (rfl) (List.Mem.tail _ (List.Mem.head _))), (List.forall_mem_cons.mpr ⟨(mem_ci (by omega) (List.Mem.head _)), (fun _ h => absurd h List.not_mem_nil)⟩)⟩)⟩)⟩)⟩)⟩)⟩) ?_
                exact ih67 ((k + 1)) (by first | assumption | omega) (by omega)
          refine x_weaken (L1 := [(0, .ref 0), (1, .int (zN (w))), (2, .int (zN (base))), (3, .int (zN (dd))), (4, .int (zN (mo))), (5, .int (zN (zfin w base dd 0))), (6, .int (zN (((0 : Nat) : Int))))]) (List.forall_mem_cons.mpr ⟨(List.Mem.tail _ (List.Mem.tail _ (List.Mem.head _))), (List.forall_mem_cons.mpr ⟨(List.Mem.tail _ (List.Mem.tail _ (List.Mem.tail _ (List.Mem.head _)))), (List.forall_mem_cons.mpr ⟨(List.Mem.tail _ (List.Mem.tail _ (List.Mem.tail _ (List.Mem.tail _ (List.Mem.head _))))), (List.forall_mem_cons.mpr ⟨(List.Mem.tail _ (List.Mem.tail _ (List.Mem.tail _ (List.Mem.tail _ (List.Mem.tail _ (List.Mem.head _)))))), (List.forall_mem_cons.mpr ⟨(List.Mem.tail _ (List.Mem.tail _ (List.Mem.tail _ (List.Mem.tail _ (List.Mem.tail _ (List.Mem.tail _ (List.Mem.head _))))))), (List.forall_mem_cons.mpr ⟨(mem_ci (rfl) (List.Mem.tail _ (List.Mem.head _))), (List.forall_mem_cons.mpr ⟨(mem_ci (by omega) (List.Mem.head _)), (fun _ h => absurd h List.not_mem_nil)⟩)⟩)⟩)⟩)⟩)⟩)⟩) ?_
          exact lp67 (mo.toNat - 0 + 1) (0) (by first | assumption | omega) (Nat.lt_succ_self _)
        · skip
          refine z_if_ne (pc := 51) (tgt := 61) dX11_fine_51 (by decide) (by decide) (by decide) (fun h => absurd h (by decide)) (fun _ => ?_)
          refine x_aload_n (pc := 54) dX11_fine_54 (List.Mem.head _) ?_
          refine z_bipush (pc := 55) dX11_fine_55 bp_m3 ?_
          refine z_callVip (pc := 57) (i := mX11_no) (S := []) [.int (zN ((-3)))] dX11_fine_57 ml_X11_89 ok_X11_no rfl sh_0 rfl (Or.inl rfl) (Nat.le_of_ble_eq_true rfl) (c_X11_no (d := d) (code := ((-3))) (code1 := (by omega)) (code2 := (by omega)) (ok := ok15) (cn := (by first | assumption | omega))) (fun r20a r20b ok21 => ?_)
          show Ev _ _ _ _ _ _ _ (eh (wI H 1 ((refIx ((-3)))) (H.1 1 (refIx ((-3))) + 1)))
          refine z_ireturn (pc := 60) dX11_fine_60 rfl (Or.inl rfl) ok21 (by omega) (by omega) ?_
          have e : S_fine w base dd mo = (-3, 1) := by unfold S_fine; exact if_neg (by omega)
          rw [e]
          exact ⟨rfl, rfl⟩
      · skip
        refine z_if_eq (pc := 38) (tgt := 54) dX11_fine_38 (by decide) (by decide) (by decide) (fun _ => ?_) (fun h => absurd h (by decide))
        refine x_aload_n (pc := 54) dX11_fine_54 (List.Mem.head _) ?_
        refine z_bipush (pc := 55) dX11_fine_55 bp_m3 ?_
        refine z_callVip (pc := 57) (i := mX11_no) (S := []) [.int (zN ((-3)))] dX11_fine_57 ml_X11_89 ok_X11_no rfl sh_0 rfl (Or.inl rfl) (Nat.le_of_ble_eq_true rfl) (c_X11_no (d := d) (code := ((-3))) (code1 := (by omega)) (code2 := (by omega)) (ok := ok11) (cn := (by first | assumption | omega))) (fun r23a r23b ok24 => ?_)
        show Ev _ _ _ _ _ _ _ (eh (wI H 1 ((refIx ((-3)))) (H.1 1 (refIx ((-3))) + 1)))
        refine z_ireturn (pc := 60) dX11_fine_60 rfl (Or.inl rfl) ok24 (by omega) (by omega) ?_
        have e : S_fine w base dd mo = (-3, 1) := by unfold S_fine; exact if_neg (by omega)
        rw [e]
        exact ⟨rfl, rfl⟩
    · skip
      refine z_if_eq (pc := 26) (tgt := 54) dX11_fine_26 (by decide) (by decide) (by decide) (fun _ => ?_) (fun h => absurd h (by decide))
      refine x_aload_n (pc := 54) dX11_fine_54 (List.Mem.head _) ?_
      refine z_bipush (pc := 55) dX11_fine_55 bp_m3 ?_
      refine z_callVip (pc := 57) (i := mX11_no) (S := []) [.int (zN ((-3)))] dX11_fine_57 ml_X11_89 ok_X11_no rfl sh_0 rfl (Or.inl rfl) (Nat.le_of_ble_eq_true rfl) (c_X11_no (d := d) (code := ((-3))) (code1 := (by omega)) (code2 := (by omega)) (ok := ok7) (cn := (by first | assumption | omega))) (fun r26a r26b ok27 => ?_)
      show Ev _ _ _ _ _ _ _ (eh (wI H 1 ((refIx ((-3)))) (H.1 1 (refIx ((-3))) + 1)))
      refine z_ireturn (pc := 60) dX11_fine_60 rfl (Or.inl rfl) ok27 (by omega) (by omega) ?_
      have e : S_fine w base dd mo = (-3, 1) := by unfold S_fine; exact if_neg (by omega)
      rw [e]
      exact ⟨rfl, rfl⟩
  · skip
    refine z_if_eq (pc := 14) (tgt := 54) dX11_fine_14 (by decide) (by decide) (by decide) (fun _ => ?_) (fun h => absurd h (by decide))
    refine x_aload_n (pc := 54) dX11_fine_54 (List.Mem.head _) ?_
    refine z_bipush (pc := 55) dX11_fine_55 bp_m3 ?_
    refine z_callVip (pc := 57) (i := mX11_no) (S := []) [.int (zN ((-3)))] dX11_fine_57 ml_X11_89 ok_X11_no rfl sh_0 rfl (Or.inl rfl) (Nat.le_of_ble_eq_true rfl) (c_X11_no (d := d) (code := ((-3))) (code1 := (by omega)) (code2 := (by omega)) (ok := ok3) (cn := (by first | assumption | omega))) (fun r29a r29b ok30 => ?_)
    show Ev _ _ _ _ _ _ _ (eh (wI H 1 ((refIx ((-3)))) (H.1 1 (refIx ((-3))) + 1)))
    refine z_ireturn (pc := 60) dX11_fine_60 rfl (Or.inl rfl) ok30 (by omega) (by omega) ?_
    have e : S_fine w base dd mo = (-3, 1) := by unfold S_fine; exact if_neg (by omega)
    rw [e]
    exact ⟨rfl, rfl⟩

theorem c_X10_until {d : Nat} {H : ZH} (ok : okZ H) {w base dd near : Int} (w1 : -2147483648 ≤ w) (w2 : w ≤ 2147483647) (base1 : -2147483648 ≤ base) (base2 : base ≤ 2147483647) (dd1 : -2147483648 ≤ dd) (dd2 : dd ≤ 2147483647) (near1 : -2147483648 ≤ near) (near2 : near ≤ 2147483647) (cn : cntOK H 25) : EvC zX (d + 3) mX10_until [.ref 20, .int (zN (w)), .int (zN (base)), .int (zN (dd)), .int (zN (near))] (eh H) (zPi (fun (r : Int) (H1 : ZH) => r = (S_until w base dd near).1 ∧ H1 = bumpC (S_until w base dd near).2 H)) := by
  show _ ∧ Ev zX mX10_until (EvC zX (d + 2)) (zPi (fun (r : Int) (H1 : ZH) => r = (S_until w base dd near).1 ∧ H1 = bumpC (S_until w base dd near).2 H)) 0 [(0, .ref 20), (1, .int (zN (w))), (2, .int (zN (base))), (3, .int (zN (dd))), (4, .int (zN (near)))] [] (eh H)
  refine ⟨Nat.le_of_ble_eq_true rfl, ?_⟩
  refine x_iload_n (pc := 0) dX10_until_0 (List.Mem.tail _ (List.Mem.head _)) ?_
  refine x_iload_n (pc := 1) dX10_until_1 (List.Mem.tail _ (List.Mem.tail _ (List.Mem.head _))) ?_
  refine x_iload_n (pc := 2) dX10_until_2 (List.Mem.tail _ (List.Mem.tail _ (List.Mem.tail _ (List.Mem.head _)))) ?_
  refine z_callSbp (pc := 3) (i := mX10_isFine) (S := []) [.int (zN (w)), .int (zN (base)), .int (zN (dd))] dX10_until_3 ml_X10_374 ok_X10_isFine rfl (Or.inr rfl) (Nat.le_of_ble_eq_true rfl) (c_X10_isFine (d := d) (w := w) (base := base) (dd := dd) (w1 := (by omega)) (w2 := (by omega)) (base1 := (by omega)) (base2 := (by omega)) (dd1 := (by omega)) (dd2 := (by omega)) (ok := ok)) (fun hc3 ok2 => ?_) (fun hc3 ok2 => ?_)
  · skip
    refine z_if_eq (pc := 6) (tgt := 20) dX10_until_6 (by decide) (by decide) (by decide) (fun h => absurd h (by decide)) (fun _ => ?_)
    refine x_iload (pc := 9) dX10_until_9 (List.Mem.tail _ (List.Mem.tail _ (List.Mem.tail _ (List.Mem.tail _ (List.Mem.head _))))) ?_
    refine z_sipush (pc := 11) dX10_until_11 sp_1000 ?_
    refine z_callSbp (pc := 14) (i := mX10_isWithin) (S := []) [.int (zN (near)), .int (zN (1000))] dX10_until_14 ml_X10_302 ok_X10_isWithin rfl (Or.inr rfl) (Nat.le_of_ble_eq_true rfl) (c_X10_isWithin (d := d + 1) (v := near) (hi := 1000) (v1 := (by omega)) (v2 := (by omega)) (hi1 := (by omega)) (hi2 := (by omega)) (ok := ok2)) (fun hc7 ok6 => ?_) (fun hc7 ok6 => ?_)
    · skip
      refine z_if_ne (pc := 17) (tgt := 27) dX10_until_17 (by decide) (by decide) (by decide) (fun _ => ?_) (fun h => absurd h (by decide))
      refine x_iload_n (pc := 27) dX10_until_27 (List.Mem.tail _ (List.Mem.head _)) ?_
      refine x_istore (pc := 28) dX10_until_28 (Nat.le_of_ble_eq_true rfl) ?_
      show Ev _ _ _ _ _ [(5, .int (zN (w))), (0, .ref 20), (1, .int (zN (w))), (2, .int (zN (base))), (3, .int (zN (dd))), (4, .int (zN (near)))] _ _
      refine z_iconst (pc := 30) dX10_until_30 ?_
      refine x_istore (pc := 31) dX10_until_31 (Nat.le_of_ble_eq_true rfl) ?_
      show Ev _ _ _ _ _ [(6, .int (zN (0))), (5, .int (zN (w))), (0, .ref 20), (1, .int (zN (w))), (2, .int (zN (base))), (3, .int (zN (dd))), (4, .int (zN (near)))] _ _
      have lp33 : ∀ (nF : Nat) (k : Nat), ((k : Int) ≤ 1000) → (zunt w base dd near 1000 0 = zunt w base dd near (1000 - k) k) → 1000 - k < nF → Ev zX mX10_until (EvC zX (d + 2)) (zPi (fun (r : Int) (H1 : ZH) => r = (S_until w base dd near).1 ∧ H1 = bumpC (S_until w base dd near).2 H)) 33 [(0, .ref 20), (1, .int (zN (w))), (2, .int (zN (base))), (3, .int (zN (dd))), (4, .int (zN (near))), (5, .int (zN (zfin w base dd k))), (6, .int (zN ((k : Int))))] [] (eh H) := by
        intro nF
        induction nF with
        | zero => intro k hk hz hm; exact absurd hm (Nat.not_lt_zero _)
        | succ nF ih33 =>
          intro k hk hz hm
          have zb := zfin_bd (s := w) (base := base) (d := dd) (by omega) (by omega) (by omega) (by omega) (by omega) (by omega) k
          refine x_iload (pc := 33) dX10_until_33 (List.Mem.tail _ (List.Mem.tail _ (List.Mem.tail _ (List.Mem.tail _ (List.Mem.tail _ (List.Mem.tail _ (List.Mem.head _))))))) ?_
          refine z_sipush (pc := 35) dX10_until_35 sp_999 ?_
          refine z_icmp_gt (pc := 38) (tgt := 71) dX10_until_38 (by decide) (by omega) (by omega) (by decide) (by decide) (fun hb9 => ?_) (fun hb9 => ?_)
          · skip
            refine z_iconst (pc := 71) dX10_until_71 ?_
            refine z_ireturn (pc := 72) dX10_until_72 rfl (Or.inl rfl) ok6 (by decide) (by decide) ?_
            have ek : k = 1000 := by omega
            have e : S_until w base dd near = (zunt w base dd near 1000 0, 6) := by unfold S_until; exact if_pos (by omega)
            rw [e]
            exact ⟨by rw [hz, ek]; rfl, rfl⟩
          · skip
            refine x_iload (pc := 41) dX10_until_41 (List.Mem.tail _ (List.Mem.tail _ (List.Mem.tail _ (List.Mem.tail _ (List.Mem.tail _ (List.Mem.head _)))))) ?_
            refine x_iload_n (pc := 43) dX10_until_43 (List.Mem.tail _ (List.Mem.tail _ (List.Mem.head _))) ?_
            refine z_isub (pc := 44) dX10_until_44 ?_
            refine z_mabs (pc := 45) dX10_until_45 ml_X10_382 (Nat.le_of_ble_eq_true rfl) (by omega) (by omega) ?_
            refine x_iload (pc := 48) dX10_until_48 (List.Mem.tail _ (List.Mem.tail _ (List.Mem.tail _ (List.Mem.tail _ (List.Mem.head _))))) ?_
            refine z_icmp_gt (pc := 50) (tgt := 56) dX10_until_50 (by decide) (by omega) (by omega) (by omega) (by omega) (fun hb10 => ?_) (fun hb10 => ?_)
            · skip
              refine x_iload (pc := 56) dX10_until_56 (List.Mem.tail _ (List.Mem.tail _ (List.Mem.tail _ (List.Mem.tail _ (List.Mem.tail _ (List.Mem.head _)))))) ?_
              refine x_iload_n (pc := 58) dX10_until_58 (List.Mem.tail _ (List.Mem.tail _ (List.Mem.head _))) ?_
              refine x_iload_n (pc := 59) dX10_until_59 (List.Mem.tail _ (List.Mem.tail _ (List.Mem.tail _ (List.Mem.head _)))) ?_
              refine z_callSip (pc := 60) (i := mX10_monthOn) (S := []) [.int (zN (zfin w base dd k)), .int (zN (base)), .int (zN (dd))] dX10_until_60 ml_X10_378 ok_X10_monthOn rfl (Or.inl rfl) (Nat.le_of_ble_eq_true rfl) (c_X10_monthOn (d := d + 1) (s := (zfin w base dd k)) (base := base) (dd := dd) (s1 := (by omega)) (s2 := (by omega)) (b1 := (by omega)) (b2 := (by omega)) (d1 := (by omega)) (d2 := (by omega)) (ok := ok6)) (fun r11a r11b ok12 => ?_)
              refine x_istore (pc := 63) dX10_until_63 (Nat.le_of_ble_eq_true rfl) ?_
              show Ev _ _ _ _ _ [(5, .int (zN ((zmon (zfin w base dd k) base dd)))), (0, .ref 20), (1, .int (zN (w))), (2, .int (zN (base))), (3, .int (zN (dd))), (4, .int (zN (near))), (6, .int (zN ((k : Int))))] _ _
              refine z_iinc (pc := 65) dX10_until_65 (List.Mem.tail _ (List.Mem.tail _ (List.Mem.tail _ (List.Mem.tail _ (List.Mem.tail _ (List.Mem.tail _ (List.Mem.head _))))))) (Nat.le_of_ble_eq_true rfl) ?_
              show Ev _ _ _ _ _ [(6, .int (zN ((k : Int) + 1))), (5, .int (zN ((zmon (zfin w base dd k) base dd)))), (0, .ref 20), (1, .int (zN (w))), (2, .int (zN (base))), (3, .int (zN (dd))), (4, .int (zN (near)))] _ _
              refine x_goto (pc := 68) (tgt := 33) dX10_until_68 (by decide) ?_
              refine x_weaken (L1 := [(0, .ref 20), (1, .int (zN (w))), (2, .int (zN (base))), (3, .int (zN (dd))), (4, .int (zN (near))), (5, .int (zN (zfin w base dd (k + 1)))), (6, .int (zN ((((k + 1) : Nat) : Int))))]) (List.forall_mem_cons.mpr ⟨(List.Mem.tail _ (List.Mem.tail _ (List.Mem.head _))), (List.forall_mem_cons.mpr ⟨(List.Mem.tail _ (List.Mem.tail _ (List.Mem.tail _ (List.Mem.head _)))), (List.forall_mem_cons.mpr ⟨(List.Mem.tail _ (List.Mem.tail _ (List.Mem.tail _ (List.Mem.tail _ (List.Mem.head _))))), (List.forall_mem_cons.mpr ⟨(List.Mem.tail _ (List.Mem.tail _ (List.Mem.tail _ (List.Mem.tail _ (List.Mem.tail _ (List.Mem.head _)))))), (List.forall_mem_cons.mpr ⟨(List.Mem.tail _ (List.Mem.tail _ (List.Mem.tail _ (List.Mem.tail _ (List.Mem.tail _ (List.Mem.tail _ (List.Mem.head _))))))), (List.forall_mem_cons.mpr ⟨(mem_ci (rfl) (List.Mem.tail _ (List.Mem.head _))), (List.forall_mem_cons.mpr ⟨(mem_ci (by omega) (List.Mem.head _)), (fun _ h => absurd h List.not_mem_nil)⟩)⟩)⟩)⟩)⟩)⟩)⟩) ?_
              exact ih33 ((k + 1)) (by omega) (by rw [hz, show 1000 - k = (1000 - (k + 1)) + 1 by omega]; exact if_neg (by omega)) (by omega)
            · skip
              refine x_iload (pc := 53) dX10_until_53 (List.Mem.tail _ (List.Mem.tail _ (List.Mem.tail _ (List.Mem.tail _ (List.Mem.tail _ (List.Mem.tail _ (List.Mem.head _))))))) ?_
              refine z_ireturn (pc := 55) dX10_until_55 rfl (Or.inl rfl) ok6 (by omega) (by omega) ?_
              have e : S_until w base dd near = (zunt w base dd near 1000 0, 6) := by unfold S_until; exact if_pos (by omega)
              rw [e]
              exact ⟨by rw [hz, show 1000 - k = (1000 - (k + 1)) + 1 by omega]; exact (if_pos (by omega)).symm, rfl⟩
      refine x_weaken (L1 := [(0, .ref 20), (1, .int (zN (w))), (2, .int (zN (base))), (3, .int (zN (dd))), (4, .int (zN (near))), (5, .int (zN (zfin w base dd 0))), (6, .int (zN (((0 : Nat) : Int))))]) (List.forall_mem_cons.mpr ⟨(List.Mem.tail _ (List.Mem.tail _ (List.Mem.head _))), (List.forall_mem_cons.mpr ⟨(List.Mem.tail _ (List.Mem.tail _ (List.Mem.tail _ (List.Mem.head _)))), (List.forall_mem_cons.mpr ⟨(List.Mem.tail _ (List.Mem.tail _ (List.Mem.tail _ (List.Mem.tail _ (List.Mem.head _))))), (List.forall_mem_cons.mpr ⟨(List.Mem.tail _ (List.Mem.tail _ (List.Mem.tail _ (List.Mem.tail _ (List.Mem.tail _ (List.Mem.head _)))))), (List.forall_mem_cons.mpr ⟨(List.Mem.tail _ (List.Mem.tail _ (List.Mem.tail _ (List.Mem.tail _ (List.Mem.tail _ (List.Mem.tail _ (List.Mem.head _))))))), (List.forall_mem_cons.mpr ⟨(mem_ci (rfl) (List.Mem.tail _ (List.Mem.head _))), (List.forall_mem_cons.mpr ⟨(mem_ci (by omega) (List.Mem.head _)), (fun _ h => absurd h List.not_mem_nil)⟩)⟩)⟩)⟩)⟩)⟩)⟩) ?_
      exact lp33 (1000 - 0 + 1) (0) (by omega) (rfl) (Nat.lt_succ_self _)
    · skip
      refine z_if_ne (pc := 17) (tgt := 27) dX10_until_17 (by decide) (by decide) (by decide) (fun h => absurd h (by decide)) (fun _ => ?_)
      refine x_aload_n (pc := 20) dX10_until_20 (List.Mem.head _) ?_
      refine z_bipush (pc := 21) dX10_until_21 bp_m3 ?_
      refine z_callVip (pc := 23) (i := mX10_refuse) (S := []) [.int (zN ((-3)))] dX10_until_23 ml_X10_97 ok_X10_refuse rfl sh_20 rfl (Or.inl rfl) (Nat.le_of_ble_eq_true rfl) (c_X10_refuse (d := d + 1) (code := ((-3))) (code1 := (by omega)) (code2 := (by omega)) (ok := ok6) (cn := (by first | assumption | omega))) (fun r14a r14b ok15 => ?_)
      show Ev _ _ _ _ _ _ _ (eh (wI H 25 ((refIx ((-3)))) (H.1 25 (refIx ((-3))) + 1)))
      refine z_ireturn (pc := 26) dX10_until_26 rfl (Or.inl rfl) ok15 (by omega) (by omega) ?_
      have e : S_until w base dd near = (-3, 1) := by unfold S_until; exact if_neg (by omega)
      rw [e]
      exact ⟨rfl, rfl⟩
  · skip
    refine z_if_eq (pc := 6) (tgt := 20) dX10_until_6 (by decide) (by decide) (by decide) (fun _ => ?_) (fun h => absurd h (by decide))
    refine x_aload_n (pc := 20) dX10_until_20 (List.Mem.head _) ?_
    refine z_bipush (pc := 21) dX10_until_21 bp_m3 ?_
    refine z_callVip (pc := 23) (i := mX10_refuse) (S := []) [.int (zN ((-3)))] dX10_until_23 ml_X10_97 ok_X10_refuse rfl sh_20 rfl (Or.inl rfl) (Nat.le_of_ble_eq_true rfl) (c_X10_refuse (d := d + 1) (code := ((-3))) (code1 := (by omega)) (code2 := (by omega)) (ok := ok2) (cn := (by first | assumption | omega))) (fun r17a r17b ok18 => ?_)
    show Ev _ _ _ _ _ _ _ (eh (wI H 25 ((refIx ((-3)))) (H.1 25 (refIx ((-3))) + 1)))
    refine z_ireturn (pc := 26) dX10_until_26 rfl (Or.inl rfl) ok18 (by omega) (by omega) ?_
    have e : S_until w base dd near = (-3, 1) := by unfold S_until; exact if_neg (by omega)
    rw [e]
    exact ⟨rfl, rfl⟩

theorem c_X11_until {d : Nat} {H : ZH} (ok : okZ H) {w base dd near : Int} (w1 : -2147483648 ≤ w) (w2 : w ≤ 2147483647) (base1 : -2147483648 ≤ base) (base2 : base ≤ 2147483647) (dd1 : -2147483648 ≤ dd) (dd2 : dd ≤ 2147483647) (near1 : -2147483648 ≤ near) (near2 : near ≤ 2147483647) (cm : cntOK H 1) (th : H.1 0 0 = 0) : EvC zX (d + 2) mX11_until [.ref 0, .int (zN (w)), .int (zN (base)), .int (zN (dd)), .int (zN (near))] (eh H) (zPi (fun (r : Int) (H1 : ZH) => r = (S_until w base dd near).1 ∧ H1 = bumpM (S_until w base dd near).2 H)) := by
  show _ ∧ Ev zX mX11_until (EvC zX (d + 1)) (zPi (fun (r : Int) (H1 : ZH) => r = (S_until w base dd near).1 ∧ H1 = bumpM (S_until w base dd near).2 H)) 0 [(0, .ref 0), (1, .int (zN (w))), (2, .int (zN (base))), (3, .int (zN (dd))), (4, .int (zN (near)))] [] (eh H)
  refine ⟨Nat.le_of_ble_eq_true rfl, ?_⟩
  refine x_aload_n (pc := 0) dX11_until_0 (List.Mem.head _) ?_
  refine z_iconst (pc := 1) dX11_until_1 ?_
  refine z_putI (pc := 2) (k := 0) dX11_until_2 lp_X11_1 sh_0 rfl ?_
  have ok1 := okI ok 0 0 (v := 0) (by decide) (by decide)
  rw [wI_same th]
  refine x_iload_n (pc := 5) dX11_until_5 (List.Mem.tail _ (List.Mem.head _)) ?_
  refine z_i2l (pc := 6) dX11_until_6 (by omega) (by omega) ?_
  refine z_lconst (pc := 7) 0 dX11_until_7 rfl ?_
  refine z_ldc2_w (pc := 8) 1000 dX11_until_8 cl_X11_306 (by decide) ?_
  refine z_callSbp (pc := 11) (i := mX11_within) (S := []) [.long (zL (w)), .long (zL (0)), .long (zL (1000))] dX11_until_11 ml_X11_152 ok_X11_within rfl (Or.inr rfl) (Nat.le_of_ble_eq_true rfl) (c_X11_within (d := d) (v := w) (lo := 0) (hi := 1000) (v1 := (by omega)) (v2 := (by omega)) (lo1 := (by omega)) (lo2 := (by omega)) (hi1 := (by omega)) (hi2 := (by omega)) (ok := ok)) (fun hc4 ok3 => ?_) (fun hc4 ok3 => ?_)
  · skip
    refine z_if_eq (pc := 14) (tgt := 54) dX11_until_14 (by decide) (by decide) (by decide) (fun h => absurd h (by decide)) (fun _ => ?_)
    refine x_iload_n (pc := 17) dX11_until_17 (List.Mem.tail _ (List.Mem.tail _ (List.Mem.head _))) ?_
    refine z_i2l (pc := 18) dX11_until_18 (by omega) (by omega) ?_
    refine z_lconst (pc := 19) 0 dX11_until_19 rfl ?_
    refine z_ldc2_w (pc := 20) 1000 dX11_until_20 cl_X11_306 (by decide) ?_
    refine z_callSbp (pc := 23) (i := mX11_within) (S := []) [.long (zL (base)), .long (zL (0)), .long (zL (1000))] dX11_until_23 ml_X11_152 ok_X11_within rfl (Or.inr rfl) (Nat.le_of_ble_eq_true rfl) (c_X11_within (d := d) (v := base) (lo := 0) (hi := 1000) (v1 := (by omega)) (v2 := (by omega)) (lo1 := (by omega)) (lo2 := (by omega)) (hi1 := (by omega)) (hi2 := (by omega)) (ok := ok3)) (fun hc8 ok7 => ?_) (fun hc8 ok7 => ?_)
    · skip
      refine z_if_eq (pc := 26) (tgt := 54) dX11_until_26 (by decide) (by decide) (by decide) (fun h => absurd h (by decide)) (fun _ => ?_)
      refine x_iload_n (pc := 29) dX11_until_29 (List.Mem.tail _ (List.Mem.tail _ (List.Mem.tail _ (List.Mem.head _)))) ?_
      refine z_i2l (pc := 30) dX11_until_30 (by omega) (by omega) ?_
      refine z_lconst (pc := 31) 0 dX11_until_31 rfl ?_
      refine z_ldc2_w (pc := 32) 100 dX11_until_32 cl_X11_286 (by decide) ?_
      refine z_callSbp (pc := 35) (i := mX11_within) (S := []) [.long (zL (dd)), .long (zL (0)), .long (zL (100))] dX11_until_35 ml_X11_152 ok_X11_within rfl (Or.inr rfl) (Nat.le_of_ble_eq_true rfl) (c_X11_within (d := d) (v := dd) (lo := 0) (hi := 100) (v1 := (by omega)) (v2 := (by omega)) (lo1 := (by omega)) (lo2 := (by omega)) (hi1 := (by omega)) (hi2 := (by omega)) (ok := ok7)) (fun hc12 ok11 => ?_) (fun hc12 ok11 => ?_)
      · skip
        refine z_if_eq (pc := 38) (tgt := 54) dX11_until_38 (by decide) (by decide) (by decide) (fun h => absurd h (by decide)) (fun _ => ?_)
        refine x_iload (pc := 41) dX11_until_41 (List.Mem.tail _ (List.Mem.tail _ (List.Mem.tail _ (List.Mem.tail _ (List.Mem.head _))))) ?_
        refine z_i2l (pc := 43) dX11_until_43 (by omega) (by omega) ?_
        refine z_lconst (pc := 44) 0 dX11_until_44 rfl ?_
        refine z_ldc2_w (pc := 45) 1000 dX11_until_45 cl_X11_306 (by decide) ?_
        refine z_callSbp (pc := 48) (i := mX11_within) (S := []) [.long (zL (near)), .long (zL (0)), .long (zL (1000))] dX11_until_48 ml_X11_152 ok_X11_within rfl (Or.inr rfl) (Nat.le_of_ble_eq_true rfl) (c_X11_within (d := d) (v := near) (lo := 0) (hi := 1000) (v1 := (by omega)) (v2 := (by omega)) (lo1 := (by omega)) (lo2 := (by omega)) (hi1 := (by omega)) (hi2 := (by omega)) (ok := ok11)) (fun hc16 ok15 => ?_) (fun hc16 ok15 => ?_)
        · skip
          refine z_if_ne (pc := 51) (tgt := 61) dX11_until_51 (by decide) (by decide) (by decide) (fun _ => ?_) (fun h => absurd h (by decide))
          refine x_iload_n (pc := 61) dX11_until_61 (List.Mem.tail _ (List.Mem.head _)) ?_
          refine x_istore (pc := 62) dX11_until_62 (Nat.le_of_ble_eq_true rfl) ?_
          show Ev _ _ _ _ _ [(5, .int (zN (w))), (0, .ref 0), (1, .int (zN (w))), (2, .int (zN (base))), (3, .int (zN (dd))), (4, .int (zN (near)))] _ _
          refine z_iconst (pc := 64) dX11_until_64 ?_
          refine x_istore (pc := 65) dX11_until_65 (Nat.le_of_ble_eq_true rfl) ?_
          show Ev _ _ _ _ _ [(6, .int (zN (0))), (5, .int (zN (w))), (0, .ref 0), (1, .int (zN (w))), (2, .int (zN (base))), (3, .int (zN (dd))), (4, .int (zN (near)))] _ _
          have lp67 : ∀ (nF : Nat) (k : Nat), ((k : Int) ≤ 1000) → (zunt w base dd near 1000 0 = zunt w base dd near (1000 - k) k) → 1000 - k < nF → Ev zX mX11_until (EvC zX (d + 1)) (zPi (fun (r : Int) (H1 : ZH) => r = (S_until w base dd near).1 ∧ H1 = bumpM (S_until w base dd near).2 H)) 67 [(0, .ref 0), (1, .int (zN (w))), (2, .int (zN (base))), (3, .int (zN (dd))), (4, .int (zN (near))), (5, .int (zN (zfin w base dd k))), (6, .int (zN ((k : Int))))] [] (eh H) := by
            intro nF
            induction nF with
            | zero => intro k hk hz hm; exact absurd hm (Nat.not_lt_zero _)
            | succ nF ih67 =>
              intro k hk hz hm
              have zb := zfin_bd (s := w) (base := base) (d := dd) (by omega) (by omega) (by omega) (by omega) (by omega) (by omega) k
              refine x_iload (pc := 67) dX11_until_67 (List.Mem.tail _ (List.Mem.tail _ (List.Mem.tail _ (List.Mem.tail _ (List.Mem.tail _ (List.Mem.tail _ (List.Mem.head _))))))) ?_
              refine z_sipush (pc := 69) dX11_until_69 sp_1000 ?_
              refine z_icmp_ge (pc := 72) (tgt := 116) dX11_until_72 (by decide) (by omega) (by omega) (by decide) (by decide) (fun hb18 => ?_) (fun hb18 => ?_)
              · skip
                refine z_iconst (pc := 116) dX11_until_116 ?_
                refine z_ireturn (pc := 117) dX11_until_117 rfl (Or.inl rfl) ok15 (by decide) (by decide) ?_
                have ek : k = 1000 := by omega
                have e : S_until w base dd near = (zunt w base dd near 1000 0, 6) := by unfold S_until; exact if_pos (by omega)
                rw [e]
                exact ⟨by rw [hz, ek]; rfl, rfl⟩
              · skip
                refine x_iload (pc := 75) dX11_until_75 (List.Mem.tail _ (List.Mem.tail _ (List.Mem.tail _ (List.Mem.tail _ (List.Mem.tail _ (List.Mem.head _)))))) ?_
                refine x_iload_n (pc := 77) dX11_until_77 (List.Mem.tail _ (List.Mem.tail _ (List.Mem.head _))) ?_
                refine z_isub (pc := 78) dX11_until_78 ?_
                refine z_i2l (pc := 79) dX11_until_79 (by omega) (by omega) ?_
                refine x_iload (pc := 80) dX11_until_80 (List.Mem.tail _ (List.Mem.tail _ (List.Mem.tail _ (List.Mem.tail _ (List.Mem.head _))))) ?_
                refine z_ineg (pc := 82) dX11_until_82 ?_
                refine z_i2l (pc := 83) dX11_until_83 (by omega) (by omega) ?_
                refine x_iload (pc := 84) dX11_until_84 (List.Mem.tail _ (List.Mem.tail _ (List.Mem.tail _ (List.Mem.tail _ (List.Mem.head _))))) ?_
                refine z_i2l (pc := 86) dX11_until_86 (by omega) (by omega) ?_
                refine z_callSbp (pc := 87) (i := mX11_within) (S := []) [.long (zL ((zfin w base dd k - base))), .long (zL ((0 - near))), .long (zL (near))] dX11_until_87 ml_X11_152 ok_X11_within rfl (Or.inr rfl) (Nat.le_of_ble_eq_true rfl) (c_X11_within (d := d) (v := ((zfin w base dd k - base))) (lo := ((0 - near))) (hi := near) (v1 := (by omega)) (v2 := (by omega)) (lo1 := (by omega)) (lo2 := (by omega)) (hi1 := (by omega)) (hi2 := (by omega)) (ok := ok15)) (fun hc21 ok20 => ?_) (fun hc21 ok20 => ?_)
                · skip
                  refine z_if_eq (pc := 90) (tgt := 96) dX11_until_90 (by decide) (by decide) (by decide) (fun h => absurd h (by decide)) (fun _ => ?_)
                  refine x_iload (pc := 93) dX11_until_93 (List.Mem.tail _ (List.Mem.tail _ (List.Mem.tail _ (List.Mem.tail _ (List.Mem.tail _ (List.Mem.tail _ (List.Mem.head _))))))) ?_
                  refine z_ireturn (pc := 95) dX11_until_95 rfl (Or.inl rfl) ok20 (by omega) (by omega) ?_
                  have e : S_until w base dd near = (zunt w base dd near 1000 0, 6) := by unfold S_until; exact if_pos (by omega)
                  rw [e]
                  exact ⟨by rw [hz, show 1000 - k = (1000 - (k + 1)) + 1 by omega]; exact (if_pos (by omega)).symm, rfl⟩
                · skip
                  refine z_if_eq (pc := 90) (tgt := 96) dX11_until_90 (by decide) (by decide) (by decide) (fun _ => ?_) (fun h => absurd h (by decide))
                  have e1 := mul_bd (x := base - zfin w base dd k) (y := dd) (A := 1000) (B := 100) (by omega) (by omega) (by omega) (by omega)
                  have e2 := tdiv_bd (x := (base - zfin w base dd k) * dd) (d := 100) (A := 1000) (by decide) (by omega) (by omega)
                  refine x_iload (pc := 96) dX11_until_96 (List.Mem.tail _ (List.Mem.tail _ (List.Mem.tail _ (List.Mem.tail _ (List.Mem.tail _ (List.Mem.head _)))))) ?_
                  refine x_iload_n (pc := 98) dX11_until_98 (List.Mem.tail _ (List.Mem.tail _ (List.Mem.head _))) ?_
                  refine x_iload (pc := 99) dX11_until_99 (List.Mem.tail _ (List.Mem.tail _ (List.Mem.tail _ (List.Mem.tail _ (List.Mem.tail _ (List.Mem.head _)))))) ?_
                  refine z_isub (pc := 101) dX11_until_101 ?_
                  refine x_iload_n (pc := 102) dX11_until_102 (List.Mem.tail _ (List.Mem.tail _ (List.Mem.tail _ (List.Mem.head _)))) ?_
                  refine z_imul (pc := 103) dX11_until_103 ?_
                  refine z_bipush (pc := 104) dX11_until_104 bp_100 ?_
                  refine z_idiv (pc := 106) dX11_until_106 (by omega) (by omega) (by omega) (by omega) (by omega) ?_
                  refine z_iadd (pc := 107) dX11_until_107 ?_
                  refine x_istore (pc := 108) dX11_until_108 (Nat.le_of_ble_eq_true rfl) ?_
                  show Ev _ _ _ _ _ [(5, .int (zN ((zfin w base dd k + ((((base - zfin w base dd k) * dd)).tdiv (100)))))), (0, .ref 0), (1, .int (zN (w))), (2, .int (zN (base))), (3, .int (zN (dd))), (4, .int (zN (near))), (6, .int (zN ((k : Int))))] _ _
                  refine z_iinc (pc := 110) dX11_until_110 (List.Mem.tail _ (List.Mem.tail _ (List.Mem.tail _ (List.Mem.tail _ (List.Mem.tail _ (List.Mem.tail _ (List.Mem.head _))))))) (Nat.le_of_ble_eq_true rfl) ?_
                  show Ev _ _ _ _ _ [(6, .int (zN ((k : Int) + 1))), (5, .int (zN ((zfin w base dd k + ((((base - zfin w base dd k) * dd)).tdiv (100)))))), (0, .ref 0), (1, .int (zN (w))), (2, .int (zN (base))), (3, .int (zN (dd))), (4, .int (zN (near)))] _ _
                  refine x_goto (pc := 113) (tgt := 67) dX11_until_113 (by decide) ?_
                  refine x_weaken (L1 := [(0, .ref 0), (1, .int (zN (w))), (2, .int (zN (base))), (3, .int (zN (dd))), (4, .int (zN (near))), (5, .int (zN (zfin w base dd (k + 1)))), (6, .int (zN ((((k + 1) : Nat) : Int))))]) (List.forall_mem_cons.mpr ⟨(List.Mem.tail _ (List.Mem.tail _ (List.Mem.head _))), (List.forall_mem_cons.mpr ⟨(List.Mem.tail _ (List.Mem.tail _ (List.Mem.tail _ (List.Mem.head _)))), (List.forall_mem_cons.mpr ⟨(List.Mem.tail _ (List.Mem.tail _ (List.Mem.tail _ (List.Mem.tail _ (List.Mem.head _))))), (List.forall_mem_cons.mpr ⟨(List.Mem.tail _ (List.Mem.tail _ (List.Mem.tail _ (List.Mem.tail _ (List.Mem.tail _ (List.Mem.head _)))))), (List.forall_mem_cons.mpr ⟨(List.Mem.tail _ (List.Mem.tail _ (List.Mem.tail _ (List.Mem.tail _ (List.Mem.tail _ (List.Mem.tail _ (List.Mem.head _))))))), (List.forall_mem_cons.mpr ⟨(mem_ci (rfl) (List.Mem.tail _ (List.Mem.head _))), (List.forall_mem_cons.mpr ⟨(mem_ci (by omega) (List.Mem.head _)), (fun _ h => absurd h List.not_mem_nil)⟩)⟩)⟩)⟩)⟩)⟩)⟩) ?_
                  exact ih67 ((k + 1)) (by omega) (by rw [hz, show 1000 - k = (1000 - (k + 1)) + 1 by omega]; exact if_neg (by omega)) (by omega)
          refine x_weaken (L1 := [(0, .ref 0), (1, .int (zN (w))), (2, .int (zN (base))), (3, .int (zN (dd))), (4, .int (zN (near))), (5, .int (zN (zfin w base dd 0))), (6, .int (zN (((0 : Nat) : Int))))]) (List.forall_mem_cons.mpr ⟨(List.Mem.tail _ (List.Mem.tail _ (List.Mem.head _))), (List.forall_mem_cons.mpr ⟨(List.Mem.tail _ (List.Mem.tail _ (List.Mem.tail _ (List.Mem.head _)))), (List.forall_mem_cons.mpr ⟨(List.Mem.tail _ (List.Mem.tail _ (List.Mem.tail _ (List.Mem.tail _ (List.Mem.head _))))), (List.forall_mem_cons.mpr ⟨(List.Mem.tail _ (List.Mem.tail _ (List.Mem.tail _ (List.Mem.tail _ (List.Mem.tail _ (List.Mem.head _)))))), (List.forall_mem_cons.mpr ⟨(List.Mem.tail _ (List.Mem.tail _ (List.Mem.tail _ (List.Mem.tail _ (List.Mem.tail _ (List.Mem.tail _ (List.Mem.head _))))))), (List.forall_mem_cons.mpr ⟨(mem_ci (rfl) (List.Mem.tail _ (List.Mem.head _))), (List.forall_mem_cons.mpr ⟨(mem_ci (by omega) (List.Mem.head _)), (fun _ h => absurd h List.not_mem_nil)⟩)⟩)⟩)⟩)⟩)⟩)⟩) ?_
          exact lp67 (1000 - 0 + 1) (0) (by omega) (rfl) (Nat.lt_succ_self _)
        · skip
          refine z_if_ne (pc := 51) (tgt := 61) dX11_until_51 (by decide) (by decide) (by decide) (fun h => absurd h (by decide)) (fun _ => ?_)
          refine x_aload_n (pc := 54) dX11_until_54 (List.Mem.head _) ?_
          refine z_bipush (pc := 55) dX11_until_55 bp_m3 ?_
          refine z_callVip (pc := 57) (i := mX11_no) (S := []) [.int (zN ((-3)))] dX11_until_57 ml_X11_89 ok_X11_no rfl sh_0 rfl (Or.inl rfl) (Nat.le_of_ble_eq_true rfl) (c_X11_no (d := d) (code := ((-3))) (code1 := (by omega)) (code2 := (by omega)) (ok := ok15) (cn := (by first | assumption | omega))) (fun r25a r25b ok26 => ?_)
          show Ev _ _ _ _ _ _ _ (eh (wI H 1 ((refIx ((-3)))) (H.1 1 (refIx ((-3))) + 1)))
          refine z_ireturn (pc := 60) dX11_until_60 rfl (Or.inl rfl) ok26 (by omega) (by omega) ?_
          have e : S_until w base dd near = (-3, 1) := by unfold S_until; exact if_neg (by omega)
          rw [e]
          exact ⟨rfl, rfl⟩
      · skip
        refine z_if_eq (pc := 38) (tgt := 54) dX11_until_38 (by decide) (by decide) (by decide) (fun _ => ?_) (fun h => absurd h (by decide))
        refine x_aload_n (pc := 54) dX11_until_54 (List.Mem.head _) ?_
        refine z_bipush (pc := 55) dX11_until_55 bp_m3 ?_
        refine z_callVip (pc := 57) (i := mX11_no) (S := []) [.int (zN ((-3)))] dX11_until_57 ml_X11_89 ok_X11_no rfl sh_0 rfl (Or.inl rfl) (Nat.le_of_ble_eq_true rfl) (c_X11_no (d := d) (code := ((-3))) (code1 := (by omega)) (code2 := (by omega)) (ok := ok11) (cn := (by first | assumption | omega))) (fun r28a r28b ok29 => ?_)
        show Ev _ _ _ _ _ _ _ (eh (wI H 1 ((refIx ((-3)))) (H.1 1 (refIx ((-3))) + 1)))
        refine z_ireturn (pc := 60) dX11_until_60 rfl (Or.inl rfl) ok29 (by omega) (by omega) ?_
        have e : S_until w base dd near = (-3, 1) := by unfold S_until; exact if_neg (by omega)
        rw [e]
        exact ⟨rfl, rfl⟩
    · skip
      refine z_if_eq (pc := 26) (tgt := 54) dX11_until_26 (by decide) (by decide) (by decide) (fun _ => ?_) (fun h => absurd h (by decide))
      refine x_aload_n (pc := 54) dX11_until_54 (List.Mem.head _) ?_
      refine z_bipush (pc := 55) dX11_until_55 bp_m3 ?_
      refine z_callVip (pc := 57) (i := mX11_no) (S := []) [.int (zN ((-3)))] dX11_until_57 ml_X11_89 ok_X11_no rfl sh_0 rfl (Or.inl rfl) (Nat.le_of_ble_eq_true rfl) (c_X11_no (d := d) (code := ((-3))) (code1 := (by omega)) (code2 := (by omega)) (ok := ok7) (cn := (by first | assumption | omega))) (fun r31a r31b ok32 => ?_)
      show Ev _ _ _ _ _ _ _ (eh (wI H 1 ((refIx ((-3)))) (H.1 1 (refIx ((-3))) + 1)))
      refine z_ireturn (pc := 60) dX11_until_60 rfl (Or.inl rfl) ok32 (by omega) (by omega) ?_
      have e : S_until w base dd near = (-3, 1) := by unfold S_until; exact if_neg (by omega)
      rw [e]
      exact ⟨rfl, rfl⟩
  · skip
    refine z_if_eq (pc := 14) (tgt := 54) dX11_until_14 (by decide) (by decide) (by decide) (fun _ => ?_) (fun h => absurd h (by decide))
    refine x_aload_n (pc := 54) dX11_until_54 (List.Mem.head _) ?_
    refine z_bipush (pc := 55) dX11_until_55 bp_m3 ?_
    refine z_callVip (pc := 57) (i := mX11_no) (S := []) [.int (zN ((-3)))] dX11_until_57 ml_X11_89 ok_X11_no rfl sh_0 rfl (Or.inl rfl) (Nat.le_of_ble_eq_true rfl) (c_X11_no (d := d) (code := ((-3))) (code1 := (by omega)) (code2 := (by omega)) (ok := ok3) (cn := (by first | assumption | omega))) (fun r34a r34b ok35 => ?_)
    show Ev _ _ _ _ _ _ _ (eh (wI H 1 ((refIx ((-3)))) (H.1 1 (refIx ((-3))) + 1)))
    refine z_ireturn (pc := 60) dX11_until_60 rfl (Or.inl rfl) ok35 (by omega) (by omega) ?_
    have e : S_until w base dd near = (-3, 1) := by unfold S_until; exact if_neg (by omega)
    rw [e]
    exact ⟨rfl, rfl⟩


theorem nn2 {x y A B : Int} (h1 : 0 ≤ x) (h2 : x ≤ A) (h3 : 0 ≤ y) (h4 : y ≤ B) : 0 ≤ x * y ∧ x * y ≤ A * B := by
  refine ⟨Int.mul_nonneg h1 h3, ?_⟩
  exact Int.le_trans (Int.mul_le_mul_of_nonneg_right h2 h3) (Int.mul_le_mul_of_nonneg_left h4 (by omega))
theorem sq_bd {x A : Int} (h1 : -A ≤ x) (h2 : x ≤ A) : 0 ≤ x * x ∧ x * x ≤ A * A := by
  rcases Int.le_total 0 x with h | h
  · exact nn2 h h2 h h2
  · have := nn2 (x := -x) (y := -x) (A := A) (B := A) (by omega) (by omega) (by omega) (by omega)
    rw [Int.neg_mul_neg] at this
    exact this
/-- LOT: the first n of m tries from k on -/
def zlot (sq due : Int) : Nat → Nat → Int
  | 0, _ => -1
  | m + 1, k => if due ≤ (k : Int) * sq then (k : Int) else zlot sq due m (k + 1)
def S_lot (p q : Int) : Int × Nat := if (0 ≤ p ∧ p ≤ 1000) ∧ (0 ≤ q ∧ q ≤ 1000) then (zlot ((p - q) * (p - q)) (4 * (p * (1000 - p) + q * (1000 - q))) 9999 1, 6) else (-3, 1)
theorem zlot_none {sq due : Int} (m k : Nat) (h : ∀ j : Nat, k ≤ j → j < k + m → (j : Int) * sq < due) : zlot sq due m k = -1 := by
  induction m generalizing k with
  | zero => rfl
  | succ m ih =>
    show (if due ≤ (k : Int) * sq then (k : Int) else zlot sq due m (k + 1)) = -1
    rw [if_neg (by have := h k (by omega) (by omega); omega)]
    exact ih (k + 1) (fun j h1 h2 => h j (by omega) (by omega))
theorem zlot_at {sq due : Int} (m k n : Nat) (h1 : k ≤ n) (h2 : n < k + m) (h3 : due ≤ (n : Int) * sq) (h : ∀ j : Nat, k ≤ j → j < n → (j : Int) * sq < due) : zlot sq due m k = n := by
  induction m generalizing k with
  | zero => omega
  | succ m ih =>
    show (if due ≤ (k : Int) * sq then (k : Int) else zlot sq due m (k + 1)) = n
    by_cases e : k = n
    · subst e; rw [if_pos h3]
    · rw [if_neg (by have := h k (by omega) (by omega); omega)]
      exact ih (k + 1) (by omega) (by omega) (fun j h4 h5 => h j (by omega) h5)
/-- what the class's own way to LOT gives -/
theorem zlot_div {sq due : Int} (hs : 0 < sq) (hd : 0 < due) : zlot sq due 9999 1 = if (due + sq - 1) / sq ≤ 9999 then (due + sq - 1) / sq else -1 := by
  have hq0 : 1 ≤ (due + sq - 1) / sq := (Int.le_ediv_iff_mul_le hs).mpr (by omega)
  have hm := Int.mul_ediv_add_emod (due + sq - 1) sq
  have hr1 := Int.emod_nonneg (due + sq - 1) (show sq ≠ 0 by omega)
  have hr2 := Int.emod_lt_of_pos (due + sq - 1) hs
  generalize hn : (due + sq - 1) / sq = n at *
  have hle : due ≤ n * sq := by rw [Int.mul_comm]; omega
  have hlt : ∀ j : Int, j < n → j * sq < due := by
    intro j hj
    have h5 : j * sq ≤ (n - 1) * sq := Int.mul_le_mul_of_nonneg_right (by omega) (by omega)
    have h6 : (n - 1) * sq = n * sq - sq := by rw [Int.sub_mul, Int.one_mul]
    have h7 : n * sq = sq * n := Int.mul_comm _ _
    omega
  split
  · next h9 =>
    have e : n = (n.toNat : Int) := by omega
    rw [e]
    refine zlot_at 9999 1 n.toNat (by omega) (by omega) (by rw [← e]; exact hle) (fun j _ h2 => hlt j (by omega))
  · next h9 => exact zlot_none 9999 1 (fun j _ h2 => hlt j (by omega))
theorem zlot_0 {due : Int} (hd : 0 < due) : zlot 0 due 9999 1 = -1 := zlot_none 9999 1 (fun j _ _ => by rw [Int.mul_zero]; exact hd)
theorem zlot_s (sq due : Int) (m k : Nat) : zlot sq due (m + 1) k = if due ≤ (k : Int) * sq then (k : Int) else zlot sq due m (k + 1) := rfl
theorem zlot_1 {sq : Int} (hs : 0 ≤ sq) : zlot sq 0 9999 1 = 1 := by
  rw [show (9999 : Nat) = 9998 + 1 from rfl, zlot_s, if_pos (by rw [show ((1 : Nat) : Int) = 1 from rfl, Int.one_mul]; exact hs)]
  rfl
def S_shown (a n b m : Int) : Int × Nat := if ((1 ≤ n ∧ n ≤ 300) ∧ (1 ≤ m ∧ m ≤ 300)) ∧ (0 ≤ a ∧ a ≤ n) ∧ (0 ≤ b ∧ b ≤ m) then ((if ((a * m) - (b * n)) ≠ 0 ∧ 4 * (((((a * (n - a)) * m) * m) * m) + ((((b * (m - b)) * n) * n) * n)) ≤ (((((a * m) - (b * n)) * ((a * m) - (b * n))) * n) * m) then 1 else 0), 6) else (-3, 1)
theorem shown_bd {a n b m : Int} (h1 : 1 ≤ n) (h2 : n ≤ 300) (h3 : 1 ≤ m) (h4 : m ≤ 300) (h5 : 0 ≤ a) (h6 : a ≤ n) (h7 : 0 ≤ b) (h8 : b ≤ m) :
    (0 ≤ a * m ∧ a * m ≤ 90000) ∧ (0 ≤ b * n ∧ b * n ≤ 90000) ∧
    (0 ≤ (((((a * m) - (b * n)) * ((a * m) - (b * n))) * n) * m) ∧ (((((a * m) - (b * n)) * ((a * m) - (b * n))) * n) * m) ≤ 729000000000000) ∧
    (0 ≤ ((((a * (n - a)) * m) * m) * m) ∧ ((((a * (n - a)) * m) * m) * m) ≤ 2430000000000) ∧ (0 ≤ ((((b * (m - b)) * n) * n) * n) ∧ ((((b * (m - b)) * n) * n) * n) ≤ 2430000000000) := by
  have e1 := nn2 (x := a) (y := m) (A := 300) (B := 300) h5 (by omega) (by omega) h4
  have e2 := nn2 (x := b) (y := n) (A := 300) (B := 300) h7 (by omega) (by omega) h2
  have e3 := sq_bd (x := (a * m) - (b * n)) (A := 90000) (by omega) (by omega)
  have e4 := nn2 (y := n) (B := 300) e3.1 e3.2 (by omega) h2
  have e5 := nn2 (y := m) (B := 300) e4.1 e4.2 (by omega) h4
  have f1 := nn2 (x := a) (y := n - a) (A := 300) (B := 300) h5 (by omega) (by omega) (by omega)
  have f2 := nn2 (y := m) (B := 300) f1.1 f1.2 (by omega) h4
  have f3 := nn2 (y := m) (B := 300) f2.1 f2.2 (by omega) h4
  have f4 := nn2 (y := m) (B := 300) f3.1 f3.2 (by omega) h4
  have g1 := nn2 (x := b) (y := m - b) (A := 300) (B := 300) h7 (by omega) (by omega) (by omega)
  have g2 := nn2 (y := n) (B := 300) g1.1 g1.2 (by omega) h2
  have g3 := nn2 (y := n) (B := 300) g2.1 g2.2 (by omega) h2
  have g4 := nn2 (y := n) (B := 300) g3.1 g3.2 (by omega) h2
  refine ⟨by omega, by omega, by omega, by omega, by omega⟩
/-- a car behind the next one: THANKS -/
def zthk (v t a b : Int) : Int := ((v * t) * a + (100000000 - v * t) * b) / 10000
def zths (s t a b : Int) : Nat → Int
  | 0 => s
  | n + 1 => zthk (zths s t a b n) t a b
theorem zthk_bd {v t a b : Int} (h1 : 0 ≤ v) (h2 : v ≤ 1000000) (h3 : 0 ≤ t) (h4 : t ≤ 100) (h5 : 0 ≤ a) (h6 : a ≤ 100) (h7 : 0 ≤ b) (h8 : b ≤ 100) : (0 ≤ v * t ∧ v * t ≤ 100000000) ∧ (0 ≤ (v * t) * a ∧ (v * t) * a ≤ (v * t) * 100) ∧ (0 ≤ (100000000 - v * t) * b ∧ (100000000 - v * t) * b ≤ (100000000 - v * t) * 100) ∧ (0 ≤ zthk v t a b ∧ zthk v t a b ≤ 1000000) := by
  have e1 := nn2 (x := v) (y := t) (A := 1000000) (B := 100) h1 h2 h3 h4
  have e2 : 0 ≤ (v * t) * a := Int.mul_nonneg e1.1 h5
  have e3 : (v * t) * a ≤ (v * t) * 100 := Int.mul_le_mul_of_nonneg_left h6 e1.1
  have e4 : 0 ≤ (100000000 - v * t) * b := Int.mul_nonneg (by omega) h7
  have e5 : (100000000 - v * t) * b ≤ (100000000 - v * t) * 100 := Int.mul_le_mul_of_nonneg_left h8 (by omega)
  unfold zthk
  refine ⟨by omega, by omega, by omega, by omega⟩
theorem zths_bd {s t a b : Int} (h1 : 0 ≤ s) (h2 : s ≤ 1000000) (h3 : 0 ≤ t) (h4 : t ≤ 100) (h5 : 0 ≤ a) (h6 : a ≤ 100) (h7 : 0 ≤ b) (h8 : b ≤ 100) (n : Nat) : 0 ≤ zths s t a b n ∧ zths s t a b n ≤ 1000000 := by
  induction n with
  | zero => exact ⟨h1, h2⟩
  | succ n ih => exact (zthk_bd ih.1 ih.2 h3 h4 h5 h6 h7 h8).2.2.2
def S_thanks (s t a b n : Int) : Int × Nat := if (0 ≤ s ∧ s ≤ 1000000) ∧ (0 ≤ t ∧ t ≤ 100) ∧ (0 ≤ a ∧ a ≤ 100) ∧ (0 ≤ b ∧ b ≤ 100) ∧ (0 ≤ n ∧ n ≤ 99) then (zths s t a b n.toNat, 6) else (-3, 1)
/-- LAMP: a pair of cycle and green after the others -/
def zlv (ca wa c g : Int) : Int := ((ca * g) * g) + ((wa * (c - g)) * (c - g))
def zlst (ca wa c g : Int) (q : Int × Int × Int) : Int × Int × Int := if q.1 = 0 ∨ zlv ca wa c g * q.1 < q.2.2 * c then (c, g, zlv ca wa c g) else q
def zlin (ca wa c : Int) : Nat → Int × Int × Int → Int × Int × Int
  | 0, q => q
  | n + 1, q => zlst ca wa c (5 + (n : Int)) (zlin ca wa c n q)
def zlout (ca wa : Int) : Nat → Int × Int × Int
  | 0 => (0, 0, 0)
  | n + 1 => zlin ca wa (20 + (n : Int)) (n + 6) (zlout ca wa n)
def zlok (q : Int × Int × Int) : Prop := (0 ≤ q.1 ∧ q.1 ≤ 120) ∧ (0 ≤ q.2.1 ∧ q.2.1 ≤ 120) ∧ (0 ≤ q.2.2 ∧ q.2.2 ≤ 28771200)
theorem zlv_bd {ca wa c g : Int} (h1 : 0 ≤ ca) (h2 : ca ≤ 999) (h3 : 0 ≤ wa) (h4 : wa ≤ 999) (h5 : 0 ≤ g) (h6 : g ≤ c) (h7 : c ≤ 120) : (0 ≤ ca * g ∧ ca * g ≤ 119880) ∧ (0 ≤ (ca * g) * g ∧ (ca * g) * g ≤ 14385600) ∧ (0 ≤ wa * (c - g) ∧ wa * (c - g) ≤ 119880) ∧ (0 ≤ (wa * (c - g)) * (c - g) ∧ (wa * (c - g)) * (c - g) ≤ 14385600) := by
  have e1 := nn2 (x := ca) (y := g) (A := 999) (B := 120) h1 h2 h5 (by omega)
  have e2 := nn2 (y := g) (B := 120) e1.1 e1.2 h5 (by omega)
  have e3 := nn2 (x := wa) (y := c - g) (A := 999) (B := 120) h3 h4 (by omega) (by omega)
  have e4 := nn2 (y := c - g) (B := 120) e3.1 e3.2 (by omega) (by omega)
  refine ⟨by omega, by omega, by omega, by omega⟩
theorem zlst_ok {ca wa c g : Int} {q : Int × Int × Int} (h1 : 0 ≤ ca) (h2 : ca ≤ 999) (h3 : 0 ≤ wa) (h4 : wa ≤ 999) (h5 : 0 ≤ g) (h6 : g ≤ c) (h7 : c ≤ 120) (hq : zlok q) : zlok (zlst ca wa c g q) := by
  have e := zlv_bd h1 h2 h3 h4 h5 h6 h7
  unfold zlst
  split
  · unfold zlok zlv; refine ⟨⟨?_, ?_⟩, ⟨?_, ?_⟩, ?_, ?_⟩ <;> dsimp only <;> omega
  · exact hq
theorem zlin_ok {ca wa c : Int} {q : Int × Int × Int} (h1 : 0 ≤ ca) (h2 : ca ≤ 999) (h3 : 0 ≤ wa) (h4 : wa ≤ 999) (h7 : c ≤ 120) (hq : zlok q) (n : Nat) (hn : 4 + (n : Int) ≤ c) : zlok (zlin ca wa c n q) := by
  induction n with
  | zero => exact hq
  | succ n ih => exact zlst_ok h1 h2 h3 h4 (by omega) (by omega) h7 (ih (by omega))
theorem zlout_ok {ca wa : Int} (h1 : 0 ≤ ca) (h2 : ca ≤ 999) (h3 : 0 ≤ wa) (h4 : wa ≤ 999) (n : Nat) (hn : n ≤ 101) : zlok (zlout ca wa n) := by
  induction n with
  | zero => unfold zlok zlout; decide
  | succ n ih => exact zlin_ok h1 h2 h3 h4 (by omega) (ih (by omega)) (n + 6) (by omega)
theorem zgcd_pot {x y : Int} {k : Nat} (hx : 0 ≤ x ∧ x ≤ 4611686018427387904) (hy : 0 ≤ y ∧ y ≤ 4611686018427387904) (hp : k = 0 ∨ (y < x ∧ ∃ c : Nat, c + k = 128 ∧ x * y < 2 ^ c) ∨ y = 0) (h0 : y ≠ 0) : k + 1 = 0 ∨ (x % y < y ∧ ∃ c : Nat, c + (k + 1) = 128 ∧ y * (x % y) < 2 ^ c) ∨ x % y = 0 := by
  have h1 := Int.emod_nonneg x h0
  have h2 := Int.emod_lt_of_pos x (show 0 < y by omega)
  rcases hp with q | ⟨q0, c, q1, q2⟩ | q
  · refine Or.inr (Or.inl ⟨h2, 127, by omega, ?_⟩)
    have h3 := nn2 (x := y) (y := x % y) (A := 4611686018427387904) (B := 4611686018427387904) hy.1 hy.2 h1 (by omega)
    have h4 : (4611686018427387904 : Int) * 4611686018427387904 < 2 ^ 127 := by decide
    omega
  · rcases Nat.eq_zero_or_pos c with hc | hc
    · subst hc
      have h3 : 1 ≤ x * y := Int.mul_pos (by omega) (by omega)
      rw [Int.pow_zero] at q2
      omega
    · refine Or.inr (Or.inl ⟨h2, c - 1, by omega, ?_⟩)
      have h3 : 2 * (x % y) ≤ x := by
        have h5 := Int.mul_ediv_add_emod x y
        have h6 : 1 ≤ x / y := (Int.le_ediv_iff_mul_le (by omega)).mpr (by omega)
        have h7 : y * 1 ≤ y * (x / y) := Int.mul_le_mul_of_nonneg_left h6 hy.1
        omega
      have h8 : y * (2 * (x % y)) ≤ y * x := Int.mul_le_mul_of_nonneg_left h3 hy.1
      have h9 : y * (2 * (x % y)) = 2 * (y * (x % y)) := by rw [← Int.mul_assoc, Int.mul_comm y 2, Int.mul_assoc]
      have h10 : y * x = x * y := Int.mul_comm _ _
      have h11 : (2 : Int) ^ c = 2 ^ (c - 1) * 2 := by
        obtain ⟨e, rfl⟩ : ∃ e, c = e + 1 := ⟨c - 1, by omega⟩
        rw [Int.pow_succ, Nat.add_sub_cancel]
      omega
  · omega
theorem zgcd_end {x y : Int} {k c : Nat} (hx : 0 ≤ x ∧ x ≤ 4611686018427387904) (hy : 0 ≤ y ∧ y ≤ 4611686018427387904) (hk : 200 ≤ k) (h1 : c + k = 128) (h2 : x * y < 2 ^ c) : y = 0 := by omega
def S_lamp (ca wa what : Int) : Int × Nat := if 0 ≤ what ∧ what ≤ 1 then (if (0 ≤ ca ∧ ca ≤ 999) ∧ (0 ≤ wa ∧ wa ≤ 999) then ((if what = 0 then (zlout ca wa 101).1 else (zlout ca wa 101).2.1), 6) else (-3, 1)) else (-2, 0)
theorem zgcd_step {x y : Int} (h1 : 0 ≤ x) (h2 : 0 < y) : Int.gcd y (x % y) = Int.gcd x y := by
  obtain ⟨m, rfl⟩ := Int.eq_ofNat_of_zero_le h1
  obtain ⟨n, rfl⟩ := Int.eq_ofNat_of_zero_le (show 0 ≤ y by omega)
  show Nat.gcd n ((m : Int) % (n : Int)).natAbs = Nat.gcd m n
  rw [← Int.natCast_emod, Int.natAbs_natCast, Nat.gcd_comm n, ← Nat.gcd_rec n m, Nat.gcd_comm]

theorem c_X10_lot {d : Nat} {H : ZH} (ok : okZ H) {p q : Int} (p1 : -2147483648 ≤ p) (p2 : p ≤ 2147483647) (q1 : -2147483648 ≤ q) (q2 : q ≤ 2147483647) (cn : cntOK H 25) : EvC zX (d + 2) mX10_lot [.ref 20, .int (zN (p)), .int (zN (q))] (eh H) (zPi (fun (r : Int) (H1 : ZH) => r = (S_lot p q).1 ∧ H1 = bumpC (S_lot p q).2 H)) := by
  show _ ∧ Ev zX mX10_lot (EvC zX (d + 1)) (zPi (fun (r : Int) (H1 : ZH) => r = (S_lot p q).1 ∧ H1 = bumpC (S_lot p q).2 H)) 0 [(0, .ref 20), (1, .int (zN (p))), (2, .int (zN (q)))] [] (eh H)
  refine ⟨Nat.le_of_ble_eq_true rfl, ?_⟩
  refine x_iload_n (pc := 0) dX10_lot_0 (List.Mem.tail _ (List.Mem.head _)) ?_
  refine z_sipush (pc := 1) dX10_lot_1 sp_1000 ?_
  refine z_callSbp (pc := 4) (i := mX10_isWithin) (S := []) [.int (zN (p)), .int (zN (1000))] dX10_lot_4 ml_X10_302 ok_X10_isWithin rfl (Or.inr rfl) (Nat.le_of_ble_eq_true rfl) (c_X10_isWithin (d := d) (v := p) (hi := 1000) (v1 := (by omega)) (v2 := (by omega)) (hi1 := (by omega)) (hi2 := (by omega)) (ok := ok)) (fun hc3 ok2 => ?_) (fun hc3 ok2 => ?_)
  · skip
    refine z_if_eq (pc := 7) (tgt := 20) dX10_lot_7 (by decide) (by decide) (by decide) (fun h => absurd h (by decide)) (fun _ => ?_)
    refine x_iload_n (pc := 10) dX10_lot_10 (List.Mem.tail _ (List.Mem.tail _ (List.Mem.head _))) ?_
    refine z_sipush (pc := 11) dX10_lot_11 sp_1000 ?_
    refine z_callSbp (pc := 14) (i := mX10_isWithin) (S := []) [.int (zN (q)), .int (zN (1000))] dX10_lot_14 ml_X10_302 ok_X10_isWithin rfl (Or.inr rfl) (Nat.le_of_ble_eq_true rfl) (c_X10_isWithin (d := d) (v := q) (hi := 1000) (v1 := (by omega)) (v2 := (by omega)) (hi1 := (by omega)) (hi2 := (by omega)) (ok := ok2)) (fun hc7 ok6 => ?_) (fun hc7 ok6 => ?_)
    · skip
      refine z_if_ne (pc := 17) (tgt := 27) dX10_lot_17 (by decide) (by decide) (by decide) (fun _ => ?_) (fun h => absurd h (by decide))
      have e1 := sq_bd (x := p - q) (A := 1000) (by omega) (by omega)
      have e2 := nn2 (x := p) (y := 1000 - p) (A := 1000) (B := 1000) (by omega) (by omega) (by omega) (by omega)
      have e3 := nn2 (x := q) (y := 1000 - q) (A := 1000) (B := 1000) (by omega) (by omega) (by omega) (by omega)
      refine x_iload_n (pc := 27) dX10_lot_27 (List.Mem.tail _ (List.Mem.head _)) ?_
      refine x_iload_n (pc := 28) dX10_lot_28 (List.Mem.tail _ (List.Mem.tail _ (List.Mem.head _))) ?_
      refine z_isub (pc := 29) dX10_lot_29 ?_
      refine x_iload_n (pc := 30) dX10_lot_30 (List.Mem.tail _ (List.Mem.head _)) ?_
      refine x_iload_n (pc := 31) dX10_lot_31 (List.Mem.tail _ (List.Mem.tail _ (List.Mem.head _))) ?_
      refine z_isub (pc := 32) dX10_lot_32 ?_
      refine z_imul (pc := 33) dX10_lot_33 ?_
      refine x_istore_n (pc := 34) dX10_lot_34 (Nat.le_of_ble_eq_true rfl) ?_
      show Ev _ _ _ _ _ [(3, .int (zN (((p - q) * (p - q))))), (0, .ref 20), (1, .int (zN (p))), (2, .int (zN (q)))] _ _
      refine z_iconst (pc := 35) dX10_lot_35 ?_
      refine x_iload_n (pc := 36) dX10_lot_36 (List.Mem.tail _ (List.Mem.tail _ (List.Mem.head _))) ?_
      refine z_sipush (pc := 37) dX10_lot_37 sp_1000 ?_
      refine x_iload_n (pc := 40) dX10_lot_40 (List.Mem.tail _ (List.Mem.tail _ (List.Mem.head _))) ?_
      refine z_isub (pc := 41) dX10_lot_41 ?_
      refine z_imul (pc := 42) dX10_lot_42 ?_
      refine x_iload_n (pc := 43) dX10_lot_43 (List.Mem.tail _ (List.Mem.tail _ (List.Mem.tail _ (List.Mem.head _)))) ?_
      refine z_sipush (pc := 44) dX10_lot_44 sp_1000 ?_
      refine x_iload_n (pc := 47) dX10_lot_47 (List.Mem.tail _ (List.Mem.tail _ (List.Mem.tail _ (List.Mem.head _)))) ?_
      refine z_isub (pc := 48) dX10_lot_48 ?_
      refine z_imul (pc := 49) dX10_lot_49 ?_
      refine z_iadd (pc := 50) dX10_lot_50 ?_
      refine z_imul (pc := 51) dX10_lot_51 ?_
      refine x_istore (pc := 52) dX10_lot_52 (Nat.le_of_ble_eq_true rfl) ?_
      show Ev _ _ _ _ _ [(4, .int (zN ((4 * ((p * (1000 - p)) + (q * (1000 - q))))))), (3, .int (zN (((p - q) * (p - q))))), (0, .ref 20), (1, .int (zN (p))), (2, .int (zN (q)))] _ _
      refine x_iload (pc := 54) dX10_lot_54 (List.Mem.head _) ?_
      refine z_if_ne (pc := 56) (tgt := 61) dX10_lot_56 (by decide) (by omega) (by omega) (fun hb9 => ?_) (fun hb9 => ?_)
      · skip
        refine x_iload_n (pc := 61) dX10_lot_61 (List.Mem.tail _ (List.Mem.head _)) ?_
        refine z_if_ne (pc := 62) (tgt := 67) dX10_lot_62 (by decide) (by omega) (by omega) (fun hb10 => ?_) (fun hb10 => ?_)
        · skip
          refine x_iload (pc := 67) dX10_lot_67 (List.Mem.head _) ?_
          refine x_iload_n (pc := 69) dX10_lot_69 (List.Mem.tail _ (List.Mem.head _)) ?_
          refine z_iadd (pc := 70) dX10_lot_70 ?_
          refine z_iconst (pc := 71) dX10_lot_71 ?_
          refine z_isub (pc := 72) dX10_lot_72 ?_
          refine x_iload_n (pc := 73) dX10_lot_73 (List.Mem.tail _ (List.Mem.head _)) ?_
          refine z_idivP (pc := 74) dX10_lot_74 (by omega) (by omega) (by omega) (by omega) ?_
          have e5 := Int.ediv_nonneg (a := 4 * (p * (1000 - p) + q * (1000 - q)) + (p - q) * (p - q) - 1) (b := (p - q) * (p - q)) (by omega) (by omega)
          have e6 := Int.ediv_le_self (a := 4 * (p * (1000 - p) + q * (1000 - q)) + (p - q) * (p - q) - 1) ((p - q) * (p - q)) (by omega)
          refine x_istore (pc := 75) dX10_lot_75 (Nat.le_of_ble_eq_true rfl) ?_
          show Ev _ _ _ _ _ [(5, .int (zN (((((4 * ((p * (1000 - p)) + (q * (1000 - q)))) + ((p - q) * (p - q))) - 1) / ((p - q) * (p - q)))))), (4, .int (zN ((4 * ((p * (1000 - p)) + (q * (1000 - q))))))), (3, .int (zN (((p - q) * (p - q))))), (0, .ref 20), (1, .int (zN (p))), (2, .int (zN (q)))] _ _
          refine x_iload (pc := 77) dX10_lot_77 (List.Mem.head _) ?_
          refine z_sipush (pc := 79) dX10_lot_79 sp_9999 ?_
          refine z_icmp_gt (pc := 82) (tgt := 90) dX10_lot_82 (by decide) (by omega) (by omega) (by decide) (by decide) (fun hb11 => ?_) (fun hb11 => ?_)
          · skip
            refine z_iconst (pc := 90) dX10_lot_90 ?_
            refine z_ireturn (pc := 91) dX10_lot_91 rfl (Or.inl rfl) ok6 (by decide) (by decide) ?_
            have e : S_lot p q = (zlot ((p - q) * (p - q)) (4 * (p * (1000 - p) + q * (1000 - q))) 9999 1, 6) := by unfold S_lot; exact if_pos (by omega)
            rw [e]
            exact ⟨by rw [zlot_div (by omega) (by omega)]; first | exact (if_pos (by omega)).symm | exact (if_neg (by omega)).symm, rfl⟩
          · skip
            refine x_iload (pc := 85) dX10_lot_85 (List.Mem.head _) ?_
            refine x_goto (pc := 87) (tgt := 91) dX10_lot_87 (by decide) ?_
            refine z_ireturn (pc := 91) dX10_lot_91 rfl (Or.inl rfl) ok6 (by omega) (by omega) ?_
            have e : S_lot p q = (zlot ((p - q) * (p - q)) (4 * (p * (1000 - p) + q * (1000 - q))) 9999 1, 6) := by unfold S_lot; exact if_pos (by omega)
            rw [e]
            exact ⟨by rw [zlot_div (by omega) (by omega)]; first | exact (if_pos (by omega)).symm | exact (if_neg (by omega)).symm, rfl⟩
        · skip
          have hbS := hb10
          refine z_iconst (pc := 65) dX10_lot_65 ?_
          refine z_ireturn (pc := 66) dX10_lot_66 rfl (Or.inl rfl) ok6 (by decide) (by decide) ?_
          have e : S_lot p q = (zlot ((p - q) * (p - q)) (4 * (p * (1000 - p) + q * (1000 - q))) 9999 1, 6) := by unfold S_lot; exact if_pos (by omega)
          rw [e]
          exact ⟨by rw [hbS, zlot_0 (by omega)], rfl⟩
      · skip
        have hbD := hb9
        refine z_iconst (pc := 59) dX10_lot_59 ?_
        refine z_ireturn (pc := 60) dX10_lot_60 rfl (Or.inl rfl) ok6 (by decide) (by decide) ?_
        have e : S_lot p q = (zlot ((p - q) * (p - q)) (4 * (p * (1000 - p) + q * (1000 - q))) 9999 1, 6) := by unfold S_lot; exact if_pos (by omega)
        rw [e]
        exact ⟨by rw [hbD, zlot_1 e1.1], rfl⟩
    · skip
      refine z_if_ne (pc := 17) (tgt := 27) dX10_lot_17 (by decide) (by decide) (by decide) (fun h => absurd h (by decide)) (fun _ => ?_)
      refine x_aload_n (pc := 20) dX10_lot_20 (List.Mem.head _) ?_
      refine z_bipush (pc := 21) dX10_lot_21 bp_m3 ?_
      refine z_callVip (pc := 23) (i := mX10_refuse) (S := []) [.int (zN ((-3)))] dX10_lot_23 ml_X10_97 ok_X10_refuse rfl sh_20 rfl (Or.inl rfl) (Nat.le_of_ble_eq_true rfl) (c_X10_refuse (d := d) (code := ((-3))) (code1 := (by omega)) (code2 := (by omega)) (ok := ok6) (cn := (by first | assumption | omega))) (fun r13a r13b ok14 => ?_)
      show Ev _ _ _ _ _ _ _ (eh (wI H 25 ((refIx ((-3)))) (H.1 25 (refIx ((-3))) + 1)))
      refine z_ireturn (pc := 26) dX10_lot_26 rfl (Or.inl rfl) ok14 (by omega) (by omega) ?_
      have e : S_lot p q = (-3, 1) := by unfold S_lot; exact if_neg (by omega)
      rw [e]
      exact ⟨rfl, rfl⟩
  · skip
    refine z_if_eq (pc := 7) (tgt := 20) dX10_lot_7 (by decide) (by decide) (by decide) (fun _ => ?_) (fun h => absurd h (by decide))
    refine x_aload_n (pc := 20) dX10_lot_20 (List.Mem.head _) ?_
    refine z_bipush (pc := 21) dX10_lot_21 bp_m3 ?_
    refine z_callVip (pc := 23) (i := mX10_refuse) (S := []) [.int (zN ((-3)))] dX10_lot_23 ml_X10_97 ok_X10_refuse rfl sh_20 rfl (Or.inl rfl) (Nat.le_of_ble_eq_true rfl) (c_X10_refuse (d := d) (code := ((-3))) (code1 := (by omega)) (code2 := (by omega)) (ok := ok2) (cn := (by first | assumption | omega))) (fun r16a r16b ok17 => ?_)
    show Ev _ _ _ _ _ _ _ (eh (wI H 25 ((refIx ((-3)))) (H.1 25 (refIx ((-3))) + 1)))
    refine z_ireturn (pc := 26) dX10_lot_26 rfl (Or.inl rfl) ok17 (by omega) (by omega) ?_
    have e : S_lot p q = (-3, 1) := by unfold S_lot; exact if_neg (by omega)
    rw [e]
    exact ⟨rfl, rfl⟩

theorem c_X11_lot {d : Nat} {H : ZH} (ok : okZ H) {p q : Int} (p1 : -2147483648 ≤ p) (p2 : p ≤ 2147483647) (q1 : -2147483648 ≤ q) (q2 : q ≤ 2147483647) (cm : cntOK H 1) (th : H.1 0 0 = 0) : EvC zX (d + 2) mX11_lot [.ref 0, .int (zN (p)), .int (zN (q))] (eh H) (zPi (fun (r : Int) (H1 : ZH) => r = (S_lot p q).1 ∧ H1 = bumpM (S_lot p q).2 H)) := by
  show _ ∧ Ev zX mX11_lot (EvC zX (d + 1)) (zPi (fun (r : Int) (H1 : ZH) => r = (S_lot p q).1 ∧ H1 = bumpM (S_lot p q).2 H)) 0 [(0, .ref 0), (1, .int (zN (p))), (2, .int (zN (q)))] [] (eh H)
  refine ⟨Nat.le_of_ble_eq_true rfl, ?_⟩
  refine x_aload_n (pc := 0) dX11_lot_0 (List.Mem.head _) ?_
  refine z_iconst (pc := 1) dX11_lot_1 ?_
  refine z_putI (pc := 2) (k := 0) dX11_lot_2 lp_X11_1 sh_0 rfl ?_
  have ok1 := okI ok 0 0 (v := 0) (by decide) (by decide)
  rw [wI_same th]
  refine x_iload_n (pc := 5) dX11_lot_5 (List.Mem.tail _ (List.Mem.head _)) ?_
  refine z_i2l (pc := 6) dX11_lot_6 (by omega) (by omega) ?_
  refine z_lconst (pc := 7) 0 dX11_lot_7 rfl ?_
  refine z_ldc2_w (pc := 8) 1000 dX11_lot_8 cl_X11_306 (by decide) ?_
  refine z_callSbp (pc := 11) (i := mX11_within) (S := []) [.long (zL (p)), .long (zL (0)), .long (zL (1000))] dX11_lot_11 ml_X11_152 ok_X11_within rfl (Or.inr rfl) (Nat.le_of_ble_eq_true rfl) (c_X11_within (d := d) (v := p) (lo := 0) (hi := 1000) (v1 := (by omega)) (v2 := (by omega)) (lo1 := (by omega)) (lo2 := (by omega)) (hi1 := (by omega)) (hi2 := (by omega)) (ok := ok)) (fun hc4 ok3 => ?_) (fun hc4 ok3 => ?_)
  · skip
    refine z_if_eq (pc := 14) (tgt := 29) dX11_lot_14 (by decide) (by decide) (by decide) (fun h => absurd h (by decide)) (fun _ => ?_)
    refine x_iload_n (pc := 17) dX11_lot_17 (List.Mem.tail _ (List.Mem.tail _ (List.Mem.head _))) ?_
    refine z_i2l (pc := 18) dX11_lot_18 (by omega) (by omega) ?_
    refine z_lconst (pc := 19) 0 dX11_lot_19 rfl ?_
    refine z_ldc2_w (pc := 20) 1000 dX11_lot_20 cl_X11_306 (by decide) ?_
    refine z_callSbp (pc := 23) (i := mX11_within) (S := []) [.long (zL (q)), .long (zL (0)), .long (zL (1000))] dX11_lot_23 ml_X11_152 ok_X11_within rfl (Or.inr rfl) (Nat.le_of_ble_eq_true rfl) (c_X11_within (d := d) (v := q) (lo := 0) (hi := 1000) (v1 := (by omega)) (v2 := (by omega)) (lo1 := (by omega)) (lo2 := (by omega)) (hi1 := (by omega)) (hi2 := (by omega)) (ok := ok3)) (fun hc8 ok7 => ?_) (fun hc8 ok7 => ?_)
    · skip
      refine z_if_ne (pc := 26) (tgt := 36) dX11_lot_26 (by decide) (by decide) (by decide) (fun _ => ?_) (fun h => absurd h (by decide))
      have e1 := sq_bd (x := p - q) (A := 1000) (by omega) (by omega)
      have e2 := nn2 (x := p) (y := 1000 - p) (A := 1000) (B := 1000) (by omega) (by omega) (by omega) (by omega)
      have e3 := nn2 (x := q) (y := 1000 - q) (A := 1000) (B := 1000) (by omega) (by omega) (by omega) (by omega)
      refine x_iload_n (pc := 36) dX11_lot_36 (List.Mem.tail _ (List.Mem.head _)) ?_
      refine x_iload_n (pc := 37) dX11_lot_37 (List.Mem.tail _ (List.Mem.tail _ (List.Mem.head _))) ?_
      refine z_isub (pc := 38) dX11_lot_38 ?_
      refine z_i2l (pc := 39) dX11_lot_39 (by omega) (by omega) ?_
      refine x_iload_n (pc := 40) dX11_lot_40 (List.Mem.tail _ (List.Mem.head _)) ?_
      refine x_iload_n (pc := 41) dX11_lot_41 (List.Mem.tail _ (List.Mem.tail _ (List.Mem.head _))) ?_
      refine z_isub (pc := 42) dX11_lot_42 ?_
      refine z_i2l (pc := 43) dX11_lot_43 (by omega) (by omega) ?_
      refine z_lmul (pc := 44) dX11_lot_44 ?_
      refine x_lstore_n (pc := 45) dX11_lot_45 (Nat.le_of_ble_eq_true rfl) ?_
      show Ev _ _ _ _ _ [(3, .long (zL (((p - q) * (p - q))))), (0, .ref 0), (1, .int (zN (p))), (2, .int (zN (q)))] _ _
      refine z_ldc2_w (pc := 46) 4 dX11_lot_46 cl_X11_361 (by decide) ?_
      refine x_iload_n (pc := 49) dX11_lot_49 (List.Mem.tail _ (List.Mem.tail _ (List.Mem.head _))) ?_
      refine z_sipush (pc := 50) dX11_lot_50 sp_1000 ?_
      refine x_iload_n (pc := 53) dX11_lot_53 (List.Mem.tail _ (List.Mem.tail _ (List.Mem.head _))) ?_
      refine z_isub (pc := 54) dX11_lot_54 ?_
      refine z_imul (pc := 55) dX11_lot_55 ?_
      refine x_iload_n (pc := 56) dX11_lot_56 (List.Mem.tail _ (List.Mem.tail _ (List.Mem.tail _ (List.Mem.head _)))) ?_
      refine z_sipush (pc := 57) dX11_lot_57 sp_1000 ?_
      refine x_iload_n (pc := 60) dX11_lot_60 (List.Mem.tail _ (List.Mem.tail _ (List.Mem.tail _ (List.Mem.head _)))) ?_
      refine z_isub (pc := 61) dX11_lot_61 ?_
      refine z_imul (pc := 62) dX11_lot_62 ?_
      refine z_iadd (pc := 63) dX11_lot_63 ?_
      refine z_i2l (pc := 64) dX11_lot_64 (by omega) (by omega) ?_
      refine z_lmul (pc := 65) dX11_lot_65 ?_
      refine x_lstore (pc := 66) dX11_lot_66 (Nat.le_of_ble_eq_true rfl) ?_
      show Ev _ _ _ _ _ [(5, .long (zL ((4 * ((p * (1000 - p)) + (q * (1000 - q))))))), (3, .long (zL (((p - q) * (p - q))))), (0, .ref 0), (1, .int (zN (p))), (2, .int (zN (q)))] _ _
      refine z_iconst (pc := 68) dX11_lot_68 ?_
      refine x_istore (pc := 69) dX11_lot_69 (Nat.le_of_ble_eq_true rfl) ?_
      show Ev _ _ _ _ _ [(7, .int (zN (1))), (5, .long (zL ((4 * ((p * (1000 - p)) + (q * (1000 - q))))))), (3, .long (zL (((p - q) * (p - q))))), (0, .ref 0), (1, .int (zN (p))), (2, .int (zN (q)))] _ _
      have lp71 : ∀ (nF : Nat) (k : Nat), (1 ≤ k ∧ k ≤ 10000) → (zlot ((p - q) * (p - q)) (4 * (p * (1000 - p) + q * (1000 - q))) 9999 1 = zlot ((p - q) * (p - q)) (4 * (p * (1000 - p) + q * (1000 - q))) (10000 - k) k) → 10000 - k < nF → Ev zX mX11_lot (EvC zX (d + 1)) (zPi (fun (r : Int) (H1 : ZH) => r = (S_lot p q).1 ∧ H1 = bumpM (S_lot p q).2 H)) 71 [(0, .ref 0), (1, .int (zN (p))), (2, .int (zN (q))), (3, .long (zL (((p - q) * (p - q))))), (5, .long (zL ((4 * ((p * (1000 - p)) + (q * (1000 - q))))))), (7, .int (zN ((k : Int))))] [] (eh H) := by
        intro nF
        induction nF with
        | zero => intro k hk hz hm; exact absurd hm (Nat.not_lt_zero _)
        | succ nF ih71 =>
          intro k hk hz hm
          have e4 := nn2 (x := (k : Int)) (y := (p - q) * (p - q)) (A := 10000) (B := 1000000) (by omega) (by omega) (by omega) (by omega)
          refine x_iload (pc := 71) dX11_lot_71 (List.Mem.tail _ (List.Mem.tail _ (List.Mem.tail _ (List.Mem.tail _ (List.Mem.tail _ (List.Mem.head _)))))) ?_
          refine z_sipush (pc := 73) dX11_lot_73 sp_9999 ?_
          refine z_icmp_gt (pc := 76) (tgt := 99) dX11_lot_76 (by decide) (by omega) (by omega) (by decide) (by decide) (fun hb10 => ?_) (fun hb10 => ?_)
          · skip
            refine z_iconst (pc := 99) dX11_lot_99 ?_
            refine z_ireturn (pc := 100) dX11_lot_100 rfl (Or.inl rfl) ok7 (by decide) (by decide) ?_
            have ek : k = 10000 := by omega
            have e : S_lot p q = (zlot ((p - q) * (p - q)) (4 * (p * (1000 - p) + q * (1000 - q))) 9999 1, 6) := by unfold S_lot; exact if_pos (by omega)
            rw [e]
            exact ⟨by rw [hz, ek]; rfl, rfl⟩
          · skip
            refine x_iload (pc := 79) dX11_lot_79 (List.Mem.tail _ (List.Mem.tail _ (List.Mem.tail _ (List.Mem.tail _ (List.Mem.tail _ (List.Mem.head _)))))) ?_
            refine z_i2l (pc := 81) dX11_lot_81 (by omega) (by omega) ?_
            refine x_lload_n (pc := 82) dX11_lot_82 (List.Mem.tail _ (List.Mem.tail _ (List.Mem.tail _ (List.Mem.head _)))) ?_
            refine z_lmul (pc := 83) dX11_lot_83 ?_
            refine x_lload (pc := 84) dX11_lot_84 (List.Mem.tail _ (List.Mem.tail _ (List.Mem.tail _ (List.Mem.tail _ (List.Mem.head _))))) ?_
            refine z_lcmp_lt (pc := 86) (tgt := 93) dX11_lot_86 dX11_lot_87 (by decide) (by omega) (by omega) (by omega) (by omega) (fun hb11 => ?_) (fun hb11 => ?_)
            · skip
              refine z_iinc (pc := 93) dX11_lot_93 (List.Mem.tail _ (List.Mem.tail _ (List.Mem.tail _ (List.Mem.tail _ (List.Mem.tail _ (List.Mem.head _)))))) (Nat.le_of_ble_eq_true rfl) ?_
              show Ev _ _ _ _ _ [(7, .int (zN ((k : Int) + 1))), (0, .ref 0), (1, .int (zN (p))), (2, .int (zN (q))), (3, .long (zL (((p - q) * (p - q))))), (5, .long (zL ((4 * ((p * (1000 - p)) + (q * (1000 - q)))))))] _ _
              refine x_goto (pc := 96) (tgt := 71) dX11_lot_96 (by decide) ?_
              refine x_weaken (L1 := [(0, .ref 0), (1, .int (zN (p))), (2, .int (zN (q))), (3, .long (zL (((p - q) * (p - q))))), (5, .long (zL ((4 * ((p * (1000 - p)) + (q * (1000 - q))))))), (7, .int (zN ((((k + 1) : Nat) : Int))))]) (List.forall_mem_cons.mpr ⟨(List.Mem.tail _ (List.Mem.head _)), (List.forall_mem_cons.mpr ⟨(List.Mem.tail _ (List.Mem.tail _ (List.Mem.head _))), (List.forall_mem_cons.mpr ⟨(List.Mem.tail _ (List.Mem.tail _ (List.Mem.tail _ (List.Mem.head _)))), (List.forall_mem_cons.mpr ⟨(List.Mem.tail _ (List.Mem.tail _ (List.Mem.tail _ (List.Mem.tail _ (List.Mem.head _))))), (List.forall_mem_cons.mpr ⟨(List.Mem.tail _ (List.Mem.tail _ (List.Mem.tail _ (List.Mem.tail _ (List.Mem.tail _ (List.Mem.head _)))))), (List.forall_mem_cons.mpr ⟨(mem_ci (by omega) (List.Mem.head _)), (fun _ h => absurd h List.not_mem_nil)⟩)⟩)⟩)⟩)⟩)⟩) ?_
              exact ih71 ((k + 1)) (by omega) (by rw [hz, show 10000 - k = (10000 - (k + 1)) + 1 by omega]; exact if_neg (by omega)) (by omega)
            · skip
              refine x_iload (pc := 90) dX11_lot_90 (List.Mem.tail _ (List.Mem.tail _ (List.Mem.tail _ (List.Mem.tail _ (List.Mem.tail _ (List.Mem.head _)))))) ?_
              refine z_ireturn (pc := 92) dX11_lot_92 rfl (Or.inl rfl) ok7 (by omega) (by omega) ?_
              have e : S_lot p q = (zlot ((p - q) * (p - q)) (4 * (p * (1000 - p) + q * (1000 - q))) 9999 1, 6) := by unfold S_lot; exact if_pos (by omega)
              rw [e]
              exact ⟨by rw [hz, show 10000 - k = (10000 - (k + 1)) + 1 by omega]; exact (if_pos (by omega)).symm, rfl⟩
      refine x_weaken (L1 := [(0, .ref 0), (1, .int (zN (p))), (2, .int (zN (q))), (3, .long (zL (((p - q) * (p - q))))), (5, .long (zL ((4 * ((p * (1000 - p)) + (q * (1000 - q))))))), (7, .int (zN (((1 : Nat) : Int))))]) (List.forall_mem_cons.mpr ⟨(List.Mem.tail _ (List.Mem.tail _ (List.Mem.tail _ (List.Mem.head _)))), (List.forall_mem_cons.mpr ⟨(List.Mem.tail _ (List.Mem.tail _ (List.Mem.tail _ (List.Mem.tail _ (List.Mem.head _))))), (List.forall_mem_cons.mpr ⟨(List.Mem.tail _ (List.Mem.tail _ (List.Mem.tail _ (List.Mem.tail _ (List.Mem.tail _ (List.Mem.head _)))))), (List.forall_mem_cons.mpr ⟨(List.Mem.tail _ (List.Mem.tail _ (List.Mem.head _))), (List.forall_mem_cons.mpr ⟨(List.Mem.tail _ (List.Mem.head _)), (List.forall_mem_cons.mpr ⟨(mem_ci (by omega) (List.Mem.head _)), (fun _ h => absurd h List.not_mem_nil)⟩)⟩)⟩)⟩)⟩)⟩) ?_
      exact lp71 (10000 - 1 + 1) (1) (by omega) (rfl) (Nat.lt_succ_self _)
    · skip
      refine z_if_ne (pc := 26) (tgt := 36) dX11_lot_26 (by decide) (by decide) (by decide) (fun h => absurd h (by decide)) (fun _ => ?_)
      refine x_aload_n (pc := 29) dX11_lot_29 (List.Mem.head _) ?_
      refine z_bipush (pc := 30) dX11_lot_30 bp_m3 ?_
      refine z_callVip (pc := 32) (i := mX11_no) (S := []) [.int (zN ((-3)))] dX11_lot_32 ml_X11_89 ok_X11_no rfl sh_0 rfl (Or.inl rfl) (Nat.le_of_ble_eq_true rfl) (c_X11_no (d := d) (code := ((-3))) (code1 := (by omega)) (code2 := (by omega)) (ok := ok7) (cn := (by first | assumption | omega))) (fun r13a r13b ok14 => ?_)
      show Ev _ _ _ _ _ _ _ (eh (wI H 1 ((refIx ((-3)))) (H.1 1 (refIx ((-3))) + 1)))
      refine z_ireturn (pc := 35) dX11_lot_35 rfl (Or.inl rfl) ok14 (by omega) (by omega) ?_
      have e : S_lot p q = (-3, 1) := by unfold S_lot; exact if_neg (by omega)
      rw [e]
      exact ⟨rfl, rfl⟩
  · skip
    refine z_if_eq (pc := 14) (tgt := 29) dX11_lot_14 (by decide) (by decide) (by decide) (fun _ => ?_) (fun h => absurd h (by decide))
    refine x_aload_n (pc := 29) dX11_lot_29 (List.Mem.head _) ?_
    refine z_bipush (pc := 30) dX11_lot_30 bp_m3 ?_
    refine z_callVip (pc := 32) (i := mX11_no) (S := []) [.int (zN ((-3)))] dX11_lot_32 ml_X11_89 ok_X11_no rfl sh_0 rfl (Or.inl rfl) (Nat.le_of_ble_eq_true rfl) (c_X11_no (d := d) (code := ((-3))) (code1 := (by omega)) (code2 := (by omega)) (ok := ok3) (cn := (by first | assumption | omega))) (fun r16a r16b ok17 => ?_)
    show Ev _ _ _ _ _ _ _ (eh (wI H 1 ((refIx ((-3)))) (H.1 1 (refIx ((-3))) + 1)))
    refine z_ireturn (pc := 35) dX11_lot_35 rfl (Or.inl rfl) ok17 (by omega) (by omega) ?_
    have e : S_lot p q = (-3, 1) := by unfold S_lot; exact if_neg (by omega)
    rw [e]
    exact ⟨rfl, rfl⟩

theorem c_X10_shown {d : Nat} {H : ZH} (ok : okZ H) {a n b m : Int} (a1 : -2147483648 ≤ a) (a2 : a ≤ 2147483647) (n1 : -2147483648 ≤ n) (n2 : n ≤ 2147483647) (b1 : -2147483648 ≤ b) (b2 : b ≤ 2147483647) (m1 : -2147483648 ≤ m) (m2 : m ≤ 2147483647) (cn : cntOK H 25) : EvC zX (d + 2) mX10_shown [.ref 20, .int (zN (a)), .int (zN (n)), .int (zN (b)), .int (zN (m))] (eh H) (zPi (fun (r : Int) (H1 : ZH) => r = (S_shown a n b m).1 ∧ H1 = bumpC (S_shown a n b m).2 H)) := by
  show _ ∧ Ev zX mX10_shown (EvC zX (d + 1)) (zPi (fun (r : Int) (H1 : ZH) => r = (S_shown a n b m).1 ∧ H1 = bumpC (S_shown a n b m).2 H)) 0 [(0, .ref 20), (1, .int (zN (a))), (2, .int (zN (n))), (3, .int (zN (b))), (4, .int (zN (m)))] [] (eh H)
  refine ⟨Nat.le_of_ble_eq_true rfl, ?_⟩
  refine x_iload_n (pc := 0) dX10_shown_0 (List.Mem.tail _ (List.Mem.tail _ (List.Mem.head _))) ?_
  refine z_iconst (pc := 1) dX10_shown_1 ?_
  refine z_icmp_lt (pc := 2) (tgt := 43) dX10_shown_2 (by decide) (by omega) (by omega) (by decide) (by decide) (fun hb1 => ?_) (fun hb1 => ?_)
  · skip
    refine x_aload_n (pc := 43) dX10_shown_43 (List.Mem.head _) ?_
    refine z_bipush (pc := 44) dX10_shown_44 bp_m3 ?_
    refine z_callVip (pc := 46) (i := mX10_refuse) (S := []) [.int (zN ((-3)))] dX10_shown_46 ml_X10_97 ok_X10_refuse rfl sh_20 rfl (Or.inl rfl) (Nat.le_of_ble_eq_true rfl) (c_X10_refuse (d := d) (code := ((-3))) (code1 := (by omega)) (code2 := (by omega)) (ok := ok) (cn := (by first | assumption | omega))) (fun r2a r2b ok3 => ?_)
    show Ev _ _ _ _ _ _ _ (eh (wI H 25 ((refIx ((-3)))) (H.1 25 (refIx ((-3))) + 1)))
    refine z_ireturn (pc := 49) dX10_shown_49 rfl (Or.inl rfl) ok3 (by omega) (by omega) ?_
    have e : S_shown a n b m = (-3, 1) := by unfold S_shown; exact if_neg (by omega)
    rw [e]
    exact ⟨rfl, rfl⟩
  · skip
    refine x_iload_n (pc := 5) dX10_shown_5 (List.Mem.tail _ (List.Mem.tail _ (List.Mem.head _))) ?_
    refine z_sipush (pc := 6) dX10_shown_6 sp_300 ?_
    refine z_icmp_gt (pc := 9) (tgt := 43) dX10_shown_9 (by decide) (by omega) (by omega) (by decide) (by decide) (fun hb4 => ?_) (fun hb4 => ?_)
    · skip
      refine x_aload_n (pc := 43) dX10_shown_43 (List.Mem.head _) ?_
      refine z_bipush (pc := 44) dX10_shown_44 bp_m3 ?_
      refine z_callVip (pc := 46) (i := mX10_refuse) (S := []) [.int (zN ((-3)))] dX10_shown_46 ml_X10_97 ok_X10_refuse rfl sh_20 rfl (Or.inl rfl) (Nat.le_of_ble_eq_true rfl) (c_X10_refuse (d := d) (code := ((-3))) (code1 := (by omega)) (code2 := (by omega)) (ok := ok) (cn := (by first | assumption | omega))) (fun r5a r5b ok6 => ?_)
      show Ev _ _ _ _ _ _ _ (eh (wI H 25 ((refIx ((-3)))) (H.1 25 (refIx ((-3))) + 1)))
      refine z_ireturn (pc := 49) dX10_shown_49 rfl (Or.inl rfl) ok6 (by omega) (by omega) ?_
      have e : S_shown a n b m = (-3, 1) := by unfold S_shown; exact if_neg (by omega)
      rw [e]
      exact ⟨rfl, rfl⟩
    · skip
      refine x_iload (pc := 12) dX10_shown_12 (List.Mem.tail _ (List.Mem.tail _ (List.Mem.tail _ (List.Mem.tail _ (List.Mem.head _))))) ?_
      refine z_iconst (pc := 14) dX10_shown_14 ?_
      refine z_icmp_lt (pc := 15) (tgt := 43) dX10_shown_15 (by decide) (by omega) (by omega) (by decide) (by decide) (fun hb7 => ?_) (fun hb7 => ?_)
      · skip
        refine x_aload_n (pc := 43) dX10_shown_43 (List.Mem.head _) ?_
        refine z_bipush (pc := 44) dX10_shown_44 bp_m3 ?_
        refine z_callVip (pc := 46) (i := mX10_refuse) (S := []) [.int (zN ((-3)))] dX10_shown_46 ml_X10_97 ok_X10_refuse rfl sh_20 rfl (Or.inl rfl) (Nat.le_of_ble_eq_true rfl) (c_X10_refuse (d := d) (code := ((-3))) (code1 := (by omega)) (code2 := (by omega)) (ok := ok) (cn := (by first | assumption | omega))) (fun r8a r8b ok9 => ?_)
        show Ev _ _ _ _ _ _ _ (eh (wI H 25 ((refIx ((-3)))) (H.1 25 (refIx ((-3))) + 1)))
        refine z_ireturn (pc := 49) dX10_shown_49 rfl (Or.inl rfl) ok9 (by omega) (by omega) ?_
        have e : S_shown a n b m = (-3, 1) := by unfold S_shown; exact if_neg (by omega)
        rw [e]
        exact ⟨rfl, rfl⟩
      · skip
        refine x_iload (pc := 18) dX10_shown_18 (List.Mem.tail _ (List.Mem.tail _ (List.Mem.tail _ (List.Mem.tail _ (List.Mem.head _))))) ?_
        refine z_sipush (pc := 20) dX10_shown_20 sp_300 ?_
        refine z_icmp_gt (pc := 23) (tgt := 43) dX10_shown_23 (by decide) (by omega) (by omega) (by decide) (by decide) (fun hb10 => ?_) (fun hb10 => ?_)
        · skip
          refine x_aload_n (pc := 43) dX10_shown_43 (List.Mem.head _) ?_
          refine z_bipush (pc := 44) dX10_shown_44 bp_m3 ?_
          refine z_callVip (pc := 46) (i := mX10_refuse) (S := []) [.int (zN ((-3)))] dX10_shown_46 ml_X10_97 ok_X10_refuse rfl sh_20 rfl (Or.inl rfl) (Nat.le_of_ble_eq_true rfl) (c_X10_refuse (d := d) (code := ((-3))) (code1 := (by omega)) (code2 := (by omega)) (ok := ok) (cn := (by first | assumption | omega))) (fun r11a r11b ok12 => ?_)
          show Ev _ _ _ _ _ _ _ (eh (wI H 25 ((refIx ((-3)))) (H.1 25 (refIx ((-3))) + 1)))
          refine z_ireturn (pc := 49) dX10_shown_49 rfl (Or.inl rfl) ok12 (by omega) (by omega) ?_
          have e : S_shown a n b m = (-3, 1) := by unfold S_shown; exact if_neg (by omega)
          rw [e]
          exact ⟨rfl, rfl⟩
        · skip
          refine x_iload_n (pc := 26) dX10_shown_26 (List.Mem.tail _ (List.Mem.head _)) ?_
          refine x_iload_n (pc := 27) dX10_shown_27 (List.Mem.tail _ (List.Mem.tail _ (List.Mem.head _))) ?_
          refine z_callSbp (pc := 28) (i := mX10_isWithin) (S := []) [.int (zN (a)), .int (zN (n))] dX10_shown_28 ml_X10_302 ok_X10_isWithin rfl (Or.inr rfl) (Nat.le_of_ble_eq_true rfl) (c_X10_isWithin (d := d) (v := a) (hi := n) (v1 := (by omega)) (v2 := (by omega)) (hi1 := (by omega)) (hi2 := (by omega)) (ok := ok)) (fun hc15 ok14 => ?_) (fun hc15 ok14 => ?_)
          · skip
            refine z_if_eq (pc := 31) (tgt := 43) dX10_shown_31 (by decide) (by decide) (by decide) (fun h => absurd h (by decide)) (fun _ => ?_)
            refine x_iload_n (pc := 34) dX10_shown_34 (List.Mem.tail _ (List.Mem.tail _ (List.Mem.tail _ (List.Mem.head _)))) ?_
            refine x_iload (pc := 35) dX10_shown_35 (List.Mem.tail _ (List.Mem.tail _ (List.Mem.tail _ (List.Mem.tail _ (List.Mem.head _))))) ?_
            refine z_callSbp (pc := 37) (i := mX10_isWithin) (S := []) [.int (zN (b)), .int (zN (m))] dX10_shown_37 ml_X10_302 ok_X10_isWithin rfl (Or.inr rfl) (Nat.le_of_ble_eq_true rfl) (c_X10_isWithin (d := d) (v := b) (hi := m) (v1 := (by omega)) (v2 := (by omega)) (hi1 := (by omega)) (hi2 := (by omega)) (ok := ok14)) (fun hc19 ok18 => ?_) (fun hc19 ok18 => ?_)
            · skip
              refine z_if_ne (pc := 40) (tgt := 50) dX10_shown_40 (by decide) (by decide) (by decide) (fun _ => ?_) (fun h => absurd h (by decide))
              obtain ⟨e1, e2, e3, e4, e5⟩ := shown_bd (a := a) (n := n) (b := b) (m := m) (by omega) (by omega) (by omega) (by omega) (by omega) (by omega) (by omega) (by omega)
              refine x_iload_n (pc := 50) dX10_shown_50 (List.Mem.tail _ (List.Mem.head _)) ?_
              refine z_i2l (pc := 51) dX10_shown_51 (by omega) (by omega) ?_
              refine x_iload (pc := 52) dX10_shown_52 (List.Mem.tail _ (List.Mem.tail _ (List.Mem.tail _ (List.Mem.tail _ (List.Mem.head _))))) ?_
              refine z_i2l (pc := 54) dX10_shown_54 (by omega) (by omega) ?_
              refine z_lmul (pc := 55) dX10_shown_55 ?_
              refine x_iload_n (pc := 56) dX10_shown_56 (List.Mem.tail _ (List.Mem.tail _ (List.Mem.tail _ (List.Mem.head _)))) ?_
              refine z_i2l (pc := 57) dX10_shown_57 (by omega) (by omega) ?_
              refine x_iload_n (pc := 58) dX10_shown_58 (List.Mem.tail _ (List.Mem.tail _ (List.Mem.head _))) ?_
              refine z_i2l (pc := 59) dX10_shown_59 (by omega) (by omega) ?_
              refine z_lmul (pc := 60) dX10_shown_60 ?_
              refine z_lsub (pc := 61) dX10_shown_61 ?_
              refine x_lstore (pc := 62) dX10_shown_62 (Nat.le_of_ble_eq_true rfl) ?_
              show Ev _ _ _ _ _ [(5, .long (zL (((a * m) - (b * n))))), (0, .ref 20), (1, .int (zN (a))), (2, .int (zN (n))), (3, .int (zN (b))), (4, .int (zN (m)))] _ _
              refine x_iload_n (pc := 64) dX10_shown_64 (List.Mem.tail _ (List.Mem.tail _ (List.Mem.head _))) ?_
              refine z_i2l (pc := 65) dX10_shown_65 (by omega) (by omega) ?_
              refine x_iload_n (pc := 66) dX10_shown_66 (List.Mem.tail _ (List.Mem.tail _ (List.Mem.tail _ (List.Mem.head _)))) ?_
              refine x_iload_n (pc := 67) dX10_shown_67 (List.Mem.tail _ (List.Mem.tail _ (List.Mem.head _))) ?_
              refine z_isub (pc := 68) dX10_shown_68 ?_
              refine z_i2l (pc := 69) dX10_shown_69 (by omega) (by omega) ?_
              refine z_lmul (pc := 70) dX10_shown_70 ?_
              refine x_iload (pc := 71) dX10_shown_71 (List.Mem.tail _ (List.Mem.tail _ (List.Mem.tail _ (List.Mem.tail _ (List.Mem.tail _ (List.Mem.head _)))))) ?_
              refine z_i2l (pc := 73) dX10_shown_73 (by omega) (by omega) ?_
              refine z_lmul (pc := 74) dX10_shown_74 ?_
              refine x_iload (pc := 75) dX10_shown_75 (List.Mem.tail _ (List.Mem.tail _ (List.Mem.tail _ (List.Mem.tail _ (List.Mem.tail _ (List.Mem.head _)))))) ?_
              refine z_i2l (pc := 77) dX10_shown_77 (by omega) (by omega) ?_
              refine z_lmul (pc := 78) dX10_shown_78 ?_
              refine x_iload (pc := 79) dX10_shown_79 (List.Mem.tail _ (List.Mem.tail _ (List.Mem.tail _ (List.Mem.tail _ (List.Mem.tail _ (List.Mem.head _)))))) ?_
              refine z_i2l (pc := 81) dX10_shown_81 (by omega) (by omega) ?_
              refine z_lmul (pc := 82) dX10_shown_82 ?_
              refine x_iload_n (pc := 83) dX10_shown_83 (List.Mem.tail _ (List.Mem.tail _ (List.Mem.tail _ (List.Mem.tail _ (List.Mem.head _))))) ?_
              refine z_i2l (pc := 84) dX10_shown_84 (by omega) (by omega) ?_
              refine x_iload (pc := 85) dX10_shown_85 (List.Mem.tail _ (List.Mem.tail _ (List.Mem.tail _ (List.Mem.tail _ (List.Mem.tail _ (List.Mem.head _)))))) ?_
              refine x_iload_n (pc := 87) dX10_shown_87 (List.Mem.tail _ (List.Mem.tail _ (List.Mem.tail _ (List.Mem.tail _ (List.Mem.head _))))) ?_
              refine z_isub (pc := 88) dX10_shown_88 ?_
              refine z_i2l (pc := 89) dX10_shown_89 (by omega) (by omega) ?_
              refine z_lmul (pc := 90) dX10_shown_90 ?_
              refine x_iload_n (pc := 91) dX10_shown_91 (List.Mem.tail _ (List.Mem.tail _ (List.Mem.tail _ (List.Mem.head _)))) ?_
              refine z_i2l (pc := 92) dX10_shown_92 (by omega) (by omega) ?_
              refine z_lmul (pc := 93) dX10_shown_93 ?_
              refine x_iload_n (pc := 94) dX10_shown_94 (List.Mem.tail _ (List.Mem.tail _ (List.Mem.tail _ (List.Mem.head _)))) ?_
              refine z_i2l (pc := 95) dX10_shown_95 (by omega) (by omega) ?_
              refine z_lmul (pc := 96) dX10_shown_96 ?_
              refine x_iload_n (pc := 97) dX10_shown_97 (List.Mem.tail _ (List.Mem.tail _ (List.Mem.tail _ (List.Mem.head _)))) ?_
              refine z_i2l (pc := 98) dX10_shown_98 (by omega) (by omega) ?_
              refine z_lmul (pc := 99) dX10_shown_99 ?_
              refine z_ladd (pc := 100) dX10_shown_100 ?_
              refine x_lstore (pc := 101) dX10_shown_101 (Nat.le_of_ble_eq_true rfl) ?_
              show Ev _ _ _ _ _ [(7, .long (zL ((((((a * (n - a)) * m) * m) * m) + ((((b * (m - b)) * n) * n) * n))))), (5, .long (zL (((a * m) - (b * n))))), (0, .ref 20), (1, .int (zN (a))), (2, .int (zN (n))), (3, .int (zN (b))), (4, .int (zN (m)))] _ _
              refine x_lload (pc := 103) dX10_shown_103 (List.Mem.tail _ (List.Mem.head _)) ?_
              refine z_lconst (pc := 105) 0 dX10_shown_105 rfl ?_
              refine z_lcmp_eq (pc := 106) (tgt := 136) dX10_shown_106 dX10_shown_107 (by decide) (by omega) (by omega) (by decide) (by decide) (fun hb21 => ?_) (fun hb21 => ?_)
              · skip
                refine z_iconst (pc := 136) dX10_shown_136 ?_
                refine z_ireturn (pc := 137) dX10_shown_137 rfl (Or.inl rfl) ok18 (by decide) (by decide) ?_
                have e : S_shown a n b m = ((if ((a * m) - (b * n)) ≠ 0 ∧ 4 * (((((a * (n - a)) * m) * m) * m) + ((((b * (m - b)) * n) * n) * n)) ≤ (((((a * m) - (b * n)) * ((a * m) - (b * n))) * n) * m) then 1 else 0), 6) := by unfold S_shown; exact if_pos (by omega)
                rw [e]
                refine ⟨?_, rfl⟩
                first | exact (if_pos (by omega)).symm | exact (if_neg (by omega)).symm
              · skip
                refine x_lload (pc := 110) dX10_shown_110 (List.Mem.tail _ (List.Mem.head _)) ?_
                refine x_lload (pc := 112) dX10_shown_112 (List.Mem.tail _ (List.Mem.head _)) ?_
                refine z_lmul (pc := 114) dX10_shown_114 ?_
                refine x_iload_n (pc := 115) dX10_shown_115 (List.Mem.tail _ (List.Mem.tail _ (List.Mem.tail _ (List.Mem.tail _ (List.Mem.head _))))) ?_
                refine z_i2l (pc := 116) dX10_shown_116 (by omega) (by omega) ?_
                refine z_lmul (pc := 117) dX10_shown_117 ?_
                refine x_iload (pc := 118) dX10_shown_118 (List.Mem.tail _ (List.Mem.tail _ (List.Mem.tail _ (List.Mem.tail _ (List.Mem.tail _ (List.Mem.tail _ (List.Mem.head _))))))) ?_
                refine z_i2l (pc := 120) dX10_shown_120 (by omega) (by omega) ?_
                refine z_lmul (pc := 121) dX10_shown_121 ?_
                refine z_ldc2_w (pc := 122) 4 dX10_shown_122 cl_X10_387 (by decide) ?_
                refine x_lload (pc := 125) dX10_shown_125 (List.Mem.head _) ?_
                refine z_lmul (pc := 127) dX10_shown_127 ?_
                refine z_lcmp_lt (pc := 128) (tgt := 136) dX10_shown_128 dX10_shown_129 (by decide) (by omega) (by omega) (by omega) (by omega) (fun hb22 => ?_) (fun hb22 => ?_)
                · skip
                  refine z_iconst (pc := 136) dX10_shown_136 ?_
                  refine z_ireturn (pc := 137) dX10_shown_137 rfl (Or.inl rfl) ok18 (by decide) (by decide) ?_
                  have e : S_shown a n b m = ((if ((a * m) - (b * n)) ≠ 0 ∧ 4 * (((((a * (n - a)) * m) * m) * m) + ((((b * (m - b)) * n) * n) * n)) ≤ (((((a * m) - (b * n)) * ((a * m) - (b * n))) * n) * m) then 1 else 0), 6) := by unfold S_shown; exact if_pos (by omega)
                  rw [e]
                  refine ⟨?_, rfl⟩
                  first | exact (if_pos (by omega)).symm | exact (if_neg (by omega)).symm
                · skip
                  refine z_iconst (pc := 132) dX10_shown_132 ?_
                  refine x_goto (pc := 133) (tgt := 137) dX10_shown_133 (by decide) ?_
                  refine z_ireturn (pc := 137) dX10_shown_137 rfl (Or.inl rfl) ok18 (by decide) (by decide) ?_
                  have e : S_shown a n b m = ((if ((a * m) - (b * n)) ≠ 0 ∧ 4 * (((((a * (n - a)) * m) * m) * m) + ((((b * (m - b)) * n) * n) * n)) ≤ (((((a * m) - (b * n)) * ((a * m) - (b * n))) * n) * m) then 1 else 0), 6) := by unfold S_shown; exact if_pos (by omega)
                  rw [e]
                  refine ⟨?_, rfl⟩
                  first | exact (if_pos (by omega)).symm | exact (if_neg (by omega)).symm
            · skip
              refine z_if_ne (pc := 40) (tgt := 50) dX10_shown_40 (by decide) (by decide) (by decide) (fun h => absurd h (by decide)) (fun _ => ?_)
              refine x_aload_n (pc := 43) dX10_shown_43 (List.Mem.head _) ?_
              refine z_bipush (pc := 44) dX10_shown_44 bp_m3 ?_
              refine z_callVip (pc := 46) (i := mX10_refuse) (S := []) [.int (zN ((-3)))] dX10_shown_46 ml_X10_97 ok_X10_refuse rfl sh_20 rfl (Or.inl rfl) (Nat.le_of_ble_eq_true rfl) (c_X10_refuse (d := d) (code := ((-3))) (code1 := (by omega)) (code2 := (by omega)) (ok := ok18) (cn := (by first | assumption | omega))) (fun r24a r24b ok25 => ?_)
              show Ev _ _ _ _ _ _ _ (eh (wI H 25 ((refIx ((-3)))) (H.1 25 (refIx ((-3))) + 1)))
              refine z_ireturn (pc := 49) dX10_shown_49 rfl (Or.inl rfl) ok25 (by omega) (by omega) ?_
              have e : S_shown a n b m = (-3, 1) := by unfold S_shown; exact if_neg (by omega)
              rw [e]
              exact ⟨rfl, rfl⟩
          · skip
            refine z_if_eq (pc := 31) (tgt := 43) dX10_shown_31 (by decide) (by decide) (by decide) (fun _ => ?_) (fun h => absurd h (by decide))
            refine x_aload_n (pc := 43) dX10_shown_43 (List.Mem.head _) ?_
            refine z_bipush (pc := 44) dX10_shown_44 bp_m3 ?_
            refine z_callVip (pc := 46) (i := mX10_refuse) (S := []) [.int (zN ((-3)))] dX10_shown_46 ml_X10_97 ok_X10_refuse rfl sh_20 rfl (Or.inl rfl) (Nat.le_of_ble_eq_true rfl) (c_X10_refuse (d := d) (code := ((-3))) (code1 := (by omega)) (code2 := (by omega)) (ok := ok14) (cn := (by first | assumption | omega))) (fun r27a r27b ok28 => ?_)
            show Ev _ _ _ _ _ _ _ (eh (wI H 25 ((refIx ((-3)))) (H.1 25 (refIx ((-3))) + 1)))
            refine z_ireturn (pc := 49) dX10_shown_49 rfl (Or.inl rfl) ok28 (by omega) (by omega) ?_
            have e : S_shown a n b m = (-3, 1) := by unfold S_shown; exact if_neg (by omega)
            rw [e]
            exact ⟨rfl, rfl⟩

theorem c_X11_shown {d : Nat} {H : ZH} (ok : okZ H) {a n b m : Int} (a1 : -2147483648 ≤ a) (a2 : a ≤ 2147483647) (n1 : -2147483648 ≤ n) (n2 : n ≤ 2147483647) (b1 : -2147483648 ≤ b) (b2 : b ≤ 2147483647) (m1 : -2147483648 ≤ m) (m2 : m ≤ 2147483647) (cm : cntOK H 1) (th : H.1 0 0 = 0) : EvC zX (d + 2) mX11_shown [.ref 0, .int (zN (a)), .int (zN (n)), .int (zN (b)), .int (zN (m))] (eh H) (zPi (fun (r : Int) (H1 : ZH) => r = (S_shown a n b m).1 ∧ H1 = bumpM (S_shown a n b m).2 H)) := by
  show _ ∧ Ev zX mX11_shown (EvC zX (d + 1)) (zPi (fun (r : Int) (H1 : ZH) => r = (S_shown a n b m).1 ∧ H1 = bumpM (S_shown a n b m).2 H)) 0 [(0, .ref 0), (1, .int (zN (a))), (2, .int (zN (n))), (3, .int (zN (b))), (4, .int (zN (m)))] [] (eh H)
  refine ⟨Nat.le_of_ble_eq_true rfl, ?_⟩
  refine x_aload_n (pc := 0) dX11_shown_0 (List.Mem.head _) ?_
  refine z_iconst (pc := 1) dX11_shown_1 ?_
  refine z_putI (pc := 2) (k := 0) dX11_shown_2 lp_X11_1 sh_0 rfl ?_
  have ok1 := okI ok 0 0 (v := 0) (by decide) (by decide)
  rw [wI_same th]
  refine x_iload_n (pc := 5) dX11_shown_5 (List.Mem.tail _ (List.Mem.tail _ (List.Mem.head _))) ?_
  refine z_i2l (pc := 6) dX11_shown_6 (by omega) (by omega) ?_
  refine z_lconst (pc := 7) 1 dX11_shown_7 rfl ?_
  refine z_ldc2_w (pc := 8) 300 dX11_shown_8 cl_X11_314 (by decide) ?_
  refine z_callSbp (pc := 11) (i := mX11_within) (S := []) [.long (zL (n)), .long (zL (1)), .long (zL (300))] dX11_shown_11 ml_X11_152 ok_X11_within rfl (Or.inr rfl) (Nat.le_of_ble_eq_true rfl) (c_X11_within (d := d) (v := n) (lo := 1) (hi := 300) (v1 := (by omega)) (v2 := (by omega)) (lo1 := (by omega)) (lo2 := (by omega)) (hi1 := (by omega)) (hi2 := (by omega)) (ok := ok)) (fun hc4 ok3 => ?_) (fun hc4 ok3 => ?_)
  · skip
    refine z_if_eq (pc := 14) (tgt := 53) dX11_shown_14 (by decide) (by decide) (by decide) (fun h => absurd h (by decide)) (fun _ => ?_)
    refine x_iload (pc := 17) dX11_shown_17 (List.Mem.tail _ (List.Mem.tail _ (List.Mem.tail _ (List.Mem.tail _ (List.Mem.head _))))) ?_
    refine z_i2l (pc := 19) dX11_shown_19 (by omega) (by omega) ?_
    refine z_lconst (pc := 20) 1 dX11_shown_20 rfl ?_
    refine z_ldc2_w (pc := 21) 300 dX11_shown_21 cl_X11_314 (by decide) ?_
    refine z_callSbp (pc := 24) (i := mX11_within) (S := []) [.long (zL (m)), .long (zL (1)), .long (zL (300))] dX11_shown_24 ml_X11_152 ok_X11_within rfl (Or.inr rfl) (Nat.le_of_ble_eq_true rfl) (c_X11_within (d := d) (v := m) (lo := 1) (hi := 300) (v1 := (by omega)) (v2 := (by omega)) (lo1 := (by omega)) (lo2 := (by omega)) (hi1 := (by omega)) (hi2 := (by omega)) (ok := ok3)) (fun hc8 ok7 => ?_) (fun hc8 ok7 => ?_)
    · skip
      refine z_if_eq (pc := 27) (tgt := 53) dX11_shown_27 (by decide) (by decide) (by decide) (fun h => absurd h (by decide)) (fun _ => ?_)
      refine x_iload_n (pc := 30) dX11_shown_30 (List.Mem.tail _ (List.Mem.head _)) ?_
      refine z_i2l (pc := 31) dX11_shown_31 (by omega) (by omega) ?_
      refine z_lconst (pc := 32) 0 dX11_shown_32 rfl ?_
      refine x_iload_n (pc := 33) dX11_shown_33 (List.Mem.tail _ (List.Mem.tail _ (List.Mem.head _))) ?_
      refine z_i2l (pc := 34) dX11_shown_34 (by omega) (by omega) ?_
      refine z_callSbp (pc := 35) (i := mX11_within) (S := []) [.long (zL (a)), .long (zL (0)), .long (zL (n))] dX11_shown_35 ml_X11_152 ok_X11_within rfl (Or.inr rfl) (Nat.le_of_ble_eq_true rfl) (c_X11_within (d := d) (v := a) (lo := 0) (hi := n) (v1 := (by omega)) (v2 := (by omega)) (lo1 := (by omega)) (lo2 := (by omega)) (hi1 := (by omega)) (hi2 := (by omega)) (ok := ok7)) (fun hc12 ok11 => ?_) (fun hc12 ok11 => ?_)
      · skip
        refine z_if_eq (pc := 38) (tgt := 53) dX11_shown_38 (by decide) (by decide) (by decide) (fun h => absurd h (by decide)) (fun _ => ?_)
        refine x_iload_n (pc := 41) dX11_shown_41 (List.Mem.tail _ (List.Mem.tail _ (List.Mem.tail _ (List.Mem.head _)))) ?_
        refine z_i2l (pc := 42) dX11_shown_42 (by omega) (by omega) ?_
        refine z_lconst (pc := 43) 0 dX11_shown_43 rfl ?_
        refine x_iload (pc := 44) dX11_shown_44 (List.Mem.tail _ (List.Mem.tail _ (List.Mem.tail _ (List.Mem.tail _ (List.Mem.head _))))) ?_
        refine z_i2l (pc := 46) dX11_shown_46 (by omega) (by omega) ?_
        refine z_callSbp (pc := 47) (i := mX11_within) (S := []) [.long (zL (b)), .long (zL (0)), .long (zL (m))] dX11_shown_47 ml_X11_152 ok_X11_within rfl (Or.inr rfl) (Nat.le_of_ble_eq_true rfl) (c_X11_within (d := d) (v := b) (lo := 0) (hi := m) (v1 := (by omega)) (v2 := (by omega)) (lo1 := (by omega)) (lo2 := (by omega)) (hi1 := (by omega)) (hi2 := (by omega)) (ok := ok11)) (fun hc16 ok15 => ?_) (fun hc16 ok15 => ?_)
        · skip
          refine z_if_ne (pc := 50) (tgt := 60) dX11_shown_50 (by decide) (by decide) (by decide) (fun _ => ?_) (fun h => absurd h (by decide))
          obtain ⟨e1, e2, e3, e4, e5⟩ := shown_bd (a := a) (n := n) (b := b) (m := m) (by omega) (by omega) (by omega) (by omega) (by omega) (by omega) (by omega) (by omega)
          refine x_iload_n (pc := 60) dX11_shown_60 (List.Mem.tail _ (List.Mem.head _)) ?_
          refine x_iload (pc := 61) dX11_shown_61 (List.Mem.tail _ (List.Mem.tail _ (List.Mem.tail _ (List.Mem.tail _ (List.Mem.head _))))) ?_
          refine z_imul (pc := 63) dX11_shown_63 ?_
          refine x_iload_n (pc := 64) dX11_shown_64 (List.Mem.tail _ (List.Mem.tail _ (List.Mem.tail _ (List.Mem.head _)))) ?_
          refine x_iload_n (pc := 65) dX11_shown_65 (List.Mem.tail _ (List.Mem.tail _ (List.Mem.head _))) ?_
          refine z_imul (pc := 66) dX11_shown_66 ?_
          refine z_isub (pc := 67) dX11_shown_67 ?_
          refine z_i2l (pc := 68) dX11_shown_68 (by omega) (by omega) ?_
          refine x_lstore (pc := 69) dX11_shown_69 (Nat.le_of_ble_eq_true rfl) ?_
          show Ev _ _ _ _ _ [(5, .long (zL (((a * m) - (b * n))))), (0, .ref 0), (1, .int (zN (a))), (2, .int (zN (n))), (3, .int (zN (b))), (4, .int (zN (m)))] _ _
          refine z_ldc2_w (pc := 71) 4 dX11_shown_71 cl_X11_361 (by decide) ?_
          refine x_iload_n (pc := 74) dX11_shown_74 (List.Mem.tail _ (List.Mem.tail _ (List.Mem.head _))) ?_
          refine z_i2l (pc := 75) dX11_shown_75 (by omega) (by omega) ?_
          refine x_iload_n (pc := 76) dX11_shown_76 (List.Mem.tail _ (List.Mem.tail _ (List.Mem.tail _ (List.Mem.head _)))) ?_
          refine x_iload_n (pc := 77) dX11_shown_77 (List.Mem.tail _ (List.Mem.tail _ (List.Mem.head _))) ?_
          refine z_isub (pc := 78) dX11_shown_78 ?_
          refine z_i2l (pc := 79) dX11_shown_79 (by omega) (by omega) ?_
          refine z_lmul (pc := 80) dX11_shown_80 ?_
          refine x_iload (pc := 81) dX11_shown_81 (List.Mem.tail _ (List.Mem.tail _ (List.Mem.tail _ (List.Mem.tail _ (List.Mem.tail _ (List.Mem.head _)))))) ?_
          refine z_i2l (pc := 83) dX11_shown_83 (by omega) (by omega) ?_
          refine z_lmul (pc := 84) dX11_shown_84 ?_
          refine x_iload (pc := 85) dX11_shown_85 (List.Mem.tail _ (List.Mem.tail _ (List.Mem.tail _ (List.Mem.tail _ (List.Mem.tail _ (List.Mem.head _)))))) ?_
          refine z_i2l (pc := 87) dX11_shown_87 (by omega) (by omega) ?_
          refine z_lmul (pc := 88) dX11_shown_88 ?_
          refine x_iload (pc := 89) dX11_shown_89 (List.Mem.tail _ (List.Mem.tail _ (List.Mem.tail _ (List.Mem.tail _ (List.Mem.tail _ (List.Mem.head _)))))) ?_
          refine z_i2l (pc := 91) dX11_shown_91 (by omega) (by omega) ?_
          refine z_lmul (pc := 92) dX11_shown_92 ?_
          refine x_iload_n (pc := 93) dX11_shown_93 (List.Mem.tail _ (List.Mem.tail _ (List.Mem.tail _ (List.Mem.tail _ (List.Mem.head _))))) ?_
          refine z_i2l (pc := 94) dX11_shown_94 (by omega) (by omega) ?_
          refine x_iload (pc := 95) dX11_shown_95 (List.Mem.tail _ (List.Mem.tail _ (List.Mem.tail _ (List.Mem.tail _ (List.Mem.tail _ (List.Mem.head _)))))) ?_
          refine x_iload_n (pc := 97) dX11_shown_97 (List.Mem.tail _ (List.Mem.tail _ (List.Mem.tail _ (List.Mem.tail _ (List.Mem.head _))))) ?_
          refine z_isub (pc := 98) dX11_shown_98 ?_
          refine z_i2l (pc := 99) dX11_shown_99 (by omega) (by omega) ?_
          refine z_lmul (pc := 100) dX11_shown_100 ?_
          refine x_iload_n (pc := 101) dX11_shown_101 (List.Mem.tail _ (List.Mem.tail _ (List.Mem.tail _ (List.Mem.head _)))) ?_
          refine z_i2l (pc := 102) dX11_shown_102 (by omega) (by omega) ?_
          refine z_lmul (pc := 103) dX11_shown_103 ?_
          refine x_iload_n (pc := 104) dX11_shown_104 (List.Mem.tail _ (List.Mem.tail _ (List.Mem.tail _ (List.Mem.head _)))) ?_
          refine z_i2l (pc := 105) dX11_shown_105 (by omega) (by omega) ?_
          refine z_lmul (pc := 106) dX11_shown_106 ?_
          refine x_iload_n (pc := 107) dX11_shown_107 (List.Mem.tail _ (List.Mem.tail _ (List.Mem.tail _ (List.Mem.head _)))) ?_
          refine z_i2l (pc := 108) dX11_shown_108 (by omega) (by omega) ?_
          refine z_lmul (pc := 109) dX11_shown_109 ?_
          refine z_ladd (pc := 110) dX11_shown_110 ?_
          refine z_lmul (pc := 111) dX11_shown_111 ?_
          refine x_lstore (pc := 112) dX11_shown_112 (Nat.le_of_ble_eq_true rfl) ?_
          show Ev _ _ _ _ _ [(7, .long (zL ((4 * (((((a * (n - a)) * m) * m) * m) + ((((b * (m - b)) * n) * n) * n)))))), (5, .long (zL (((a * m) - (b * n))))), (0, .ref 0), (1, .int (zN (a))), (2, .int (zN (n))), (3, .int (zN (b))), (4, .int (zN (m)))] _ _
          refine x_lload (pc := 114) dX11_shown_114 (List.Mem.tail _ (List.Mem.head _)) ?_
          refine z_lconst (pc := 116) 0 dX11_shown_116 rfl ?_
          refine z_lcmp_eq (pc := 117) (tgt := 143) dX11_shown_117 dX11_shown_118 (by decide) (by omega) (by omega) (by decide) (by decide) (fun hb18 => ?_) (fun hb18 => ?_)
          · skip
            refine z_iconst (pc := 143) dX11_shown_143 ?_
            refine z_ireturn (pc := 144) dX11_shown_144 rfl (Or.inl rfl) ok15 (by decide) (by decide) ?_
            have e : S_shown a n b m = ((if ((a * m) - (b * n)) ≠ 0 ∧ 4 * (((((a * (n - a)) * m) * m) * m) + ((((b * (m - b)) * n) * n) * n)) ≤ (((((a * m) - (b * n)) * ((a * m) - (b * n))) * n) * m) then 1 else 0), 6) := by unfold S_shown; exact if_pos (by omega)
            rw [e]
            refine ⟨?_, rfl⟩
            first | exact (if_pos (by omega)).symm | exact (if_neg (by omega)).symm
          · skip
            refine x_lload (pc := 121) dX11_shown_121 (List.Mem.tail _ (List.Mem.head _)) ?_
            refine x_lload (pc := 123) dX11_shown_123 (List.Mem.tail _ (List.Mem.head _)) ?_
            refine z_lmul (pc := 125) dX11_shown_125 ?_
            refine x_iload_n (pc := 126) dX11_shown_126 (List.Mem.tail _ (List.Mem.tail _ (List.Mem.tail _ (List.Mem.tail _ (List.Mem.head _))))) ?_
            refine z_i2l (pc := 127) dX11_shown_127 (by omega) (by omega) ?_
            refine z_lmul (pc := 128) dX11_shown_128 ?_
            refine x_iload (pc := 129) dX11_shown_129 (List.Mem.tail _ (List.Mem.tail _ (List.Mem.tail _ (List.Mem.tail _ (List.Mem.tail _ (List.Mem.tail _ (List.Mem.head _))))))) ?_
            refine z_i2l (pc := 131) dX11_shown_131 (by omega) (by omega) ?_
            refine z_lmul (pc := 132) dX11_shown_132 ?_
            refine x_lload (pc := 133) dX11_shown_133 (List.Mem.head _) ?_
            refine z_lcmp_lt (pc := 135) (tgt := 143) dX11_shown_135 dX11_shown_136 (by decide) (by omega) (by omega) (by omega) (by omega) (fun hb19 => ?_) (fun hb19 => ?_)
            · skip
              refine z_iconst (pc := 143) dX11_shown_143 ?_
              refine z_ireturn (pc := 144) dX11_shown_144 rfl (Or.inl rfl) ok15 (by decide) (by decide) ?_
              have e : S_shown a n b m = ((if ((a * m) - (b * n)) ≠ 0 ∧ 4 * (((((a * (n - a)) * m) * m) * m) + ((((b * (m - b)) * n) * n) * n)) ≤ (((((a * m) - (b * n)) * ((a * m) - (b * n))) * n) * m) then 1 else 0), 6) := by unfold S_shown; exact if_pos (by omega)
              rw [e]
              refine ⟨?_, rfl⟩
              first | exact (if_pos (by omega)).symm | exact (if_neg (by omega)).symm
            · skip
              refine z_iconst (pc := 139) dX11_shown_139 ?_
              refine x_goto (pc := 140) (tgt := 144) dX11_shown_140 (by decide) ?_
              refine z_ireturn (pc := 144) dX11_shown_144 rfl (Or.inl rfl) ok15 (by decide) (by decide) ?_
              have e : S_shown a n b m = ((if ((a * m) - (b * n)) ≠ 0 ∧ 4 * (((((a * (n - a)) * m) * m) * m) + ((((b * (m - b)) * n) * n) * n)) ≤ (((((a * m) - (b * n)) * ((a * m) - (b * n))) * n) * m) then 1 else 0), 6) := by unfold S_shown; exact if_pos (by omega)
              rw [e]
              refine ⟨?_, rfl⟩
              first | exact (if_pos (by omega)).symm | exact (if_neg (by omega)).symm
        · skip
          refine z_if_ne (pc := 50) (tgt := 60) dX11_shown_50 (by decide) (by decide) (by decide) (fun h => absurd h (by decide)) (fun _ => ?_)
          refine x_aload_n (pc := 53) dX11_shown_53 (List.Mem.head _) ?_
          refine z_bipush (pc := 54) dX11_shown_54 bp_m3 ?_
          refine z_callVip (pc := 56) (i := mX11_no) (S := []) [.int (zN ((-3)))] dX11_shown_56 ml_X11_89 ok_X11_no rfl sh_0 rfl (Or.inl rfl) (Nat.le_of_ble_eq_true rfl) (c_X11_no (d := d) (code := ((-3))) (code1 := (by omega)) (code2 := (by omega)) (ok := ok15) (cn := (by first | assumption | omega))) (fun r21a r21b ok22 => ?_)
          show Ev _ _ _ _ _ _ _ (eh (wI H 1 ((refIx ((-3)))) (H.1 1 (refIx ((-3))) + 1)))
          refine z_ireturn (pc := 59) dX11_shown_59 rfl (Or.inl rfl) ok22 (by omega) (by omega) ?_
          have e : S_shown a n b m = (-3, 1) := by unfold S_shown; exact if_neg (by omega)
          rw [e]
          exact ⟨rfl, rfl⟩
      · skip
        refine z_if_eq (pc := 38) (tgt := 53) dX11_shown_38 (by decide) (by decide) (by decide) (fun _ => ?_) (fun h => absurd h (by decide))
        refine x_aload_n (pc := 53) dX11_shown_53 (List.Mem.head _) ?_
        refine z_bipush (pc := 54) dX11_shown_54 bp_m3 ?_
        refine z_callVip (pc := 56) (i := mX11_no) (S := []) [.int (zN ((-3)))] dX11_shown_56 ml_X11_89 ok_X11_no rfl sh_0 rfl (Or.inl rfl) (Nat.le_of_ble_eq_true rfl) (c_X11_no (d := d) (code := ((-3))) (code1 := (by omega)) (code2 := (by omega)) (ok := ok11) (cn := (by first | assumption | omega))) (fun r24a r24b ok25 => ?_)
        show Ev _ _ _ _ _ _ _ (eh (wI H 1 ((refIx ((-3)))) (H.1 1 (refIx ((-3))) + 1)))
        refine z_ireturn (pc := 59) dX11_shown_59 rfl (Or.inl rfl) ok25 (by omega) (by omega) ?_
        have e : S_shown a n b m = (-3, 1) := by unfold S_shown; exact if_neg (by omega)
        rw [e]
        exact ⟨rfl, rfl⟩
    · skip
      refine z_if_eq (pc := 27) (tgt := 53) dX11_shown_27 (by decide) (by decide) (by decide) (fun _ => ?_) (fun h => absurd h (by decide))
      refine x_aload_n (pc := 53) dX11_shown_53 (List.Mem.head _) ?_
      refine z_bipush (pc := 54) dX11_shown_54 bp_m3 ?_
      refine z_callVip (pc := 56) (i := mX11_no) (S := []) [.int (zN ((-3)))] dX11_shown_56 ml_X11_89 ok_X11_no rfl sh_0 rfl (Or.inl rfl) (Nat.le_of_ble_eq_true rfl) (c_X11_no (d := d) (code := ((-3))) (code1 := (by omega)) (code2 := (by omega)) (ok := ok7) (cn := (by first | assumption | omega))) (fun r27a r27b ok28 => ?_)
      show Ev _ _ _ _ _ _ _ (eh (wI H 1 ((refIx ((-3)))) (H.1 1 (refIx ((-3))) + 1)))
      refine z_ireturn (pc := 59) dX11_shown_59 rfl (Or.inl rfl) ok28 (by omega) (by omega) ?_
      have e : S_shown a n b m = (-3, 1) := by unfold S_shown; exact if_neg (by omega)
      rw [e]
      exact ⟨rfl, rfl⟩
  · skip
    refine z_if_eq (pc := 14) (tgt := 53) dX11_shown_14 (by decide) (by decide) (by decide) (fun _ => ?_) (fun h => absurd h (by decide))
    refine x_aload_n (pc := 53) dX11_shown_53 (List.Mem.head _) ?_
    refine z_bipush (pc := 54) dX11_shown_54 bp_m3 ?_
    refine z_callVip (pc := 56) (i := mX11_no) (S := []) [.int (zN ((-3)))] dX11_shown_56 ml_X11_89 ok_X11_no rfl sh_0 rfl (Or.inl rfl) (Nat.le_of_ble_eq_true rfl) (c_X11_no (d := d) (code := ((-3))) (code1 := (by omega)) (code2 := (by omega)) (ok := ok3) (cn := (by first | assumption | omega))) (fun r30a r30b ok31 => ?_)
    show Ev _ _ _ _ _ _ _ (eh (wI H 1 ((refIx ((-3)))) (H.1 1 (refIx ((-3))) + 1)))
    refine z_ireturn (pc := 59) dX11_shown_59 rfl (Or.inl rfl) ok31 (by omega) (by omega) ?_
    have e : S_shown a n b m = (-3, 1) := by unfold S_shown; exact if_neg (by omega)
    rw [e]
    exact ⟨rfl, rfl⟩

theorem c_X10_thanks {d : Nat} {H : ZH} (ok : okZ H) {s t a b n : Int} (s1 : -2147483648 ≤ s) (s2 : s ≤ 2147483647) (t1 : -2147483648 ≤ t) (t2 : t ≤ 2147483647) (a1 : -2147483648 ≤ a) (a2 : a ≤ 2147483647) (b1 : -2147483648 ≤ b) (b2 : b ≤ 2147483647) (n1 : -2147483648 ≤ n) (n2 : n ≤ 2147483647) (cn : cntOK H 25) : EvC zX (d + 2) mX10_thanks [.ref 20, .int (zN (s)), .int (zN (t)), .int (zN (a)), .int (zN (b)), .int (zN (n))] (eh H) (zPi (fun (r : Int) (H1 : ZH) => r = (S_thanks s t a b n).1 ∧ H1 = bumpC (S_thanks s t a b n).2 H)) := by
  show _ ∧ Ev zX mX10_thanks (EvC zX (d + 1)) (zPi (fun (r : Int) (H1 : ZH) => r = (S_thanks s t a b n).1 ∧ H1 = bumpC (S_thanks s t a b n).2 H)) 0 [(0, .ref 20), (1, .int (zN (s))), (2, .int (zN (t))), (3, .int (zN (a))), (4, .int (zN (b))), (5, .int (zN (n)))] [] (eh H)
  refine ⟨Nat.le_of_ble_eq_true rfl, ?_⟩
  refine x_iload_n (pc := 0) dX10_thanks_0 (List.Mem.tail _ (List.Mem.head _)) ?_
  refine z_ldc_w (pc := 1) 1000000 dX10_thanks_1 cn_X10_420 (by decide) ?_
  refine z_callSbp (pc := 4) (i := mX10_isWithin) (S := []) [.int (zN (s)), .int (zN (1000000))] dX10_thanks_4 ml_X10_302 ok_X10_isWithin rfl (Or.inr rfl) (Nat.le_of_ble_eq_true rfl) (c_X10_isWithin (d := d) (v := s) (hi := 1000000) (v1 := (by omega)) (v2 := (by omega)) (hi1 := (by omega)) (hi2 := (by omega)) (ok := ok)) (fun hc3 ok2 => ?_) (fun hc3 ok2 => ?_)
  · skip
    refine z_if_eq (pc := 7) (tgt := 48) dX10_thanks_7 (by decide) (by decide) (by decide) (fun h => absurd h (by decide)) (fun _ => ?_)
    refine x_iload_n (pc := 10) dX10_thanks_10 (List.Mem.tail _ (List.Mem.tail _ (List.Mem.head _))) ?_
    refine z_bipush (pc := 11) dX10_thanks_11 bp_100 ?_
    refine z_callSbp (pc := 13) (i := mX10_isWithin) (S := []) [.int (zN (t)), .int (zN (100))] dX10_thanks_13 ml_X10_302 ok_X10_isWithin rfl (Or.inr rfl) (Nat.le_of_ble_eq_true rfl) (c_X10_isWithin (d := d) (v := t) (hi := 100) (v1 := (by omega)) (v2 := (by omega)) (hi1 := (by omega)) (hi2 := (by omega)) (ok := ok2)) (fun hc7 ok6 => ?_) (fun hc7 ok6 => ?_)
    · skip
      refine z_if_eq (pc := 16) (tgt := 48) dX10_thanks_16 (by decide) (by decide) (by decide) (fun h => absurd h (by decide)) (fun _ => ?_)
      refine x_iload_n (pc := 19) dX10_thanks_19 (List.Mem.tail _ (List.Mem.tail _ (List.Mem.tail _ (List.Mem.head _)))) ?_
      refine z_bipush (pc := 20) dX10_thanks_20 bp_100 ?_
      refine z_callSbp (pc := 22) (i := mX10_isWithin) (S := []) [.int (zN (a)), .int (zN (100))] dX10_thanks_22 ml_X10_302 ok_X10_isWithin rfl (Or.inr rfl) (Nat.le_of_ble_eq_true rfl) (c_X10_isWithin (d := d) (v := a) (hi := 100) (v1 := (by omega)) (v2 := (by omega)) (hi1 := (by omega)) (hi2 := (by omega)) (ok := ok6)) (fun hc11 ok10 => ?_) (fun hc11 ok10 => ?_)
      · skip
        refine z_if_eq (pc := 25) (tgt := 48) dX10_thanks_25 (by decide) (by decide) (by decide) (fun h => absurd h (by decide)) (fun _ => ?_)
        refine x_iload (pc := 28) dX10_thanks_28 (List.Mem.tail _ (List.Mem.tail _ (List.Mem.tail _ (List.Mem.tail _ (List.Mem.head _))))) ?_
        refine z_bipush (pc := 30) dX10_thanks_30 bp_100 ?_
        refine z_callSbp (pc := 32) (i := mX10_isWithin) (S := []) [.int (zN (b)), .int (zN (100))] dX10_thanks_32 ml_X10_302 ok_X10_isWithin rfl (Or.inr rfl) (Nat.le_of_ble_eq_true rfl) (c_X10_isWithin (d := d) (v := b) (hi := 100) (v1 := (by omega)) (v2 := (by omega)) (hi1 := (by omega)) (hi2 := (by omega)) (ok := ok10)) (fun hc15 ok14 => ?_) (fun hc15 ok14 => ?_)
        · skip
          refine z_if_eq (pc := 35) (tgt := 48) dX10_thanks_35 (by decide) (by decide) (by decide) (fun h => absurd h (by decide)) (fun _ => ?_)
          refine x_iload (pc := 38) dX10_thanks_38 (List.Mem.tail _ (List.Mem.tail _ (List.Mem.tail _ (List.Mem.tail _ (List.Mem.tail _ (List.Mem.head _)))))) ?_
          refine z_bipush (pc := 40) dX10_thanks_40 bp_99 ?_
          refine z_callSbp (pc := 42) (i := mX10_isWithin) (S := []) [.int (zN (n)), .int (zN (99))] dX10_thanks_42 ml_X10_302 ok_X10_isWithin rfl (Or.inr rfl) (Nat.le_of_ble_eq_true rfl) (c_X10_isWithin (d := d) (v := n) (hi := 99) (v1 := (by omega)) (v2 := (by omega)) (hi1 := (by omega)) (hi2 := (by omega)) (ok := ok14)) (fun hc19 ok18 => ?_) (fun hc19 ok18 => ?_)
          · skip
            refine z_if_ne (pc := 45) (tgt := 55) dX10_thanks_45 (by decide) (by decide) (by decide) (fun _ => ?_) (fun h => absurd h (by decide))
            refine x_iload_n (pc := 55) dX10_thanks_55 (List.Mem.tail _ (List.Mem.head _)) ?_
            refine z_i2l (pc := 56) dX10_thanks_56 (by omega) (by omega) ?_
            refine x_lstore (pc := 57) dX10_thanks_57 (Nat.le_of_ble_eq_true rfl) ?_
            show Ev _ _ _ _ _ [(6, .long (zL (s))), (0, .ref 20), (1, .int (zN (s))), (2, .int (zN (t))), (3, .int (zN (a))), (4, .int (zN (b))), (5, .int (zN (n)))] _ _
            refine z_iconst (pc := 59) dX10_thanks_59 ?_
            refine x_istore (pc := 60) dX10_thanks_60 (Nat.le_of_ble_eq_true rfl) ?_
            show Ev _ _ _ _ _ [(8, .int (zN (0))), (6, .long (zL (s))), (0, .ref 20), (1, .int (zN (s))), (2, .int (zN (t))), (3, .int (zN (a))), (4, .int (zN (b))), (5, .int (zN (n)))] _ _
            have lp62 : ∀ (nF : Nat) (k : Nat), ((k : Int) ≤ n) → n.toNat - k < nF → Ev zX mX10_thanks (EvC zX (d + 1)) (zPi (fun (r : Int) (H1 : ZH) => r = (S_thanks s t a b n).1 ∧ H1 = bumpC (S_thanks s t a b n).2 H)) 62 [(0, .ref 20), (1, .int (zN (s))), (2, .int (zN (t))), (3, .int (zN (a))), (4, .int (zN (b))), (5, .int (zN (n))), (6, .long (zL (zths s t a b k))), (8, .int (zN ((k : Int))))] [] (eh H) := by
              intro nF
              induction nF with
              | zero => intro k hk hm; exact absurd hm (Nat.not_lt_zero _)
              | succ nF ih62 =>
                intro k hk hm
                have zb := zths_bd (s := s) (t := t) (a := a) (b := b) (by omega) (by omega) (by omega) (by omega) (by omega) (by omega) (by omega) (by omega) k
                have zc := zthk_bd (v := zths s t a b k) (t := t) (a := a) (b := b) zb.1 zb.2 (by omega) (by omega) (by omega) (by omega) (by omega) (by omega)
                refine x_iload (pc := 62) dX10_thanks_62 (List.Mem.tail _ (List.Mem.tail _ (List.Mem.tail _ (List.Mem.tail _ (List.Mem.tail _ (List.Mem.tail _ (List.Mem.tail _ (List.Mem.head _)))))))) ?_
                refine x_iload (pc := 64) dX10_thanks_64 (List.Mem.tail _ (List.Mem.tail _ (List.Mem.tail _ (List.Mem.tail _ (List.Mem.tail _ (List.Mem.head _)))))) ?_
                refine z_icmp_ge (pc := 66) (tgt := 104) dX10_thanks_66 (by decide) (by omega) (by omega) (by omega) (by omega) (fun hb21 => ?_) (fun hb21 => ?_)
                · skip
                  refine x_lload (pc := 104) dX10_thanks_104 (List.Mem.tail _ (List.Mem.tail _ (List.Mem.tail _ (List.Mem.tail _ (List.Mem.tail _ (List.Mem.tail _ (List.Mem.head _))))))) ?_
                  refine z_l2i (pc := 106) dX10_thanks_106 ?_
                  refine z_ireturn (pc := 107) dX10_thanks_107 rfl (Or.inl rfl) ok18 (by omega) (by omega) ?_
                  have ek : k = n.toNat := by omega
                  have e : S_thanks s t a b n = (zths s t a b n.toNat, 6) := by unfold S_thanks; exact if_pos (by omega)
                  rw [e]
                  exact ⟨by rw [ek], rfl⟩
                · skip
                  refine x_lload (pc := 69) dX10_thanks_69 (List.Mem.tail _ (List.Mem.tail _ (List.Mem.tail _ (List.Mem.tail _ (List.Mem.tail _ (List.Mem.tail _ (List.Mem.head _))))))) ?_
                  refine x_iload_n (pc := 71) dX10_thanks_71 (List.Mem.tail _ (List.Mem.tail _ (List.Mem.head _))) ?_
                  refine z_i2l (pc := 72) dX10_thanks_72 (by omega) (by omega) ?_
                  refine z_lmul (pc := 73) dX10_thanks_73 ?_
                  refine x_lstore (pc := 74) dX10_thanks_74 (Nat.le_of_ble_eq_true rfl) ?_
                  show Ev _ _ _ _ _ [(9, .long (zL ((zths s t a b k * t)))), (0, .ref 20), (1, .int (zN (s))), (2, .int (zN (t))), (3, .int (zN (a))), (4, .int (zN (b))), (5, .int (zN (n))), (6, .long (zL (zths s t a b k))), (8, .int (zN ((k : Int))))] _ _
                  refine x_lload (pc := 76) dX10_thanks_76 (List.Mem.head _) ?_
                  refine x_iload_n (pc := 78) dX10_thanks_78 (List.Mem.tail _ (List.Mem.tail _ (List.Mem.tail _ (List.Mem.tail _ (List.Mem.head _))))) ?_
                  refine z_i2l (pc := 79) dX10_thanks_79 (by omega) (by omega) ?_
                  refine z_lmul (pc := 80) dX10_thanks_80 ?_
                  refine z_ldc2_w (pc := 81) 100000000 dX10_thanks_81 cl_X10_421 (by decide) ?_
                  refine x_lload (pc := 84) dX10_thanks_84 (List.Mem.head _) ?_
                  refine z_lsub (pc := 86) dX10_thanks_86 ?_
                  refine x_iload (pc := 87) dX10_thanks_87 (List.Mem.tail _ (List.Mem.tail _ (List.Mem.tail _ (List.Mem.tail _ (List.Mem.tail _ (List.Mem.head _)))))) ?_
                  refine z_i2l (pc := 89) dX10_thanks_89 (by omega) (by omega) ?_
                  refine z_lmul (pc := 90) dX10_thanks_90 ?_
                  refine z_ladd (pc := 91) dX10_thanks_91 ?_
                  refine z_ldc2_w (pc := 92) 10000 dX10_thanks_92 cl_X10_423 (by decide) ?_
                  refine z_ldivP (pc := 95) dX10_thanks_95 (by omega) (by omega) (by omega) (by omega) ?_
                  refine x_lstore (pc := 96) dX10_thanks_96 (Nat.le_of_ble_eq_true rfl) ?_
                  show Ev _ _ _ _ _ [(6, .long (zL (((((zths s t a b k * t) * a) + ((100000000 - (zths s t a b k * t)) * b)) / 10000)))), (9, .long (zL ((zths s t a b k * t)))), (0, .ref 20), (1, .int (zN (s))), (2, .int (zN (t))), (3, .int (zN (a))), (4, .int (zN (b))), (5, .int (zN (n))), (8, .int (zN ((k : Int))))] _ _
                  refine z_iinc (pc := 98) dX10_thanks_98 (List.Mem.tail _ (List.Mem.tail _ (List.Mem.tail _ (List.Mem.tail _ (List.Mem.tail _ (List.Mem.tail _ (List.Mem.tail _ (List.Mem.tail _ (List.Mem.head _))))))))) (Nat.le_of_ble_eq_true rfl) ?_
                  show Ev _ _ _ _ _ [(8, .int (zN ((k : Int) + 1))), (6, .long (zL (((((zths s t a b k * t) * a) + ((100000000 - (zths s t a b k * t)) * b)) / 10000)))), (9, .long (zL ((zths s t a b k * t)))), (0, .ref 20), (1, .int (zN (s))), (2, .int (zN (t))), (3, .int (zN (a))), (4, .int (zN (b))), (5, .int (zN (n)))] _ _
                  refine x_goto (pc := 101) (tgt := 62) dX10_thanks_101 (by decide) ?_
                  refine x_weaken (L1 := [(0, .ref 20), (1, .int (zN (s))), (2, .int (zN (t))), (3, .int (zN (a))), (4, .int (zN (b))), (5, .int (zN (n))), (6, .long (zL (zths s t a b (k + 1)))), (8, .int (zN ((((k + 1) : Nat) : Int))))]) (List.forall_mem_cons.mpr ⟨(List.Mem.tail _ (List.Mem.tail _ (List.Mem.tail _ (List.Mem.head _)))), (List.forall_mem_cons.mpr ⟨(List.Mem.tail _ (List.Mem.tail _ (List.Mem.tail _ (List.Mem.tail _ (List.Mem.head _))))), (List.forall_mem_cons.mpr ⟨(List.Mem.tail _ (List.Mem.tail _ (List.Mem.tail _ (List.Mem.tail _ (List.Mem.tail _ (List.Mem.head _)))))), (List.forall_mem_cons.mpr ⟨(List.Mem.tail _ (List.Mem.tail _ (List.Mem.tail _ (List.Mem.tail _ (List.Mem.tail _ (List.Mem.tail _ (List.Mem.head _))))))), (List.forall_mem_cons.mpr ⟨(List.Mem.tail _ (List.Mem.tail _ (List.Mem.tail _ (List.Mem.tail _ (List.Mem.tail _ (List.Mem.tail _ (List.Mem.tail _ (List.Mem.head _)))))))), (List.forall_mem_cons.mpr ⟨(List.Mem.tail _ (List.Mem.tail _ (List.Mem.tail _ (List.Mem.tail _ (List.Mem.tail _ (List.Mem.tail _ (List.Mem.tail _ (List.Mem.tail _ (List.Mem.head _))))))))), (List.forall_mem_cons.mpr ⟨(mem_cl (rfl) (List.Mem.tail _ (List.Mem.head _))), (List.forall_mem_cons.mpr ⟨(mem_ci (by omega) (List.Mem.head _)), (fun _ h => absurd h List.not_mem_nil)⟩)⟩)⟩)⟩)⟩)⟩)⟩)⟩) ?_
                  exact ih62 ((k + 1)) (by first | assumption | omega) (by omega)
            refine x_weaken (L1 := [(0, .ref 20), (1, .int (zN (s))), (2, .int (zN (t))), (3, .int (zN (a))), (4, .int (zN (b))), (5, .int (zN (n))), (6, .long (zL (zths s t a b 0))), (8, .int (zN (((0 : Nat) : Int))))]) (List.forall_mem_cons.mpr ⟨(List.Mem.tail _ (List.Mem.tail _ (List.Mem.head _))), (List.forall_mem_cons.mpr ⟨(List.Mem.tail _ (List.Mem.tail _ (List.Mem.tail _ (List.Mem.head _)))), (List.forall_mem_cons.mpr ⟨(List.Mem.tail _ (List.Mem.tail _ (List.Mem.tail _ (List.Mem.tail _ (List.Mem.head _))))), (List.forall_mem_cons.mpr ⟨(List.Mem.tail _ (List.Mem.tail _ (List.Mem.tail _ (List.Mem.tail _ (List.Mem.tail _ (List.Mem.head _)))))), (List.forall_mem_cons.mpr ⟨(List.Mem.tail _ (List.Mem.tail _ (List.Mem.tail _ (List.Mem.tail _ (List.Mem.tail _ (List.Mem.tail _ (List.Mem.head _))))))), (List.forall_mem_cons.mpr ⟨(List.Mem.tail _ (List.Mem.tail _ (List.Mem.tail _ (List.Mem.tail _ (List.Mem.tail _ (List.Mem.tail _ (List.Mem.tail _ (List.Mem.head _)))))))), (List.forall_mem_cons.mpr ⟨(mem_cl (rfl) (List.Mem.tail _ (List.Mem.head _))), (List.forall_mem_cons.mpr ⟨(mem_ci (by omega) (List.Mem.head _)), (fun _ h => absurd h List.not_mem_nil)⟩)⟩)⟩)⟩)⟩)⟩)⟩)⟩) ?_
            exact lp62 (n.toNat - 0 + 1) (0) (by first | assumption | omega) (Nat.lt_succ_self _)
          · skip
            refine z_if_ne (pc := 45) (tgt := 55) dX10_thanks_45 (by decide) (by decide) (by decide) (fun h => absurd h (by decide)) (fun _ => ?_)
            refine x_aload_n (pc := 48) dX10_thanks_48 (List.Mem.head _) ?_
            refine z_bipush (pc := 49) dX10_thanks_49 bp_m3 ?_
            refine z_callVip (pc := 51) (i := mX10_refuse) (S := []) [.int (zN ((-3)))] dX10_thanks_51 ml_X10_97 ok_X10_refuse rfl sh_20 rfl (Or.inl rfl) (Nat.le_of_ble_eq_true rfl) (c_X10_refuse (d := d) (code := ((-3))) (code1 := (by omega)) (code2 := (by omega)) (ok := ok18) (cn := (by first | assumption | omega))) (fun r23a r23b ok24 => ?_)
            show Ev _ _ _ _ _ _ _ (eh (wI H 25 ((refIx ((-3)))) (H.1 25 (refIx ((-3))) + 1)))
            refine z_ireturn (pc := 54) dX10_thanks_54 rfl (Or.inl rfl) ok24 (by omega) (by omega) ?_
            have e : S_thanks s t a b n = (-3, 1) := by unfold S_thanks; exact if_neg (by omega)
            rw [e]
            exact ⟨rfl, rfl⟩
        · skip
          refine z_if_eq (pc := 35) (tgt := 48) dX10_thanks_35 (by decide) (by decide) (by decide) (fun _ => ?_) (fun h => absurd h (by decide))
          refine x_aload_n (pc := 48) dX10_thanks_48 (List.Mem.head _) ?_
          refine z_bipush (pc := 49) dX10_thanks_49 bp_m3 ?_
          refine z_callVip (pc := 51) (i := mX10_refuse) (S := []) [.int (zN ((-3)))] dX10_thanks_51 ml_X10_97 ok_X10_refuse rfl sh_20 rfl (Or.inl rfl) (Nat.le_of_ble_eq_true rfl) (c_X10_refuse (d := d) (code := ((-3))) (code1 := (by omega)) (code2 := (by omega)) (ok := ok14) (cn := (by first | assumption | omega))) (fun r26a r26b ok27 => ?_)
          show Ev _ _ _ _ _ _ _ (eh (wI H 25 ((refIx ((-3)))) (H.1 25 (refIx ((-3))) + 1)))
          refine z_ireturn (pc := 54) dX10_thanks_54 rfl (Or.inl rfl) ok27 (by omega) (by omega) ?_
          have e : S_thanks s t a b n = (-3, 1) := by unfold S_thanks; exact if_neg (by omega)
          rw [e]
          exact ⟨rfl, rfl⟩
      · skip
        refine z_if_eq (pc := 25) (tgt := 48) dX10_thanks_25 (by decide) (by decide) (by decide) (fun _ => ?_) (fun h => absurd h (by decide))
        refine x_aload_n (pc := 48) dX10_thanks_48 (List.Mem.head _) ?_
        refine z_bipush (pc := 49) dX10_thanks_49 bp_m3 ?_
        refine z_callVip (pc := 51) (i := mX10_refuse) (S := []) [.int (zN ((-3)))] dX10_thanks_51 ml_X10_97 ok_X10_refuse rfl sh_20 rfl (Or.inl rfl) (Nat.le_of_ble_eq_true rfl) (c_X10_refuse (d := d) (code := ((-3))) (code1 := (by omega)) (code2 := (by omega)) (ok := ok10) (cn := (by first | assumption | omega))) (fun r29a r29b ok30 => ?_)
        show Ev _ _ _ _ _ _ _ (eh (wI H 25 ((refIx ((-3)))) (H.1 25 (refIx ((-3))) + 1)))
        refine z_ireturn (pc := 54) dX10_thanks_54 rfl (Or.inl rfl) ok30 (by omega) (by omega) ?_
        have e : S_thanks s t a b n = (-3, 1) := by unfold S_thanks; exact if_neg (by omega)
        rw [e]
        exact ⟨rfl, rfl⟩
    · skip
      refine z_if_eq (pc := 16) (tgt := 48) dX10_thanks_16 (by decide) (by decide) (by decide) (fun _ => ?_) (fun h => absurd h (by decide))
      refine x_aload_n (pc := 48) dX10_thanks_48 (List.Mem.head _) ?_
      refine z_bipush (pc := 49) dX10_thanks_49 bp_m3 ?_
      refine z_callVip (pc := 51) (i := mX10_refuse) (S := []) [.int (zN ((-3)))] dX10_thanks_51 ml_X10_97 ok_X10_refuse rfl sh_20 rfl (Or.inl rfl) (Nat.le_of_ble_eq_true rfl) (c_X10_refuse (d := d) (code := ((-3))) (code1 := (by omega)) (code2 := (by omega)) (ok := ok6) (cn := (by first | assumption | omega))) (fun r32a r32b ok33 => ?_)
      show Ev _ _ _ _ _ _ _ (eh (wI H 25 ((refIx ((-3)))) (H.1 25 (refIx ((-3))) + 1)))
      refine z_ireturn (pc := 54) dX10_thanks_54 rfl (Or.inl rfl) ok33 (by omega) (by omega) ?_
      have e : S_thanks s t a b n = (-3, 1) := by unfold S_thanks; exact if_neg (by omega)
      rw [e]
      exact ⟨rfl, rfl⟩
  · skip
    refine z_if_eq (pc := 7) (tgt := 48) dX10_thanks_7 (by decide) (by decide) (by decide) (fun _ => ?_) (fun h => absurd h (by decide))
    refine x_aload_n (pc := 48) dX10_thanks_48 (List.Mem.head _) ?_
    refine z_bipush (pc := 49) dX10_thanks_49 bp_m3 ?_
    refine z_callVip (pc := 51) (i := mX10_refuse) (S := []) [.int (zN ((-3)))] dX10_thanks_51 ml_X10_97 ok_X10_refuse rfl sh_20 rfl (Or.inl rfl) (Nat.le_of_ble_eq_true rfl) (c_X10_refuse (d := d) (code := ((-3))) (code1 := (by omega)) (code2 := (by omega)) (ok := ok2) (cn := (by first | assumption | omega))) (fun r35a r35b ok36 => ?_)
    show Ev _ _ _ _ _ _ _ (eh (wI H 25 ((refIx ((-3)))) (H.1 25 (refIx ((-3))) + 1)))
    refine z_ireturn (pc := 54) dX10_thanks_54 rfl (Or.inl rfl) ok36 (by omega) (by omega) ?_
    have e : S_thanks s t a b n = (-3, 1) := by unfold S_thanks; exact if_neg (by omega)
    rw [e]
    exact ⟨rfl, rfl⟩

theorem c_X11_thanks {d : Nat} {H : ZH} (ok : okZ H) {s t a b n : Int} (s1 : -2147483648 ≤ s) (s2 : s ≤ 2147483647) (t1 : -2147483648 ≤ t) (t2 : t ≤ 2147483647) (a1 : -2147483648 ≤ a) (a2 : a ≤ 2147483647) (b1 : -2147483648 ≤ b) (b2 : b ≤ 2147483647) (n1 : -2147483648 ≤ n) (n2 : n ≤ 2147483647) (cm : cntOK H 1) (th : H.1 0 0 = 0) : EvC zX (d + 2) mX11_thanks [.ref 0, .int (zN (s)), .int (zN (t)), .int (zN (a)), .int (zN (b)), .int (zN (n))] (eh H) (zPi (fun (r : Int) (H1 : ZH) => r = (S_thanks s t a b n).1 ∧ H1 = bumpM (S_thanks s t a b n).2 H)) := by
  show _ ∧ Ev zX mX11_thanks (EvC zX (d + 1)) (zPi (fun (r : Int) (H1 : ZH) => r = (S_thanks s t a b n).1 ∧ H1 = bumpM (S_thanks s t a b n).2 H)) 0 [(0, .ref 0), (1, .int (zN (s))), (2, .int (zN (t))), (3, .int (zN (a))), (4, .int (zN (b))), (5, .int (zN (n)))] [] (eh H)
  refine ⟨Nat.le_of_ble_eq_true rfl, ?_⟩
  refine x_aload_n (pc := 0) dX11_thanks_0 (List.Mem.head _) ?_
  refine z_iconst (pc := 1) dX11_thanks_1 ?_
  refine z_putI (pc := 2) (k := 0) dX11_thanks_2 lp_X11_1 sh_0 rfl ?_
  have ok1 := okI ok 0 0 (v := 0) (by decide) (by decide)
  rw [wI_same th]
  refine x_iload_n (pc := 5) dX11_thanks_5 (List.Mem.tail _ (List.Mem.head _)) ?_
  refine z_i2l (pc := 6) dX11_thanks_6 (by omega) (by omega) ?_
  refine z_lconst (pc := 7) 0 dX11_thanks_7 rfl ?_
  refine z_ldc2_w (pc := 8) 1000000 dX11_thanks_8 cl_X11_377 (by decide) ?_
  refine z_callSbp (pc := 11) (i := mX11_within) (S := []) [.long (zL (s)), .long (zL (0)), .long (zL (1000000))] dX11_thanks_11 ml_X11_152 ok_X11_within rfl (Or.inr rfl) (Nat.le_of_ble_eq_true rfl) (c_X11_within (d := d) (v := s) (lo := 0) (hi := 1000000) (v1 := (by omega)) (v2 := (by omega)) (lo1 := (by omega)) (lo2 := (by omega)) (hi1 := (by omega)) (hi2 := (by omega)) (ok := ok)) (fun hc4 ok3 => ?_) (fun hc4 ok3 => ?_)
  · skip
    refine z_if_eq (pc := 14) (tgt := 67) dX11_thanks_14 (by decide) (by decide) (by decide) (fun h => absurd h (by decide)) (fun _ => ?_)
    refine x_iload_n (pc := 17) dX11_thanks_17 (List.Mem.tail _ (List.Mem.tail _ (List.Mem.head _))) ?_
    refine z_i2l (pc := 18) dX11_thanks_18 (by omega) (by omega) ?_
    refine z_lconst (pc := 19) 0 dX11_thanks_19 rfl ?_
    refine z_ldc2_w (pc := 20) 100 dX11_thanks_20 cl_X11_286 (by decide) ?_
    refine z_callSbp (pc := 23) (i := mX11_within) (S := []) [.long (zL (t)), .long (zL (0)), .long (zL (100))] dX11_thanks_23 ml_X11_152 ok_X11_within rfl (Or.inr rfl) (Nat.le_of_ble_eq_true rfl) (c_X11_within (d := d) (v := t) (lo := 0) (hi := 100) (v1 := (by omega)) (v2 := (by omega)) (lo1 := (by omega)) (lo2 := (by omega)) (hi1 := (by omega)) (hi2 := (by omega)) (ok := ok3)) (fun hc8 ok7 => ?_) (fun hc8 ok7 => ?_)
    · skip
      refine z_if_eq (pc := 26) (tgt := 67) dX11_thanks_26 (by decide) (by decide) (by decide) (fun h => absurd h (by decide)) (fun _ => ?_)
      refine x_iload_n (pc := 29) dX11_thanks_29 (List.Mem.tail _ (List.Mem.tail _ (List.Mem.tail _ (List.Mem.head _)))) ?_
      refine z_i2l (pc := 30) dX11_thanks_30 (by omega) (by omega) ?_
      refine z_lconst (pc := 31) 0 dX11_thanks_31 rfl ?_
      refine z_ldc2_w (pc := 32) 100 dX11_thanks_32 cl_X11_286 (by decide) ?_
      refine z_callSbp (pc := 35) (i := mX11_within) (S := []) [.long (zL (a)), .long (zL (0)), .long (zL (100))] dX11_thanks_35 ml_X11_152 ok_X11_within rfl (Or.inr rfl) (Nat.le_of_ble_eq_true rfl) (c_X11_within (d := d) (v := a) (lo := 0) (hi := 100) (v1 := (by omega)) (v2 := (by omega)) (lo1 := (by omega)) (lo2 := (by omega)) (hi1 := (by omega)) (hi2 := (by omega)) (ok := ok7)) (fun hc12 ok11 => ?_) (fun hc12 ok11 => ?_)
      · skip
        refine z_if_eq (pc := 38) (tgt := 67) dX11_thanks_38 (by decide) (by decide) (by decide) (fun h => absurd h (by decide)) (fun _ => ?_)
        refine x_iload (pc := 41) dX11_thanks_41 (List.Mem.tail _ (List.Mem.tail _ (List.Mem.tail _ (List.Mem.tail _ (List.Mem.head _))))) ?_
        refine z_i2l (pc := 43) dX11_thanks_43 (by omega) (by omega) ?_
        refine z_lconst (pc := 44) 0 dX11_thanks_44 rfl ?_
        refine z_ldc2_w (pc := 45) 100 dX11_thanks_45 cl_X11_286 (by decide) ?_
        refine z_callSbp (pc := 48) (i := mX11_within) (S := []) [.long (zL (b)), .long (zL (0)), .long (zL (100))] dX11_thanks_48 ml_X11_152 ok_X11_within rfl (Or.inr rfl) (Nat.le_of_ble_eq_true rfl) (c_X11_within (d := d) (v := b) (lo := 0) (hi := 100) (v1 := (by omega)) (v2 := (by omega)) (lo1 := (by omega)) (lo2 := (by omega)) (hi1 := (by omega)) (hi2 := (by omega)) (ok := ok11)) (fun hc16 ok15 => ?_) (fun hc16 ok15 => ?_)
        · skip
          refine z_if_eq (pc := 51) (tgt := 67) dX11_thanks_51 (by decide) (by decide) (by decide) (fun h => absurd h (by decide)) (fun _ => ?_)
          refine x_iload (pc := 54) dX11_thanks_54 (List.Mem.tail _ (List.Mem.tail _ (List.Mem.tail _ (List.Mem.tail _ (List.Mem.tail _ (List.Mem.head _)))))) ?_
          refine z_i2l (pc := 56) dX11_thanks_56 (by omega) (by omega) ?_
          refine z_lconst (pc := 57) 0 dX11_thanks_57 rfl ?_
          refine z_ldc2_w (pc := 58) 99 dX11_thanks_58 cl_X11_281 (by decide) ?_
          refine z_callSbp (pc := 61) (i := mX11_within) (S := []) [.long (zL (n)), .long (zL (0)), .long (zL (99))] dX11_thanks_61 ml_X11_152 ok_X11_within rfl (Or.inr rfl) (Nat.le_of_ble_eq_true rfl) (c_X11_within (d := d) (v := n) (lo := 0) (hi := 99) (v1 := (by omega)) (v2 := (by omega)) (lo1 := (by omega)) (lo2 := (by omega)) (hi1 := (by omega)) (hi2 := (by omega)) (ok := ok15)) (fun hc20 ok19 => ?_) (fun hc20 ok19 => ?_)
          · skip
            refine z_if_ne (pc := 64) (tgt := 74) dX11_thanks_64 (by decide) (by decide) (by decide) (fun _ => ?_) (fun h => absurd h (by decide))
            refine x_iload_n (pc := 74) dX11_thanks_74 (List.Mem.tail _ (List.Mem.head _)) ?_
            refine z_i2l (pc := 75) dX11_thanks_75 (by omega) (by omega) ?_
            refine x_lstore (pc := 76) dX11_thanks_76 (Nat.le_of_ble_eq_true rfl) ?_
            show Ev _ _ _ _ _ [(6, .long (zL (s))), (0, .ref 0), (1, .int (zN (s))), (2, .int (zN (t))), (3, .int (zN (a))), (4, .int (zN (b))), (5, .int (zN (n)))] _ _
            refine z_iconst (pc := 78) dX11_thanks_78 ?_
            refine x_istore (pc := 79) dX11_thanks_79 (Nat.le_of_ble_eq_true rfl) ?_
            show Ev _ _ _ _ _ [(8, .int (zN (0))), (6, .long (zL (s))), (0, .ref 0), (1, .int (zN (s))), (2, .int (zN (t))), (3, .int (zN (a))), (4, .int (zN (b))), (5, .int (zN (n)))] _ _
            have lp81 : ∀ (nF : Nat) (k : Nat), ((k : Int) ≤ n) → n.toNat - k < nF → Ev zX mX11_thanks (EvC zX (d + 1)) (zPi (fun (r : Int) (H1 : ZH) => r = (S_thanks s t a b n).1 ∧ H1 = bumpM (S_thanks s t a b n).2 H)) 81 [(0, .ref 0), (1, .int (zN (s))), (2, .int (zN (t))), (3, .int (zN (a))), (4, .int (zN (b))), (5, .int (zN (n))), (6, .long (zL (zths s t a b k))), (8, .int (zN ((k : Int))))] [] (eh H) := by
              intro nF
              induction nF with
              | zero => intro k hk hm; exact absurd hm (Nat.not_lt_zero _)
              | succ nF ih81 =>
                intro k hk hm
                have zb := zths_bd (s := s) (t := t) (a := a) (b := b) (by omega) (by omega) (by omega) (by omega) (by omega) (by omega) (by omega) (by omega) k
                have zc := zthk_bd (v := zths s t a b k) (t := t) (a := a) (b := b) zb.1 zb.2 (by omega) (by omega) (by omega) (by omega) (by omega) (by omega)
                refine x_iload (pc := 81) dX11_thanks_81 (List.Mem.tail _ (List.Mem.tail _ (List.Mem.tail _ (List.Mem.tail _ (List.Mem.tail _ (List.Mem.tail _ (List.Mem.tail _ (List.Mem.head _)))))))) ?_
                refine x_iload (pc := 83) dX11_thanks_83 (List.Mem.tail _ (List.Mem.tail _ (List.Mem.tail _ (List.Mem.tail _ (List.Mem.tail _ (List.Mem.head _)))))) ?_
                refine z_icmp_ge (pc := 85) (tgt := 122) dX11_thanks_85 (by decide) (by omega) (by omega) (by omega) (by omega) (fun hb22 => ?_) (fun hb22 => ?_)
                · skip
                  refine x_lload (pc := 122) dX11_thanks_122 (List.Mem.tail _ (List.Mem.tail _ (List.Mem.tail _ (List.Mem.tail _ (List.Mem.tail _ (List.Mem.tail _ (List.Mem.head _))))))) ?_
                  refine z_l2i (pc := 124) dX11_thanks_124 ?_
                  refine z_ireturn (pc := 125) dX11_thanks_125 rfl (Or.inl rfl) ok19 (by omega) (by omega) ?_
                  have ek : k = n.toNat := by omega
                  have e : S_thanks s t a b n = (zths s t a b n.toNat, 6) := by unfold S_thanks; exact if_pos (by omega)
                  rw [e]
                  exact ⟨by rw [ek], rfl⟩
                · skip
                  refine x_lload (pc := 88) dX11_thanks_88 (List.Mem.tail _ (List.Mem.tail _ (List.Mem.tail _ (List.Mem.tail _ (List.Mem.tail _ (List.Mem.tail _ (List.Mem.head _))))))) ?_
                  refine x_iload_n (pc := 90) dX11_thanks_90 (List.Mem.tail _ (List.Mem.tail _ (List.Mem.head _))) ?_
                  refine z_i2l (pc := 91) dX11_thanks_91 (by omega) (by omega) ?_
                  refine z_lmul (pc := 92) dX11_thanks_92 ?_
                  refine x_iload_n (pc := 93) dX11_thanks_93 (List.Mem.tail _ (List.Mem.tail _ (List.Mem.tail _ (List.Mem.head _)))) ?_
                  refine z_i2l (pc := 94) dX11_thanks_94 (by omega) (by omega) ?_
                  refine z_lmul (pc := 95) dX11_thanks_95 ?_
                  refine z_ldc2_w (pc := 96) 100000000 dX11_thanks_96 cl_X11_379 (by decide) ?_
                  refine x_lload (pc := 99) dX11_thanks_99 (List.Mem.tail _ (List.Mem.tail _ (List.Mem.tail _ (List.Mem.tail _ (List.Mem.tail _ (List.Mem.tail _ (List.Mem.head _))))))) ?_
                  refine x_iload_n (pc := 101) dX11_thanks_101 (List.Mem.tail _ (List.Mem.tail _ (List.Mem.head _))) ?_
                  refine z_i2l (pc := 102) dX11_thanks_102 (by omega) (by omega) ?_
                  refine z_lmul (pc := 103) dX11_thanks_103 ?_
                  refine z_lsub (pc := 104) dX11_thanks_104 ?_
                  refine x_iload (pc := 105) dX11_thanks_105 (List.Mem.tail _ (List.Mem.tail _ (List.Mem.tail _ (List.Mem.tail _ (List.Mem.head _))))) ?_
                  refine z_i2l (pc := 107) dX11_thanks_107 (by omega) (by omega) ?_
                  refine z_lmul (pc := 108) dX11_thanks_108 ?_
                  refine z_ladd (pc := 109) dX11_thanks_109 ?_
                  refine z_ldc2_w (pc := 110) 10000 dX11_thanks_110 cl_X11_381 (by decide) ?_
                  refine z_ldivP (pc := 113) dX11_thanks_113 (by omega) (by omega) (by omega) (by omega) ?_
                  refine x_lstore (pc := 114) dX11_thanks_114 (Nat.le_of_ble_eq_true rfl) ?_
                  show Ev _ _ _ _ _ [(6, .long (zL (((((zths s t a b k * t) * a) + ((100000000 - (zths s t a b k * t)) * b)) / 10000)))), (0, .ref 0), (1, .int (zN (s))), (2, .int (zN (t))), (3, .int (zN (a))), (4, .int (zN (b))), (5, .int (zN (n))), (8, .int (zN ((k : Int))))] _ _
                  refine z_iinc (pc := 116) dX11_thanks_116 (List.Mem.tail _ (List.Mem.tail _ (List.Mem.tail _ (List.Mem.tail _ (List.Mem.tail _ (List.Mem.tail _ (List.Mem.tail _ (List.Mem.head _)))))))) (Nat.le_of_ble_eq_true rfl) ?_
                  show Ev _ _ _ _ _ [(8, .int (zN ((k : Int) + 1))), (6, .long (zL (((((zths s t a b k * t) * a) + ((100000000 - (zths s t a b k * t)) * b)) / 10000)))), (0, .ref 0), (1, .int (zN (s))), (2, .int (zN (t))), (3, .int (zN (a))), (4, .int (zN (b))), (5, .int (zN (n)))] _ _
                  refine x_goto (pc := 119) (tgt := 81) dX11_thanks_119 (by decide) ?_
                  refine x_weaken (L1 := [(0, .ref 0), (1, .int (zN (s))), (2, .int (zN (t))), (3, .int (zN (a))), (4, .int (zN (b))), (5, .int (zN (n))), (6, .long (zL (zths s t a b (k + 1)))), (8, .int (zN ((((k + 1) : Nat) : Int))))]) (List.forall_mem_cons.mpr ⟨(List.Mem.tail _ (List.Mem.tail _ (List.Mem.head _))), (List.forall_mem_cons.mpr ⟨(List.Mem.tail _ (List.Mem.tail _ (List.Mem.tail _ (List.Mem.head _)))), (List.forall_mem_cons.mpr ⟨(List.Mem.tail _ (List.Mem.tail _ (List.Mem.tail _ (List.Mem.tail _ (List.Mem.head _))))), (List.forall_mem_cons.mpr ⟨(List.Mem.tail _ (List.Mem.tail _ (List.Mem.tail _ (List.Mem.tail _ (List.Mem.tail _ (List.Mem.head _)))))), (List.forall_mem_cons.mpr ⟨(List.Mem.tail _ (List.Mem.tail _ (List.Mem.tail _ (List.Mem.tail _ (List.Mem.tail _ (List.Mem.tail _ (List.Mem.head _))))))), (List.forall_mem_cons.mpr ⟨(List.Mem.tail _ (List.Mem.tail _ (List.Mem.tail _ (List.Mem.tail _ (List.Mem.tail _ (List.Mem.tail _ (List.Mem.tail _ (List.Mem.head _)))))))), (List.forall_mem_cons.mpr ⟨(mem_cl (rfl) (List.Mem.tail _ (List.Mem.head _))), (List.forall_mem_cons.mpr ⟨(mem_ci (by omega) (List.Mem.head _)), (fun _ h => absurd h List.not_mem_nil)⟩)⟩)⟩)⟩)⟩)⟩)⟩)⟩) ?_
                  exact ih81 ((k + 1)) (by first | assumption | omega) (by omega)
            refine x_weaken (L1 := [(0, .ref 0), (1, .int (zN (s))), (2, .int (zN (t))), (3, .int (zN (a))), (4, .int (zN (b))), (5, .int (zN (n))), (6, .long (zL (zths s t a b 0))), (8, .int (zN (((0 : Nat) : Int))))]) (List.forall_mem_cons.mpr ⟨(List.Mem.tail _ (List.Mem.tail _ (List.Mem.head _))), (List.forall_mem_cons.mpr ⟨(List.Mem.tail _ (List.Mem.tail _ (List.Mem.tail _ (List.Mem.head _)))), (List.forall_mem_cons.mpr ⟨(List.Mem.tail _ (List.Mem.tail _ (List.Mem.tail _ (List.Mem.tail _ (List.Mem.head _))))), (List.forall_mem_cons.mpr ⟨(List.Mem.tail _ (List.Mem.tail _ (List.Mem.tail _ (List.Mem.tail _ (List.Mem.tail _ (List.Mem.head _)))))), (List.forall_mem_cons.mpr ⟨(List.Mem.tail _ (List.Mem.tail _ (List.Mem.tail _ (List.Mem.tail _ (List.Mem.tail _ (List.Mem.tail _ (List.Mem.head _))))))), (List.forall_mem_cons.mpr ⟨(List.Mem.tail _ (List.Mem.tail _ (List.Mem.tail _ (List.Mem.tail _ (List.Mem.tail _ (List.Mem.tail _ (List.Mem.tail _ (List.Mem.head _)))))))), (List.forall_mem_cons.mpr ⟨(mem_cl (rfl) (List.Mem.tail _ (List.Mem.head _))), (List.forall_mem_cons.mpr ⟨(mem_ci (by omega) (List.Mem.head _)), (fun _ h => absurd h List.not_mem_nil)⟩)⟩)⟩)⟩)⟩)⟩)⟩)⟩) ?_
            exact lp81 (n.toNat - 0 + 1) (0) (by first | assumption | omega) (Nat.lt_succ_self _)
          · skip
            refine z_if_ne (pc := 64) (tgt := 74) dX11_thanks_64 (by decide) (by decide) (by decide) (fun h => absurd h (by decide)) (fun _ => ?_)
            refine x_aload_n (pc := 67) dX11_thanks_67 (List.Mem.head _) ?_
            refine z_bipush (pc := 68) dX11_thanks_68 bp_m3 ?_
            refine z_callVip (pc := 70) (i := mX11_no) (S := []) [.int (zN ((-3)))] dX11_thanks_70 ml_X11_89 ok_X11_no rfl sh_0 rfl (Or.inl rfl) (Nat.le_of_ble_eq_true rfl) (c_X11_no (d := d) (code := ((-3))) (code1 := (by omega)) (code2 := (by omega)) (ok := ok19) (cn := (by first | assumption | omega))) (fun r24a r24b ok25 => ?_)
            show Ev _ _ _ _ _ _ _ (eh (wI H 1 ((refIx ((-3)))) (H.1 1 (refIx ((-3))) + 1)))
            refine z_ireturn (pc := 73) dX11_thanks_73 rfl (Or.inl rfl) ok25 (by omega) (by omega) ?_
            have e : S_thanks s t a b n = (-3, 1) := by unfold S_thanks; exact if_neg (by omega)
            rw [e]
            exact ⟨rfl, rfl⟩
        · skip
          refine z_if_eq (pc := 51) (tgt := 67) dX11_thanks_51 (by decide) (by decide) (by decide) (fun _ => ?_) (fun h => absurd h (by decide))
          refine x_aload_n (pc := 67) dX11_thanks_67 (List.Mem.head _) ?_
          refine z_bipush (pc := 68) dX11_thanks_68 bp_m3 ?_
          refine z_callVip (pc := 70) (i := mX11_no) (S := []) [.int (zN ((-3)))] dX11_thanks_70 ml_X11_89 ok_X11_no rfl sh_0 rfl (Or.inl rfl) (Nat.le_of_ble_eq_true rfl) (c_X11_no (d := d) (code := ((-3))) (code1 := (by omega)) (code2 := (by omega)) (ok := ok15) (cn := (by first | assumption | omega))) (fun r27a r27b ok28 => ?_)
          show Ev _ _ _ _ _ _ _ (eh (wI H 1 ((refIx ((-3)))) (H.1 1 (refIx ((-3))) + 1)))
          refine z_ireturn (pc := 73) dX11_thanks_73 rfl (Or.inl rfl) ok28 (by omega) (by omega) ?_
          have e : S_thanks s t a b n = (-3, 1) := by unfold S_thanks; exact if_neg (by omega)
          rw [e]
          exact ⟨rfl, rfl⟩
      · skip
        refine z_if_eq (pc := 38) (tgt := 67) dX11_thanks_38 (by decide) (by decide) (by decide) (fun _ => ?_) (fun h => absurd h (by decide))
        refine x_aload_n (pc := 67) dX11_thanks_67 (List.Mem.head _) ?_
        refine z_bipush (pc := 68) dX11_thanks_68 bp_m3 ?_
        refine z_callVip (pc := 70) (i := mX11_no) (S := []) [.int (zN ((-3)))] dX11_thanks_70 ml_X11_89 ok_X11_no rfl sh_0 rfl (Or.inl rfl) (Nat.le_of_ble_eq_true rfl) (c_X11_no (d := d) (code := ((-3))) (code1 := (by omega)) (code2 := (by omega)) (ok := ok11) (cn := (by first | assumption | omega))) (fun r30a r30b ok31 => ?_)
        show Ev _ _ _ _ _ _ _ (eh (wI H 1 ((refIx ((-3)))) (H.1 1 (refIx ((-3))) + 1)))
        refine z_ireturn (pc := 73) dX11_thanks_73 rfl (Or.inl rfl) ok31 (by omega) (by omega) ?_
        have e : S_thanks s t a b n = (-3, 1) := by unfold S_thanks; exact if_neg (by omega)
        rw [e]
        exact ⟨rfl, rfl⟩
    · skip
      refine z_if_eq (pc := 26) (tgt := 67) dX11_thanks_26 (by decide) (by decide) (by decide) (fun _ => ?_) (fun h => absurd h (by decide))
      refine x_aload_n (pc := 67) dX11_thanks_67 (List.Mem.head _) ?_
      refine z_bipush (pc := 68) dX11_thanks_68 bp_m3 ?_
      refine z_callVip (pc := 70) (i := mX11_no) (S := []) [.int (zN ((-3)))] dX11_thanks_70 ml_X11_89 ok_X11_no rfl sh_0 rfl (Or.inl rfl) (Nat.le_of_ble_eq_true rfl) (c_X11_no (d := d) (code := ((-3))) (code1 := (by omega)) (code2 := (by omega)) (ok := ok7) (cn := (by first | assumption | omega))) (fun r33a r33b ok34 => ?_)
      show Ev _ _ _ _ _ _ _ (eh (wI H 1 ((refIx ((-3)))) (H.1 1 (refIx ((-3))) + 1)))
      refine z_ireturn (pc := 73) dX11_thanks_73 rfl (Or.inl rfl) ok34 (by omega) (by omega) ?_
      have e : S_thanks s t a b n = (-3, 1) := by unfold S_thanks; exact if_neg (by omega)
      rw [e]
      exact ⟨rfl, rfl⟩
  · skip
    refine z_if_eq (pc := 14) (tgt := 67) dX11_thanks_14 (by decide) (by decide) (by decide) (fun _ => ?_) (fun h => absurd h (by decide))
    refine x_aload_n (pc := 67) dX11_thanks_67 (List.Mem.head _) ?_
    refine z_bipush (pc := 68) dX11_thanks_68 bp_m3 ?_
    refine z_callVip (pc := 70) (i := mX11_no) (S := []) [.int (zN ((-3)))] dX11_thanks_70 ml_X11_89 ok_X11_no rfl sh_0 rfl (Or.inl rfl) (Nat.le_of_ble_eq_true rfl) (c_X11_no (d := d) (code := ((-3))) (code1 := (by omega)) (code2 := (by omega)) (ok := ok3) (cn := (by first | assumption | omega))) (fun r36a r36b ok37 => ?_)
    show Ev _ _ _ _ _ _ _ (eh (wI H 1 ((refIx ((-3)))) (H.1 1 (refIx ((-3))) + 1)))
    refine z_ireturn (pc := 73) dX11_thanks_73 rfl (Or.inl rfl) ok37 (by omega) (by omega) ?_
    have e : S_thanks s t a b n = (-3, 1) := by unfold S_thanks; exact if_neg (by omega)
    rw [e]
    exact ⟨rfl, rfl⟩

theorem c_X10_lamp {d : Nat} {H : ZH} (ok : okZ H) {ca wa what : Int} (ca1 : -2147483648 ≤ ca) (ca2 : ca ≤ 2147483647) (wa1 : -2147483648 ≤ wa) (wa2 : wa ≤ 2147483647) (what1 : -2147483648 ≤ what) (what2 : what ≤ 2147483647) (cn : cntOK H 25) : EvC zX (d + 2) mX10_lamp [.ref 20, .int (zN (ca)), .int (zN (wa)), .int (zN (what))] (eh H) (zPi (fun (r : Int) (H1 : ZH) => r = (S_lamp ca wa what).1 ∧ H1 = bumpC (S_lamp ca wa what).2 H)) := by
  show _ ∧ Ev zX mX10_lamp (EvC zX (d + 1)) (zPi (fun (r : Int) (H1 : ZH) => r = (S_lamp ca wa what).1 ∧ H1 = bumpC (S_lamp ca wa what).2 H)) 0 [(0, .ref 20), (1, .int (zN (ca))), (2, .int (zN (wa))), (3, .int (zN (what)))] [] (eh H)
  refine ⟨Nat.le_of_ble_eq_true rfl, ?_⟩
  refine x_iload_n (pc := 0) dX10_lamp_0 (List.Mem.tail _ (List.Mem.tail _ (List.Mem.tail _ (List.Mem.head _)))) ?_
  refine z_if_lt (pc := 1) (tgt := 9) dX10_lamp_1 (by decide) (by omega) (by omega) (fun hb1 => ?_) (fun hb1 => ?_)
  · skip
    refine x_aload_n (pc := 9) dX10_lamp_9 (List.Mem.head _) ?_
    refine z_bipush (pc := 10) dX10_lamp_10 bp_m2 ?_
    refine z_callVip (pc := 12) (i := mX10_refuse) (S := []) [.int (zN ((-2)))] dX10_lamp_12 ml_X10_97 ok_X10_refuse rfl sh_20 rfl (Or.inl rfl) (Nat.le_of_ble_eq_true rfl) (c_X10_refuse (d := d) (code := ((-2))) (code1 := (by omega)) (code2 := (by omega)) (ok := ok) (cn := (by first | assumption | omega))) (fun r2a r2b ok3 => ?_)
    show Ev _ _ _ _ _ _ _ (eh (wI H 25 ((refIx ((-2)))) (H.1 25 (refIx ((-2))) + 1)))
    refine z_ireturn (pc := 15) dX10_lamp_15 rfl (Or.inl rfl) ok3 (by omega) (by omega) ?_
    have e : S_lamp ca wa what = (-2, 0) := by unfold S_lamp; exact if_neg (by omega)
    rw [e]
    exact ⟨rfl, rfl⟩
  · skip
    refine x_iload_n (pc := 4) dX10_lamp_4 (List.Mem.tail _ (List.Mem.tail _ (List.Mem.tail _ (List.Mem.head _)))) ?_
    refine z_iconst (pc := 5) dX10_lamp_5 ?_
    refine z_icmp_le (pc := 6) (tgt := 16) dX10_lamp_6 (by decide) (by omega) (by omega) (by decide) (by decide) (fun hb4 => ?_) (fun hb4 => ?_)
    · skip
      refine x_iload_n (pc := 16) dX10_lamp_16 (List.Mem.tail _ (List.Mem.head _)) ?_
      refine z_sipush (pc := 17) dX10_lamp_17 sp_999 ?_
      refine z_callSbp (pc := 20) (i := mX10_isWithin) (S := []) [.int (zN (ca)), .int (zN (999))] dX10_lamp_20 ml_X10_302 ok_X10_isWithin rfl (Or.inr rfl) (Nat.le_of_ble_eq_true rfl) (c_X10_isWithin (d := d) (v := ca) (hi := 999) (v1 := (by omega)) (v2 := (by omega)) (hi1 := (by omega)) (hi2 := (by omega)) (ok := ok)) (fun hc7 ok6 => ?_) (fun hc7 ok6 => ?_)
      · skip
        refine z_if_eq (pc := 23) (tgt := 36) dX10_lamp_23 (by decide) (by decide) (by decide) (fun h => absurd h (by decide)) (fun _ => ?_)
        refine x_iload_n (pc := 26) dX10_lamp_26 (List.Mem.tail _ (List.Mem.tail _ (List.Mem.head _))) ?_
        refine z_sipush (pc := 27) dX10_lamp_27 sp_999 ?_
        refine z_callSbp (pc := 30) (i := mX10_isWithin) (S := []) [.int (zN (wa)), .int (zN (999))] dX10_lamp_30 ml_X10_302 ok_X10_isWithin rfl (Or.inr rfl) (Nat.le_of_ble_eq_true rfl) (c_X10_isWithin (d := d) (v := wa) (hi := 999) (v1 := (by omega)) (v2 := (by omega)) (hi1 := (by omega)) (hi2 := (by omega)) (ok := ok6)) (fun hc11 ok10 => ?_) (fun hc11 ok10 => ?_)
        · skip
          refine z_if_ne (pc := 33) (tgt := 43) dX10_lamp_33 (by decide) (by decide) (by decide) (fun _ => ?_) (fun h => absurd h (by decide))
          refine z_iconst (pc := 43) dX10_lamp_43 ?_
          refine x_istore (pc := 44) dX10_lamp_44 (Nat.le_of_ble_eq_true rfl) ?_
          show Ev _ _ _ _ _ [(4, .int (zN (0))), (0, .ref 20), (1, .int (zN (ca))), (2, .int (zN (wa))), (3, .int (zN (what)))] _ _
          refine z_iconst (pc := 46) dX10_lamp_46 ?_
          refine x_istore (pc := 47) dX10_lamp_47 (Nat.le_of_ble_eq_true rfl) ?_
          show Ev _ _ _ _ _ [(5, .int (zN (0))), (4, .int (zN (0))), (0, .ref 20), (1, .int (zN (ca))), (2, .int (zN (wa))), (3, .int (zN (what)))] _ _
          refine z_lconst (pc := 49) 0 dX10_lamp_49 rfl ?_
          refine x_lstore (pc := 50) dX10_lamp_50 (Nat.le_of_ble_eq_true rfl) ?_
          show Ev _ _ _ _ _ [(6, .long (zL (0))), (5, .int (zN (0))), (4, .int (zN (0))), (0, .ref 20), (1, .int (zN (ca))), (2, .int (zN (wa))), (3, .int (zN (what)))] _ _
          refine z_bipush (pc := 52) dX10_lamp_52 bp_20 ?_
          refine x_istore (pc := 54) dX10_lamp_54 (Nat.le_of_ble_eq_true rfl) ?_
          show Ev _ _ _ _ _ [(8, .int (zN (20))), (6, .long (zL (0))), (5, .int (zN (0))), (4, .int (zN (0))), (0, .ref 20), (1, .int (zN (ca))), (2, .int (zN (wa))), (3, .int (zN (what)))] _ _
          have lp56 : ∀ (nF : Nat) (j : Nat), (j ≤ 101) → 101 - j < nF → Ev zX mX10_lamp (EvC zX (d + 1)) (zPi (fun (r : Int) (H1 : ZH) => r = (S_lamp ca wa what).1 ∧ H1 = bumpC (S_lamp ca wa what).2 H)) 56 [(0, .ref 20), (1, .int (zN (ca))), (2, .int (zN (wa))), (3, .int (zN (what))), (4, .int (zN ((zlout ca wa j).1))), (5, .int (zN ((zlout ca wa j).2.1))), (6, .long (zL ((zlout ca wa j).2.2))), (8, .int (zN ((20 + (j : Int)))))] [] (eh H) := by
            intro nF
            induction nF with
            | zero => intro j hj hm; exact absurd hm (Nat.not_lt_zero _)
            | succ nF ih56 =>
              intro j hj hm
              have zo := zlout_ok (ca := ca) (wa := wa) (by omega) (by omega) (by omega) (by omega) j hj
              have zo1 := zo.1
              have zo2 := zo.2.1
              have zo3 := zo.2.2
              refine x_iload (pc := 56) dX10_lamp_56 (List.Mem.tail _ (List.Mem.tail _ (List.Mem.tail _ (List.Mem.tail _ (List.Mem.tail _ (List.Mem.tail _ (List.Mem.tail _ (List.Mem.head _)))))))) ?_
              refine z_bipush (pc := 58) dX10_lamp_58 bp_120 ?_
              refine z_icmp_gt (pc := 60) (tgt := 145) dX10_lamp_60 (by decide) (by omega) (by omega) (by decide) (by decide) (fun hb13 => ?_) (fun hb13 => ?_)
              · skip
                refine x_iload_n (pc := 145) dX10_lamp_145 (List.Mem.tail _ (List.Mem.tail _ (List.Mem.tail _ (List.Mem.head _)))) ?_
                refine z_if_ne (pc := 146) (tgt := 154) dX10_lamp_146 (by decide) (by omega) (by omega) (fun hb14 => ?_) (fun hb14 => ?_)
                · skip
                  refine x_iload (pc := 154) dX10_lamp_154 (List.Mem.tail _ (List.Mem.tail _ (List.Mem.tail _ (List.Mem.tail _ (List.Mem.tail _ (List.Mem.head _)))))) ?_
                  refine z_ireturn (pc := 156) dX10_lamp_156 rfl (Or.inl rfl) ok10 (by omega) (by omega) ?_
                  have ej : j = 101 := by omega
                  have e : S_lamp ca wa what = ((if what = 0 then (zlout ca wa 101).1 else (zlout ca wa 101).2.1), 6) := by unfold S_lamp; rw [if_pos (by omega)]; exact if_pos (by omega)
                  rw [e, ← ej]
                  refine ⟨?_, rfl⟩
                  first | exact (if_pos (by omega)).symm | exact (if_neg (by omega)).symm
                · skip
                  refine x_iload (pc := 149) dX10_lamp_149 (List.Mem.tail _ (List.Mem.tail _ (List.Mem.tail _ (List.Mem.tail _ (List.Mem.head _))))) ?_
                  refine x_goto (pc := 151) (tgt := 156) dX10_lamp_151 (by decide) ?_
                  refine z_ireturn (pc := 156) dX10_lamp_156 rfl (Or.inl rfl) ok10 (by omega) (by omega) ?_
                  have ej : j = 101 := by omega
                  have e : S_lamp ca wa what = ((if what = 0 then (zlout ca wa 101).1 else (zlout ca wa 101).2.1), 6) := by unfold S_lamp; rw [if_pos (by omega)]; exact if_pos (by omega)
                  rw [e, ← ej]
                  refine ⟨?_, rfl⟩
                  first | exact (if_pos (by omega)).symm | exact (if_neg (by omega)).symm
              · skip
                refine z_iconst (pc := 63) dX10_lamp_63 ?_
                refine x_istore (pc := 64) dX10_lamp_64 (Nat.le_of_ble_eq_true rfl) ?_
                show Ev _ _ _ _ _ [(9, .int (zN (5))), (0, .ref 20), (1, .int (zN (ca))), (2, .int (zN (wa))), (3, .int (zN (what))), (4, .int (zN ((zlout ca wa j).1))), (5, .int (zN ((zlout ca wa j).2.1))), (6, .long (zL ((zlout ca wa j).2.2))), (8, .int (zN ((20 + (j : Int)))))] _ _
                have lp66 : ∀ (nF : Nat) (i : Nat), (i ≤ j + 6) → j + 6 - i < nF → Ev zX mX10_lamp (EvC zX (d + 1)) (zPi (fun (r : Int) (H1 : ZH) => r = (S_lamp ca wa what).1 ∧ H1 = bumpC (S_lamp ca wa what).2 H)) 66 [(0, .ref 20), (1, .int (zN (ca))), (2, .int (zN (wa))), (3, .int (zN (what))), (4, .int (zN ((zlin ca wa (20 + (j : Int)) i (zlout ca wa j)).1))), (5, .int (zN ((zlin ca wa (20 + (j : Int)) i (zlout ca wa j)).2.1))), (6, .long (zL ((zlin ca wa (20 + (j : Int)) i (zlout ca wa j)).2.2))), (8, .int (zN ((20 + (j : Int))))), (9, .int (zN ((5 + (i : Int)))))] [] (eh H) := by
                  intro nF
                  induction nF with
                  | zero => intro i hi hm; exact absurd hm (Nat.not_lt_zero _)
                  | succ nF ih66 =>
                    intro i hi hm
                    have zi := zlin_ok (ca := ca) (wa := wa) (c := 20 + (j : Int)) (q := zlout ca wa j) (by omega) (by omega) (by omega) (by omega) (by omega) zo i (by omega)
                    have zi1 := zi.1
                    have zi2 := zi.2.1
                    have zi3 := zi.2.2
                    refine x_iload (pc := 66) dX10_lamp_66 (List.Mem.tail _ (List.Mem.tail _ (List.Mem.tail _ (List.Mem.tail _ (List.Mem.tail _ (List.Mem.tail _ (List.Mem.tail _ (List.Mem.tail _ (List.Mem.head _))))))))) ?_
                    refine x_iload (pc := 68) dX10_lamp_68 (List.Mem.tail _ (List.Mem.tail _ (List.Mem.tail _ (List.Mem.tail _ (List.Mem.tail _ (List.Mem.tail _ (List.Mem.tail _ (List.Mem.head _)))))))) ?_
                    refine z_bipush (pc := 70) dX10_lamp_70 bp_10 ?_
                    refine z_isub (pc := 72) dX10_lamp_72 ?_
                    refine z_icmp_gt (pc := 73) (tgt := 139) dX10_lamp_73 (by decide) (by omega) (by omega) (by omega) (by omega) (fun hb15 => ?_) (fun hb15 => ?_)
                    · skip
                      refine z_iinc (pc := 139) dX10_lamp_139 (List.Mem.tail _ (List.Mem.tail _ (List.Mem.tail _ (List.Mem.tail _ (List.Mem.tail _ (List.Mem.tail _ (List.Mem.tail _ (List.Mem.head _)))))))) (Nat.le_of_ble_eq_true rfl) ?_
                      show Ev _ _ _ _ _ [(8, .int (zN ((20 + (j : Int)) + 1))), (0, .ref 20), (1, .int (zN (ca))), (2, .int (zN (wa))), (3, .int (zN (what))), (4, .int (zN ((zlin ca wa (20 + (j : Int)) i (zlout ca wa j)).1))), (5, .int (zN ((zlin ca wa (20 + (j : Int)) i (zlout ca wa j)).2.1))), (6, .long (zL ((zlin ca wa (20 + (j : Int)) i (zlout ca wa j)).2.2))), (9, .int (zN ((5 + (i : Int)))))] _ _
                      refine x_goto (pc := 142) (tgt := 56) dX10_lamp_142 (by decide) ?_
                      refine x_weaken (L1 := [(0, .ref 20), (1, .int (zN (ca))), (2, .int (zN (wa))), (3, .int (zN (what))), (4, .int (zN ((zlout ca wa (j + 1)).1))), (5, .int (zN ((zlout ca wa (j + 1)).2.1))), (6, .long (zL ((zlout ca wa (j + 1)).2.2))), (8, .int (zN ((20 + (((j + 1) : Nat) : Int)))))]) (List.forall_mem_cons.mpr ⟨(List.Mem.tail _ (List.Mem.head _)), (List.forall_mem_cons.mpr ⟨(List.Mem.tail _ (List.Mem.tail _ (List.Mem.head _))), (List.forall_mem_cons.mpr ⟨(List.Mem.tail _ (List.Mem.tail _ (List.Mem.tail _ (List.Mem.head _)))), (List.forall_mem_cons.mpr ⟨(List.Mem.tail _ (List.Mem.tail _ (List.Mem.tail _ (List.Mem.tail _ (List.Mem.head _))))), (List.forall_mem_cons.mpr ⟨(mem_ci (by rw [show i = j + 6 by omega]; rfl) (List.Mem.tail _ (List.Mem.tail _ (List.Mem.tail _ (List.Mem.tail _ (List.Mem.tail _ (List.Mem.head _))))))), (List.forall_mem_cons.mpr ⟨(mem_ci (by rw [show i = j + 6 by omega]; rfl) (List.Mem.tail _ (List.Mem.tail _ (List.Mem.tail _ (List.Mem.tail _ (List.Mem.tail _ (List.Mem.tail _ (List.Mem.head _)))))))), (List.forall_mem_cons.mpr ⟨(mem_cl (by rw [show i = j + 6 by omega]; rfl) (List.Mem.tail _ (List.Mem.tail _ (List.Mem.tail _ (List.Mem.tail _ (List.Mem.tail _ (List.Mem.tail _ (List.Mem.tail _ (List.Mem.head _))))))))), (List.forall_mem_cons.mpr ⟨(mem_ci (by omega) (List.Mem.head _)), (fun _ h => absurd h List.not_mem_nil)⟩)⟩)⟩)⟩)⟩)⟩)⟩)⟩) ?_
                      exact ih56 ((j + 1)) (by omega) (by omega)
                    · skip
                      have zv := zlv_bd (ca := ca) (wa := wa) (c := 20 + (j : Int)) (g := 5 + (i : Int)) (by omega) (by omega) (by omega) (by omega) (by omega) (by omega) (by omega)
                      refine x_iload_n (pc := 76) dX10_lamp_76 (List.Mem.tail _ (List.Mem.head _)) ?_
                      refine x_iload (pc := 77) dX10_lamp_77 (List.Mem.tail _ (List.Mem.tail _ (List.Mem.tail _ (List.Mem.tail _ (List.Mem.tail _ (List.Mem.tail _ (List.Mem.tail _ (List.Mem.tail _ (List.Mem.head _))))))))) ?_
                      refine z_imul (pc := 79) dX10_lamp_79 ?_
                      refine x_iload (pc := 80) dX10_lamp_80 (List.Mem.tail _ (List.Mem.tail _ (List.Mem.tail _ (List.Mem.tail _ (List.Mem.tail _ (List.Mem.tail _ (List.Mem.tail _ (List.Mem.tail _ (List.Mem.head _))))))))) ?_
                      refine z_imul (pc := 82) dX10_lamp_82 ?_
                      refine x_iload_n (pc := 83) dX10_lamp_83 (List.Mem.tail _ (List.Mem.tail _ (List.Mem.head _))) ?_
                      refine x_iload (pc := 84) dX10_lamp_84 (List.Mem.tail _ (List.Mem.tail _ (List.Mem.tail _ (List.Mem.tail _ (List.Mem.tail _ (List.Mem.tail _ (List.Mem.tail _ (List.Mem.head _)))))))) ?_
                      refine x_iload (pc := 86) dX10_lamp_86 (List.Mem.tail _ (List.Mem.tail _ (List.Mem.tail _ (List.Mem.tail _ (List.Mem.tail _ (List.Mem.tail _ (List.Mem.tail _ (List.Mem.tail _ (List.Mem.head _))))))))) ?_
                      refine z_isub (pc := 88) dX10_lamp_88 ?_
                      refine z_imul (pc := 89) dX10_lamp_89 ?_
                      refine x_iload (pc := 90) dX10_lamp_90 (List.Mem.tail _ (List.Mem.tail _ (List.Mem.tail _ (List.Mem.tail _ (List.Mem.tail _ (List.Mem.tail _ (List.Mem.tail _ (List.Mem.head _)))))))) ?_
                      refine x_iload (pc := 92) dX10_lamp_92 (List.Mem.tail _ (List.Mem.tail _ (List.Mem.tail _ (List.Mem.tail _ (List.Mem.tail _ (List.Mem.tail _ (List.Mem.tail _ (List.Mem.tail _ (List.Mem.head _))))))))) ?_
                      refine z_isub (pc := 94) dX10_lamp_94 ?_
                      refine z_imul (pc := 95) dX10_lamp_95 ?_
                      refine z_iadd (pc := 96) dX10_lamp_96 ?_
                      refine z_i2l (pc := 97) dX10_lamp_97 (by omega) (by omega) ?_
                      refine x_lstore (pc := 98) dX10_lamp_98 (Nat.le_of_ble_eq_true rfl) ?_
                      show Ev _ _ _ _ _ [(10, .long (zL ((((ca * (5 + (i : Int))) * (5 + (i : Int))) + ((wa * ((20 + (j : Int)) - (5 + (i : Int)))) * ((20 + (j : Int)) - (5 + (i : Int)))))))), (0, .ref 20), (1, .int (zN (ca))), (2, .int (zN (wa))), (3, .int (zN (what))), (4, .int (zN ((zlin ca wa (20 + (j : Int)) i (zlout ca wa j)).1))), (5, .int (zN ((zlin ca wa (20 + (j : Int)) i (zlout ca wa j)).2.1))), (6, .long (zL ((zlin ca wa (20 + (j : Int)) i (zlout ca wa j)).2.2))), (8, .int (zN ((20 + (j : Int))))), (9, .int (zN ((5 + (i : Int)))))] _ _
                      refine x_iload (pc := 100) dX10_lamp_100 (List.Mem.tail _ (List.Mem.tail _ (List.Mem.tail _ (List.Mem.tail _ (List.Mem.tail _ (List.Mem.head _)))))) ?_
                      refine z_if_eq (pc := 102) (tgt := 121) dX10_lamp_102 (by decide) (by omega) (by omega) (fun hb16 => ?_) (fun hb16 => ?_)
                      · skip
                        refine x_iload (pc := 121) dX10_lamp_121 (List.Mem.tail _ (List.Mem.tail _ (List.Mem.tail _ (List.Mem.tail _ (List.Mem.tail _ (List.Mem.tail _ (List.Mem.tail _ (List.Mem.tail _ (List.Mem.head _))))))))) ?_
                        refine x_istore (pc := 123) dX10_lamp_123 (Nat.le_of_ble_eq_true rfl) ?_
                        show Ev _ _ _ _ _ [(4, .int (zN ((20 + (j : Int))))), (10, .long (zL ((((ca * (5 + (i : Int))) * (5 + (i : Int))) + ((wa * ((20 + (j : Int)) - (5 + (i : Int)))) * ((20 + (j : Int)) - (5 + (i : Int)))))))), (0, .ref 20), (1, .int (zN (ca))), (2, .int (zN (wa))), (3, .int (zN (what))), (5, .int (zN ((zlin ca wa (20 + (j : Int)) i (zlout ca wa j)).2.1))), (6, .long (zL ((zlin ca wa (20 + (j : Int)) i (zlout ca wa j)).2.2))), (8, .int (zN ((20 + (j : Int))))), (9, .int (zN ((5 + (i : Int)))))] _ _
                        refine x_iload (pc := 125) dX10_lamp_125 (List.Mem.tail _ (List.Mem.tail _ (List.Mem.tail _ (List.Mem.tail _ (List.Mem.tail _ (List.Mem.tail _ (List.Mem.tail _ (List.Mem.tail _ (List.Mem.tail _ (List.Mem.head _)))))))))) ?_
                        refine x_istore (pc := 127) dX10_lamp_127 (Nat.le_of_ble_eq_true rfl) ?_
                        show Ev _ _ _ _ _ [(5, .int (zN ((5 + (i : Int))))), (4, .int (zN ((20 + (j : Int))))), (10, .long (zL ((((ca * (5 + (i : Int))) * (5 + (i : Int))) + ((wa * ((20 + (j : Int)) - (5 + (i : Int)))) * ((20 + (j : Int)) - (5 + (i : Int)))))))), (0, .ref 20), (1, .int (zN (ca))), (2, .int (zN (wa))), (3, .int (zN (what))), (6, .long (zL ((zlin ca wa (20 + (j : Int)) i (zlout ca wa j)).2.2))), (8, .int (zN ((20 + (j : Int))))), (9, .int (zN ((5 + (i : Int)))))] _ _
                        refine x_lload (pc := 129) dX10_lamp_129 (List.Mem.tail _ (List.Mem.tail _ (List.Mem.head _))) ?_
                        refine x_lstore (pc := 131) dX10_lamp_131 (Nat.le_of_ble_eq_true rfl) ?_
                        show Ev _ _ _ _ _ [(6, .long (zL ((((ca * (5 + (i : Int))) * (5 + (i : Int))) + ((wa * ((20 + (j : Int)) - (5 + (i : Int)))) * ((20 + (j : Int)) - (5 + (i : Int)))))))), (5, .int (zN ((5 + (i : Int))))), (4, .int (zN ((20 + (j : Int))))), (10, .long (zL ((((ca * (5 + (i : Int))) * (5 + (i : Int))) + ((wa * ((20 + (j : Int)) - (5 + (i : Int)))) * ((20 + (j : Int)) - (5 + (i : Int)))))))), (0, .ref 20), (1, .int (zN (ca))), (2, .int (zN (wa))), (3, .int (zN (what))), (8, .int (zN ((20 + (j : Int))))), (9, .int (zN ((5 + (i : Int)))))] _ _
                        refine z_iinc (pc := 133) dX10_lamp_133 (List.Mem.tail _ (List.Mem.tail _ (List.Mem.tail _ (List.Mem.tail _ (List.Mem.tail _ (List.Mem.tail _ (List.Mem.tail _ (List.Mem.tail _ (List.Mem.tail _ (List.Mem.head _)))))))))) (Nat.le_of_ble_eq_true rfl) ?_
                        show Ev _ _ _ _ _ [(9, .int (zN ((5 + (i : Int)) + 1))), (6, .long (zL ((((ca * (5 + (i : Int))) * (5 + (i : Int))) + ((wa * ((20 + (j : Int)) - (5 + (i : Int)))) * ((20 + (j : Int)) - (5 + (i : Int)))))))), (5, .int (zN ((5 + (i : Int))))), (4, .int (zN ((20 + (j : Int))))), (10, .long (zL ((((ca * (5 + (i : Int))) * (5 + (i : Int))) + ((wa * ((20 + (j : Int)) - (5 + (i : Int)))) * ((20 + (j : Int)) - (5 + (i : Int)))))))), (0, .ref 20), (1, .int (zN (ca))), (2, .int (zN (wa))), (3, .int (zN (what))), (8, .int (zN ((20 + (j : Int)))))] _ _
                        refine x_goto (pc := 136) (tgt := 66) dX10_lamp_136 (by decide) ?_
                        refine x_weaken (L1 := [(0, .ref 20), (1, .int (zN (ca))), (2, .int (zN (wa))), (3, .int (zN (what))), (4, .int (zN ((zlin ca wa (20 + (j : Int)) (i + 1) (zlout ca wa j)).1))), (5, .int (zN ((zlin ca wa (20 + (j : Int)) (i + 1) (zlout ca wa j)).2.1))), (6, .long (zL ((zlin ca wa (20 + (j : Int)) (i + 1) (zlout ca wa j)).2.2))), (8, .int (zN ((20 + (j : Int))))), (9, .int (zN ((5 + (((i + 1) : Nat) : Int)))))]) (List.forall_mem_cons.mpr ⟨(List.Mem.tail _ (List.Mem.tail _ (List.Mem.tail _ (List.Mem.tail _ (List.Mem.tail _ (List.Mem.head _)))))), (List.forall_mem_cons.mpr ⟨(List.Mem.tail _ (List.Mem.tail _ (List.Mem.tail _ (List.Mem.tail _ (List.Mem.tail _ (List.Mem.tail _ (List.Mem.head _))))))), (List.forall_mem_cons.mpr ⟨(List.Mem.tail _ (List.Mem.tail _ (List.Mem.tail _ (List.Mem.tail _ (List.Mem.tail _ (List.Mem.tail _ (List.Mem.tail _ (List.Mem.head _)))))))), (List.forall_mem_cons.mpr ⟨(List.Mem.tail _ (List.Mem.tail _ (List.Mem.tail _ (List.Mem.tail _ (List.Mem.tail _ (List.Mem.tail _ (List.Mem.tail _ (List.Mem.tail _ (List.Mem.head _))))))))), (List.forall_mem_cons.mpr ⟨(mem_ci (by show (zlst ca wa (20 + (j : Int)) (5 + (i : Int)) (zlin ca wa (20 + (j : Int)) i (zlout ca wa j))).1 = _; unfold zlst; first | (rw [if_pos (by unfold zlv; omega)]; try rfl) | (rw [if_neg (by unfold zlv; omega)]; try rfl)) (List.Mem.tail _ (List.Mem.tail _ (List.Mem.tail _ (List.Mem.head _))))), (List.forall_mem_cons.mpr ⟨(mem_ci (by show (zlst ca wa (20 + (j : Int)) (5 + (i : Int)) (zlin ca wa (20 + (j : Int)) i (zlout ca wa j))).2.1 = _; unfold zlst; first | (rw [if_pos (by unfold zlv; omega)]; try rfl) | (rw [if_neg (by unfold zlv; omega)]; try rfl)) (List.Mem.tail _ (List.Mem.tail _ (List.Mem.head _)))), (List.forall_mem_cons.mpr ⟨(mem_cl (by show (zlst ca wa (20 + (j : Int)) (5 + (i : Int)) (zlin ca wa (20 + (j : Int)) i (zlout ca wa j))).2.2 = _; unfold zlst; first | (rw [if_pos (by unfold zlv; omega)]; try rfl) | (rw [if_neg (by unfold zlv; omega)]; try rfl)) (List.Mem.tail _ (List.Mem.head _))), (List.forall_mem_cons.mpr ⟨(List.Mem.tail _ (List.Mem.tail _ (List.Mem.tail _ (List.Mem.tail _ (List.Mem.tail _ (List.Mem.tail _ (List.Mem.tail _ (List.Mem.tail _ (List.Mem.tail _ (List.Mem.head _)))))))))), (List.forall_mem_cons.mpr ⟨(mem_ci (by omega) (List.Mem.head _)), (fun _ h => absurd h List.not_mem_nil)⟩)⟩)⟩)⟩)⟩)⟩)⟩)⟩)⟩) ?_
                        exact ih66 ((i + 1)) (by omega) (by omega)
                      · skip
                        have m1 := nn2 (x := zlv ca wa (20 + (j : Int)) (5 + (i : Int))) (y := (zlin ca wa (20 + (j : Int)) i (zlout ca wa j)).1) (A := 28771200) (B := 120) (by unfold zlv; omega) (by unfold zlv; omega) (by omega) (by omega)
                        have m2 := nn2 (x := (zlin ca wa (20 + (j : Int)) i (zlout ca wa j)).2.2) (y := 20 + (j : Int)) (A := 28771200) (B := 120) (by omega) (by omega) (by omega) (by omega)
                        unfold zlv at m1
                        refine x_lload (pc := 105) dX10_lamp_105 (List.Mem.head _) ?_
                        refine x_iload (pc := 107) dX10_lamp_107 (List.Mem.tail _ (List.Mem.tail _ (List.Mem.tail _ (List.Mem.tail _ (List.Mem.tail _ (List.Mem.head _)))))) ?_
                        refine z_i2l (pc := 109) dX10_lamp_109 (by omega) (by omega) ?_
                        refine z_lmul (pc := 110) dX10_lamp_110 ?_
                        refine x_lload (pc := 111) dX10_lamp_111 (List.Mem.tail _ (List.Mem.tail _ (List.Mem.tail _ (List.Mem.tail _ (List.Mem.tail _ (List.Mem.tail _ (List.Mem.tail _ (List.Mem.head _)))))))) ?_
                        refine x_iload (pc := 113) dX10_lamp_113 (List.Mem.tail _ (List.Mem.tail _ (List.Mem.tail _ (List.Mem.tail _ (List.Mem.tail _ (List.Mem.tail _ (List.Mem.tail _ (List.Mem.tail _ (List.Mem.head _))))))))) ?_
                        refine z_i2l (pc := 115) dX10_lamp_115 (by omega) (by omega) ?_
                        refine z_lmul (pc := 116) dX10_lamp_116 ?_
                        refine z_lcmp_ge (pc := 117) (tgt := 133) dX10_lamp_117 dX10_lamp_118 (by decide) (by omega) (by omega) (by omega) (by omega) (fun hb17 => ?_) (fun hb17 => ?_)
                        · skip
                          refine z_iinc (pc := 133) dX10_lamp_133 (List.Mem.tail _ (List.Mem.tail _ (List.Mem.tail _ (List.Mem.tail _ (List.Mem.tail _ (List.Mem.tail _ (List.Mem.tail _ (List.Mem.tail _ (List.Mem.tail _ (List.Mem.head _)))))))))) (Nat.le_of_ble_eq_true rfl) ?_
                          show Ev _ _ _ _ _ [(9, .int (zN ((5 + (i : Int)) + 1))), (10, .long (zL ((((ca * (5 + (i : Int))) * (5 + (i : Int))) + ((wa * ((20 + (j : Int)) - (5 + (i : Int)))) * ((20 + (j : Int)) - (5 + (i : Int)))))))), (0, .ref 20), (1, .int (zN (ca))), (2, .int (zN (wa))), (3, .int (zN (what))), (4, .int (zN ((zlin ca wa (20 + (j : Int)) i (zlout ca wa j)).1))), (5, .int (zN ((zlin ca wa (20 + (j : Int)) i (zlout ca wa j)).2.1))), (6, .long (zL ((zlin ca wa (20 + (j : Int)) i (zlout ca wa j)).2.2))), (8, .int (zN ((20 + (j : Int)))))] _ _
                          refine x_goto (pc := 136) (tgt := 66) dX10_lamp_136 (by decide) ?_
                          refine x_weaken (L1 := [(0, .ref 20), (1, .int (zN (ca))), (2, .int (zN (wa))), (3, .int (zN (what))), (4, .int (zN ((zlin ca wa (20 + (j : Int)) (i + 1) (zlout ca wa j)).1))), (5, .int (zN ((zlin ca wa (20 + (j : Int)) (i + 1) (zlout ca wa j)).2.1))), (6, .long (zL ((zlin ca wa (20 + (j : Int)) (i + 1) (zlout ca wa j)).2.2))), (8, .int (zN ((20 + (j : Int))))), (9, .int (zN ((5 + (((i + 1) : Nat) : Int)))))]) (List.forall_mem_cons.mpr ⟨(List.Mem.tail _ (List.Mem.tail _ (List.Mem.head _))), (List.forall_mem_cons.mpr ⟨(List.Mem.tail _ (List.Mem.tail _ (List.Mem.tail _ (List.Mem.head _)))), (List.forall_mem_cons.mpr ⟨(List.Mem.tail _ (List.Mem.tail _ (List.Mem.tail _ (List.Mem.tail _ (List.Mem.head _))))), (List.forall_mem_cons.mpr ⟨(List.Mem.tail _ (List.Mem.tail _ (List.Mem.tail _ (List.Mem.tail _ (List.Mem.tail _ (List.Mem.head _)))))), (List.forall_mem_cons.mpr ⟨(mem_ci (by show (zlst ca wa (20 + (j : Int)) (5 + (i : Int)) (zlin ca wa (20 + (j : Int)) i (zlout ca wa j))).1 = _; unfold zlst; first | (rw [if_pos (by unfold zlv; omega)]; try rfl) | (rw [if_neg (by unfold zlv; omega)]; try rfl)) (List.Mem.tail _ (List.Mem.tail _ (List.Mem.tail _ (List.Mem.tail _ (List.Mem.tail _ (List.Mem.tail _ (List.Mem.head _)))))))), (List.forall_mem_cons.mpr ⟨(mem_ci (by show (zlst ca wa (20 + (j : Int)) (5 + (i : Int)) (zlin ca wa (20 + (j : Int)) i (zlout ca wa j))).2.1 = _; unfold zlst; first | (rw [if_pos (by unfold zlv; omega)]; try rfl) | (rw [if_neg (by unfold zlv; omega)]; try rfl)) (List.Mem.tail _ (List.Mem.tail _ (List.Mem.tail _ (List.Mem.tail _ (List.Mem.tail _ (List.Mem.tail _ (List.Mem.tail _ (List.Mem.head _))))))))), (List.forall_mem_cons.mpr ⟨(mem_cl (by show (zlst ca wa (20 + (j : Int)) (5 + (i : Int)) (zlin ca wa (20 + (j : Int)) i (zlout ca wa j))).2.2 = _; unfold zlst; first | (rw [if_pos (by unfold zlv; omega)]; try rfl) | (rw [if_neg (by unfold zlv; omega)]; try rfl)) (List.Mem.tail _ (List.Mem.tail _ (List.Mem.tail _ (List.Mem.tail _ (List.Mem.tail _ (List.Mem.tail _ (List.Mem.tail _ (List.Mem.tail _ (List.Mem.head _)))))))))), (List.forall_mem_cons.mpr ⟨(List.Mem.tail _ (List.Mem.tail _ (List.Mem.tail _ (List.Mem.tail _ (List.Mem.tail _ (List.Mem.tail _ (List.Mem.tail _ (List.Mem.tail _ (List.Mem.tail _ (List.Mem.head _)))))))))), (List.forall_mem_cons.mpr ⟨(mem_ci (by omega) (List.Mem.head _)), (fun _ h => absurd h List.not_mem_nil)⟩)⟩)⟩)⟩)⟩)⟩)⟩)⟩)⟩) ?_
                          exact ih66 ((i + 1)) (by omega) (by omega)
                        · skip
                          refine x_iload (pc := 121) dX10_lamp_121 (List.Mem.tail _ (List.Mem.tail _ (List.Mem.tail _ (List.Mem.tail _ (List.Mem.tail _ (List.Mem.tail _ (List.Mem.tail _ (List.Mem.tail _ (List.Mem.head _))))))))) ?_
                          refine x_istore (pc := 123) dX10_lamp_123 (Nat.le_of_ble_eq_true rfl) ?_
                          show Ev _ _ _ _ _ [(4, .int (zN ((20 + (j : Int))))), (10, .long (zL ((((ca * (5 + (i : Int))) * (5 + (i : Int))) + ((wa * ((20 + (j : Int)) - (5 + (i : Int)))) * ((20 + (j : Int)) - (5 + (i : Int)))))))), (0, .ref 20), (1, .int (zN (ca))), (2, .int (zN (wa))), (3, .int (zN (what))), (5, .int (zN ((zlin ca wa (20 + (j : Int)) i (zlout ca wa j)).2.1))), (6, .long (zL ((zlin ca wa (20 + (j : Int)) i (zlout ca wa j)).2.2))), (8, .int (zN ((20 + (j : Int))))), (9, .int (zN ((5 + (i : Int)))))] _ _
                          refine x_iload (pc := 125) dX10_lamp_125 (List.Mem.tail _ (List.Mem.tail _ (List.Mem.tail _ (List.Mem.tail _ (List.Mem.tail _ (List.Mem.tail _ (List.Mem.tail _ (List.Mem.tail _ (List.Mem.tail _ (List.Mem.head _)))))))))) ?_
                          refine x_istore (pc := 127) dX10_lamp_127 (Nat.le_of_ble_eq_true rfl) ?_
                          show Ev _ _ _ _ _ [(5, .int (zN ((5 + (i : Int))))), (4, .int (zN ((20 + (j : Int))))), (10, .long (zL ((((ca * (5 + (i : Int))) * (5 + (i : Int))) + ((wa * ((20 + (j : Int)) - (5 + (i : Int)))) * ((20 + (j : Int)) - (5 + (i : Int)))))))), (0, .ref 20), (1, .int (zN (ca))), (2, .int (zN (wa))), (3, .int (zN (what))), (6, .long (zL ((zlin ca wa (20 + (j : Int)) i (zlout ca wa j)).2.2))), (8, .int (zN ((20 + (j : Int))))), (9, .int (zN ((5 + (i : Int)))))] _ _
                          refine x_lload (pc := 129) dX10_lamp_129 (List.Mem.tail _ (List.Mem.tail _ (List.Mem.head _))) ?_
                          refine x_lstore (pc := 131) dX10_lamp_131 (Nat.le_of_ble_eq_true rfl) ?_
                          show Ev _ _ _ _ _ [(6, .long (zL ((((ca * (5 + (i : Int))) * (5 + (i : Int))) + ((wa * ((20 + (j : Int)) - (5 + (i : Int)))) * ((20 + (j : Int)) - (5 + (i : Int)))))))), (5, .int (zN ((5 + (i : Int))))), (4, .int (zN ((20 + (j : Int))))), (10, .long (zL ((((ca * (5 + (i : Int))) * (5 + (i : Int))) + ((wa * ((20 + (j : Int)) - (5 + (i : Int)))) * ((20 + (j : Int)) - (5 + (i : Int)))))))), (0, .ref 20), (1, .int (zN (ca))), (2, .int (zN (wa))), (3, .int (zN (what))), (8, .int (zN ((20 + (j : Int))))), (9, .int (zN ((5 + (i : Int)))))] _ _
                          refine z_iinc (pc := 133) dX10_lamp_133 (List.Mem.tail _ (List.Mem.tail _ (List.Mem.tail _ (List.Mem.tail _ (List.Mem.tail _ (List.Mem.tail _ (List.Mem.tail _ (List.Mem.tail _ (List.Mem.tail _ (List.Mem.head _)))))))))) (Nat.le_of_ble_eq_true rfl) ?_
                          show Ev _ _ _ _ _ [(9, .int (zN ((5 + (i : Int)) + 1))), (6, .long (zL ((((ca * (5 + (i : Int))) * (5 + (i : Int))) + ((wa * ((20 + (j : Int)) - (5 + (i : Int)))) * ((20 + (j : Int)) - (5 + (i : Int)))))))), (5, .int (zN ((5 + (i : Int))))), (4, .int (zN ((20 + (j : Int))))), (10, .long (zL ((((ca * (5 + (i : Int))) * (5 + (i : Int))) + ((wa * ((20 + (j : Int)) - (5 + (i : Int)))) * ((20 + (j : Int)) - (5 + (i : Int)))))))), (0, .ref 20), (1, .int (zN (ca))), (2, .int (zN (wa))), (3, .int (zN (what))), (8, .int (zN ((20 + (j : Int)))))] _ _
                          refine x_goto (pc := 136) (tgt := 66) dX10_lamp_136 (by decide) ?_
                          refine x_weaken (L1 := [(0, .ref 20), (1, .int (zN (ca))), (2, .int (zN (wa))), (3, .int (zN (what))), (4, .int (zN ((zlin ca wa (20 + (j : Int)) (i + 1) (zlout ca wa j)).1))), (5, .int (zN ((zlin ca wa (20 + (j : Int)) (i + 1) (zlout ca wa j)).2.1))), (6, .long (zL ((zlin ca wa (20 + (j : Int)) (i + 1) (zlout ca wa j)).2.2))), (8, .int (zN ((20 + (j : Int))))), (9, .int (zN ((5 + (((i + 1) : Nat) : Int)))))]) (List.forall_mem_cons.mpr ⟨(List.Mem.tail _ (List.Mem.tail _ (List.Mem.tail _ (List.Mem.tail _ (List.Mem.tail _ (List.Mem.head _)))))), (List.forall_mem_cons.mpr ⟨(List.Mem.tail _ (List.Mem.tail _ (List.Mem.tail _ (List.Mem.tail _ (List.Mem.tail _ (List.Mem.tail _ (List.Mem.head _))))))), (List.forall_mem_cons.mpr ⟨(List.Mem.tail _ (List.Mem.tail _ (List.Mem.tail _ (List.Mem.tail _ (List.Mem.tail _ (List.Mem.tail _ (List.Mem.tail _ (List.Mem.head _)))))))), (List.forall_mem_cons.mpr ⟨(List.Mem.tail _ (List.Mem.tail _ (List.Mem.tail _ (List.Mem.tail _ (List.Mem.tail _ (List.Mem.tail _ (List.Mem.tail _ (List.Mem.tail _ (List.Mem.head _))))))))), (List.forall_mem_cons.mpr ⟨(mem_ci (by show (zlst ca wa (20 + (j : Int)) (5 + (i : Int)) (zlin ca wa (20 + (j : Int)) i (zlout ca wa j))).1 = _; unfold zlst; first | (rw [if_pos (by unfold zlv; omega)]; try rfl) | (rw [if_neg (by unfold zlv; omega)]; try rfl)) (List.Mem.tail _ (List.Mem.tail _ (List.Mem.tail _ (List.Mem.head _))))), (List.forall_mem_cons.mpr ⟨(mem_ci (by show (zlst ca wa (20 + (j : Int)) (5 + (i : Int)) (zlin ca wa (20 + (j : Int)) i (zlout ca wa j))).2.1 = _; unfold zlst; first | (rw [if_pos (by unfold zlv; omega)]; try rfl) | (rw [if_neg (by unfold zlv; omega)]; try rfl)) (List.Mem.tail _ (List.Mem.tail _ (List.Mem.head _)))), (List.forall_mem_cons.mpr ⟨(mem_cl (by show (zlst ca wa (20 + (j : Int)) (5 + (i : Int)) (zlin ca wa (20 + (j : Int)) i (zlout ca wa j))).2.2 = _; unfold zlst; first | (rw [if_pos (by unfold zlv; omega)]; try rfl) | (rw [if_neg (by unfold zlv; omega)]; try rfl)) (List.Mem.tail _ (List.Mem.head _))), (List.forall_mem_cons.mpr ⟨(List.Mem.tail _ (List.Mem.tail _ (List.Mem.tail _ (List.Mem.tail _ (List.Mem.tail _ (List.Mem.tail _ (List.Mem.tail _ (List.Mem.tail _ (List.Mem.tail _ (List.Mem.head _)))))))))), (List.forall_mem_cons.mpr ⟨(mem_ci (by omega) (List.Mem.head _)), (fun _ h => absurd h List.not_mem_nil)⟩)⟩)⟩)⟩)⟩)⟩)⟩)⟩)⟩) ?_
                          exact ih66 ((i + 1)) (by omega) (by omega)
                refine x_weaken (L1 := [(0, .ref 20), (1, .int (zN (ca))), (2, .int (zN (wa))), (3, .int (zN (what))), (4, .int (zN ((zlin ca wa (20 + (j : Int)) 0 (zlout ca wa j)).1))), (5, .int (zN ((zlin ca wa (20 + (j : Int)) 0 (zlout ca wa j)).2.1))), (6, .long (zL ((zlin ca wa (20 + (j : Int)) 0 (zlout ca wa j)).2.2))), (8, .int (zN ((20 + (j : Int))))), (9, .int (zN ((5 + ((0 : Nat) : Int)))))]) (List.forall_mem_cons.mpr ⟨(List.Mem.tail _ (List.Mem.head _)), (List.forall_mem_cons.mpr ⟨(List.Mem.tail _ (List.Mem.tail _ (List.Mem.head _))), (List.forall_mem_cons.mpr ⟨(List.Mem.tail _ (List.Mem.tail _ (List.Mem.tail _ (List.Mem.head _)))), (List.forall_mem_cons.mpr ⟨(List.Mem.tail _ (List.Mem.tail _ (List.Mem.tail _ (List.Mem.tail _ (List.Mem.head _))))), (List.forall_mem_cons.mpr ⟨(mem_ci (rfl) (List.Mem.tail _ (List.Mem.tail _ (List.Mem.tail _ (List.Mem.tail _ (List.Mem.tail _ (List.Mem.head _))))))), (List.forall_mem_cons.mpr ⟨(mem_ci (rfl) (List.Mem.tail _ (List.Mem.tail _ (List.Mem.tail _ (List.Mem.tail _ (List.Mem.tail _ (List.Mem.tail _ (List.Mem.head _)))))))), (List.forall_mem_cons.mpr ⟨(mem_cl (rfl) (List.Mem.tail _ (List.Mem.tail _ (List.Mem.tail _ (List.Mem.tail _ (List.Mem.tail _ (List.Mem.tail _ (List.Mem.tail _ (List.Mem.head _))))))))), (List.forall_mem_cons.mpr ⟨(List.Mem.tail _ (List.Mem.tail _ (List.Mem.tail _ (List.Mem.tail _ (List.Mem.tail _ (List.Mem.tail _ (List.Mem.tail _ (List.Mem.tail _ (List.Mem.head _))))))))), (List.forall_mem_cons.mpr ⟨(mem_ci (by omega) (List.Mem.head _)), (fun _ h => absurd h List.not_mem_nil)⟩)⟩)⟩)⟩)⟩)⟩)⟩)⟩)⟩) ?_
                exact lp66 (j + 6 - 0 + 1) (0) (by omega) (Nat.lt_succ_self _)
          refine x_weaken (L1 := [(0, .ref 20), (1, .int (zN (ca))), (2, .int (zN (wa))), (3, .int (zN (what))), (4, .int (zN ((zlout ca wa 0).1))), (5, .int (zN ((zlout ca wa 0).2.1))), (6, .long (zL ((zlout ca wa 0).2.2))), (8, .int (zN ((20 + ((0 : Nat) : Int)))))]) (List.forall_mem_cons.mpr ⟨(List.Mem.tail _ (List.Mem.tail _ (List.Mem.tail _ (List.Mem.tail _ (List.Mem.head _))))), (List.forall_mem_cons.mpr ⟨(List.Mem.tail _ (List.Mem.tail _ (List.Mem.tail _ (List.Mem.tail _ (List.Mem.tail _ (List.Mem.head _)))))), (List.forall_mem_cons.mpr ⟨(List.Mem.tail _ (List.Mem.tail _ (List.Mem.tail _ (List.Mem.tail _ (List.Mem.tail _ (List.Mem.tail _ (List.Mem.head _))))))), (List.forall_mem_cons.mpr ⟨(List.Mem.tail _ (List.Mem.tail _ (List.Mem.tail _ (List.Mem.tail _ (List.Mem.tail _ (List.Mem.tail _ (List.Mem.tail _ (List.Mem.head _)))))))), (List.forall_mem_cons.mpr ⟨(mem_ci (rfl) (List.Mem.tail _ (List.Mem.tail _ (List.Mem.tail _ (List.Mem.head _))))), (List.forall_mem_cons.mpr ⟨(mem_ci (rfl) (List.Mem.tail _ (List.Mem.tail _ (List.Mem.head _)))), (List.forall_mem_cons.mpr ⟨(mem_cl (rfl) (List.Mem.tail _ (List.Mem.head _))), (List.forall_mem_cons.mpr ⟨(mem_ci (by omega) (List.Mem.head _)), (fun _ h => absurd h List.not_mem_nil)⟩)⟩)⟩)⟩)⟩)⟩)⟩)⟩) ?_
          exact lp56 (101 - 0 + 1) (0) (by omega) (Nat.lt_succ_self _)
        · skip
          refine z_if_ne (pc := 33) (tgt := 43) dX10_lamp_33 (by decide) (by decide) (by decide) (fun h => absurd h (by decide)) (fun _ => ?_)
          refine x_aload_n (pc := 36) dX10_lamp_36 (List.Mem.head _) ?_
          refine z_bipush (pc := 37) dX10_lamp_37 bp_m3 ?_
          refine z_callVip (pc := 39) (i := mX10_refuse) (S := []) [.int (zN ((-3)))] dX10_lamp_39 ml_X10_97 ok_X10_refuse rfl sh_20 rfl (Or.inl rfl) (Nat.le_of_ble_eq_true rfl) (c_X10_refuse (d := d) (code := ((-3))) (code1 := (by omega)) (code2 := (by omega)) (ok := ok10) (cn := (by first | assumption | omega))) (fun r19a r19b ok20 => ?_)
          show Ev _ _ _ _ _ _ _ (eh (wI H 25 ((refIx ((-3)))) (H.1 25 (refIx ((-3))) + 1)))
          refine z_ireturn (pc := 42) dX10_lamp_42 rfl (Or.inl rfl) ok20 (by omega) (by omega) ?_
          have e : S_lamp ca wa what = (-3, 1) := by unfold S_lamp; rw [if_pos (by omega)]; exact if_neg (by omega)
          rw [e]
          exact ⟨rfl, rfl⟩
      · skip
        refine z_if_eq (pc := 23) (tgt := 36) dX10_lamp_23 (by decide) (by decide) (by decide) (fun _ => ?_) (fun h => absurd h (by decide))
        refine x_aload_n (pc := 36) dX10_lamp_36 (List.Mem.head _) ?_
        refine z_bipush (pc := 37) dX10_lamp_37 bp_m3 ?_
        refine z_callVip (pc := 39) (i := mX10_refuse) (S := []) [.int (zN ((-3)))] dX10_lamp_39 ml_X10_97 ok_X10_refuse rfl sh_20 rfl (Or.inl rfl) (Nat.le_of_ble_eq_true rfl) (c_X10_refuse (d := d) (code := ((-3))) (code1 := (by omega)) (code2 := (by omega)) (ok := ok6) (cn := (by first | assumption | omega))) (fun r22a r22b ok23 => ?_)
        show Ev _ _ _ _ _ _ _ (eh (wI H 25 ((refIx ((-3)))) (H.1 25 (refIx ((-3))) + 1)))
        refine z_ireturn (pc := 42) dX10_lamp_42 rfl (Or.inl rfl) ok23 (by omega) (by omega) ?_
        have e : S_lamp ca wa what = (-3, 1) := by unfold S_lamp; rw [if_pos (by omega)]; exact if_neg (by omega)
        rw [e]
        exact ⟨rfl, rfl⟩
    · skip
      refine x_aload_n (pc := 9) dX10_lamp_9 (List.Mem.head _) ?_
      refine z_bipush (pc := 10) dX10_lamp_10 bp_m2 ?_
      refine z_callVip (pc := 12) (i := mX10_refuse) (S := []) [.int (zN ((-2)))] dX10_lamp_12 ml_X10_97 ok_X10_refuse rfl sh_20 rfl (Or.inl rfl) (Nat.le_of_ble_eq_true rfl) (c_X10_refuse (d := d) (code := ((-2))) (code1 := (by omega)) (code2 := (by omega)) (ok := ok) (cn := (by first | assumption | omega))) (fun r24a r24b ok25 => ?_)
      show Ev _ _ _ _ _ _ _ (eh (wI H 25 ((refIx ((-2)))) (H.1 25 (refIx ((-2))) + 1)))
      refine z_ireturn (pc := 15) dX10_lamp_15 rfl (Or.inl rfl) ok25 (by omega) (by omega) ?_
      have e : S_lamp ca wa what = (-2, 0) := by unfold S_lamp; exact if_neg (by omega)
      rw [e]
      exact ⟨rfl, rfl⟩

theorem c_X11_lamp {d : Nat} {H : ZH} (ok : okZ H) {ca wa what : Int} (ca1 : -2147483648 ≤ ca) (ca2 : ca ≤ 2147483647) (wa1 : -2147483648 ≤ wa) (wa2 : wa ≤ 2147483647) (what1 : -2147483648 ≤ what) (what2 : what ≤ 2147483647) (cm : cntOK H 1) (th : H.1 0 0 = 0) : EvC zX (d + 2) mX11_lamp [.ref 0, .int (zN (ca)), .int (zN (wa)), .int (zN (what))] (eh H) (zPi (fun (r : Int) (H1 : ZH) => r = (S_lamp ca wa what).1 ∧ H1 = bumpM (S_lamp ca wa what).2 H)) := by
  show _ ∧ Ev zX mX11_lamp (EvC zX (d + 1)) (zPi (fun (r : Int) (H1 : ZH) => r = (S_lamp ca wa what).1 ∧ H1 = bumpM (S_lamp ca wa what).2 H)) 0 [(0, .ref 0), (1, .int (zN (ca))), (2, .int (zN (wa))), (3, .int (zN (what)))] [] (eh H)
  refine ⟨Nat.le_of_ble_eq_true rfl, ?_⟩
  refine x_aload_n (pc := 0) dX11_lamp_0 (List.Mem.head _) ?_
  refine z_iconst (pc := 1) dX11_lamp_1 ?_
  refine z_putI (pc := 2) (k := 0) dX11_lamp_2 lp_X11_1 sh_0 rfl ?_
  have ok1 := okI ok 0 0 (v := 0) (by decide) (by decide)
  rw [wI_same th]
  refine x_iload_n (pc := 5) dX11_lamp_5 (List.Mem.tail _ (List.Mem.tail _ (List.Mem.tail _ (List.Mem.head _)))) ?_
  refine z_i2l (pc := 6) dX11_lamp_6 (by omega) (by omega) ?_
  refine z_lconst (pc := 7) 0 dX11_lamp_7 rfl ?_
  refine z_lconst (pc := 8) 1 dX11_lamp_8 rfl ?_
  refine z_callSbp (pc := 9) (i := mX11_within) (S := []) [.long (zL (what)), .long (zL (0)), .long (zL (1))] dX11_lamp_9 ml_X11_152 ok_X11_within rfl (Or.inr rfl) (Nat.le_of_ble_eq_true rfl) (c_X11_within (d := d) (v := what) (lo := 0) (hi := 1) (v1 := (by omega)) (v2 := (by omega)) (lo1 := (by omega)) (lo2 := (by omega)) (hi1 := (by omega)) (hi2 := (by omega)) (ok := ok)) (fun hc4 ok3 => ?_) (fun hc4 ok3 => ?_)
  · skip
    refine z_if_ne (pc := 12) (tgt := 22) dX11_lamp_12 (by decide) (by decide) (by decide) (fun _ => ?_) (fun h => absurd h (by decide))
    refine x_iload_n (pc := 22) dX11_lamp_22 (List.Mem.tail _ (List.Mem.head _)) ?_
    refine z_i2l (pc := 23) dX11_lamp_23 (by omega) (by omega) ?_
    refine z_lconst (pc := 24) 0 dX11_lamp_24 rfl ?_
    refine z_ldc2_w (pc := 25) 999 dX11_lamp_25 cl_X11_353 (by decide) ?_
    refine z_callSbp (pc := 28) (i := mX11_within) (S := []) [.long (zL (ca)), .long (zL (0)), .long (zL (999))] dX11_lamp_28 ml_X11_152 ok_X11_within rfl (Or.inr rfl) (Nat.le_of_ble_eq_true rfl) (c_X11_within (d := d) (v := ca) (lo := 0) (hi := 999) (v1 := (by omega)) (v2 := (by omega)) (lo1 := (by omega)) (lo2 := (by omega)) (hi1 := (by omega)) (hi2 := (by omega)) (ok := ok3)) (fun hc8 ok7 => ?_) (fun hc8 ok7 => ?_)
    · skip
      refine z_if_eq (pc := 31) (tgt := 46) dX11_lamp_31 (by decide) (by decide) (by decide) (fun h => absurd h (by decide)) (fun _ => ?_)
      refine x_iload_n (pc := 34) dX11_lamp_34 (List.Mem.tail _ (List.Mem.tail _ (List.Mem.head _))) ?_
      refine z_i2l (pc := 35) dX11_lamp_35 (by omega) (by omega) ?_
      refine z_lconst (pc := 36) 0 dX11_lamp_36 rfl ?_
      refine z_ldc2_w (pc := 37) 999 dX11_lamp_37 cl_X11_353 (by decide) ?_
      refine z_callSbp (pc := 40) (i := mX11_within) (S := []) [.long (zL (wa)), .long (zL (0)), .long (zL (999))] dX11_lamp_40 ml_X11_152 ok_X11_within rfl (Or.inr rfl) (Nat.le_of_ble_eq_true rfl) (c_X11_within (d := d) (v := wa) (lo := 0) (hi := 999) (v1 := (by omega)) (v2 := (by omega)) (lo1 := (by omega)) (lo2 := (by omega)) (hi1 := (by omega)) (hi2 := (by omega)) (ok := ok7)) (fun hc12 ok11 => ?_) (fun hc12 ok11 => ?_)
      · skip
        refine z_if_ne (pc := 43) (tgt := 53) dX11_lamp_43 (by decide) (by decide) (by decide) (fun _ => ?_) (fun h => absurd h (by decide))
        refine z_iconst (pc := 53) dX11_lamp_53 ?_
        refine x_istore (pc := 54) dX11_lamp_54 (Nat.le_of_ble_eq_true rfl) ?_
        show Ev _ _ _ _ _ [(4, .int (zN (0))), (0, .ref 0), (1, .int (zN (ca))), (2, .int (zN (wa))), (3, .int (zN (what)))] _ _
        refine z_iconst (pc := 56) dX11_lamp_56 ?_
        refine x_istore (pc := 57) dX11_lamp_57 (Nat.le_of_ble_eq_true rfl) ?_
        show Ev _ _ _ _ _ [(5, .int (zN (0))), (4, .int (zN (0))), (0, .ref 0), (1, .int (zN (ca))), (2, .int (zN (wa))), (3, .int (zN (what)))] _ _
        refine z_lconst (pc := 59) 0 dX11_lamp_59 rfl ?_
        refine x_lstore (pc := 60) dX11_lamp_60 (Nat.le_of_ble_eq_true rfl) ?_
        show Ev _ _ _ _ _ [(6, .long (zL (0))), (5, .int (zN (0))), (4, .int (zN (0))), (0, .ref 0), (1, .int (zN (ca))), (2, .int (zN (wa))), (3, .int (zN (what)))] _ _
        refine z_bipush (pc := 62) dX11_lamp_62 bp_20 ?_
        refine x_istore (pc := 64) dX11_lamp_64 (Nat.le_of_ble_eq_true rfl) ?_
        show Ev _ _ _ _ _ [(8, .int (zN (20))), (6, .long (zL (0))), (5, .int (zN (0))), (4, .int (zN (0))), (0, .ref 0), (1, .int (zN (ca))), (2, .int (zN (wa))), (3, .int (zN (what)))] _ _
        have lp66 : ∀ (nF : Nat) (j : Nat), (j ≤ 101) → 101 - j < nF → Ev zX mX11_lamp (EvC zX (d + 1)) (zPi (fun (r : Int) (H1 : ZH) => r = (S_lamp ca wa what).1 ∧ H1 = bumpM (S_lamp ca wa what).2 H)) 66 [(0, .ref 0), (1, .int (zN (ca))), (2, .int (zN (wa))), (3, .int (zN (what))), (4, .int (zN ((zlout ca wa j).1))), (5, .int (zN ((zlout ca wa j).2.1))), (6, .long (zL ((zlout ca wa j).2.2))), (8, .int (zN ((20 + (j : Int)))))] [] (eh H) := by
          intro nF
          induction nF with
          | zero => intro j hj hm; exact absurd hm (Nat.not_lt_zero _)
          | succ nF ih66 =>
            intro j hj hm
            have zo := zlout_ok (ca := ca) (wa := wa) (by omega) (by omega) (by omega) (by omega) j hj
            have zo1 := zo.1
            have zo2 := zo.2.1
            have zo3 := zo.2.2
            refine x_iload (pc := 66) dX11_lamp_66 (List.Mem.tail _ (List.Mem.tail _ (List.Mem.tail _ (List.Mem.tail _ (List.Mem.tail _ (List.Mem.tail _ (List.Mem.tail _ (List.Mem.head _)))))))) ?_
            refine z_bipush (pc := 68) dX11_lamp_68 bp_120 ?_
            refine z_icmp_gt (pc := 70) (tgt := 163) dX11_lamp_70 (by decide) (by omega) (by omega) (by decide) (by decide) (fun hb14 => ?_) (fun hb14 => ?_)
            · skip
              refine x_iload_n (pc := 163) dX11_lamp_163 (List.Mem.tail _ (List.Mem.tail _ (List.Mem.tail _ (List.Mem.head _)))) ?_
              refine z_if_ne (pc := 164) (tgt := 172) dX11_lamp_164 (by decide) (by omega) (by omega) (fun hb15 => ?_) (fun hb15 => ?_)
              · skip
                refine x_iload (pc := 172) dX11_lamp_172 (List.Mem.tail _ (List.Mem.tail _ (List.Mem.tail _ (List.Mem.tail _ (List.Mem.tail _ (List.Mem.head _)))))) ?_
                refine z_ireturn (pc := 174) dX11_lamp_174 rfl (Or.inl rfl) ok11 (by omega) (by omega) ?_
                have ej : j = 101 := by omega
                have e : S_lamp ca wa what = ((if what = 0 then (zlout ca wa 101).1 else (zlout ca wa 101).2.1), 6) := by unfold S_lamp; rw [if_pos (by omega)]; exact if_pos (by omega)
                rw [e, ← ej]
                refine ⟨?_, rfl⟩
                first | exact (if_pos (by omega)).symm | exact (if_neg (by omega)).symm
              · skip
                refine x_iload (pc := 167) dX11_lamp_167 (List.Mem.tail _ (List.Mem.tail _ (List.Mem.tail _ (List.Mem.tail _ (List.Mem.head _))))) ?_
                refine x_goto (pc := 169) (tgt := 174) dX11_lamp_169 (by decide) ?_
                refine z_ireturn (pc := 174) dX11_lamp_174 rfl (Or.inl rfl) ok11 (by omega) (by omega) ?_
                have ej : j = 101 := by omega
                have e : S_lamp ca wa what = ((if what = 0 then (zlout ca wa 101).1 else (zlout ca wa 101).2.1), 6) := by unfold S_lamp; rw [if_pos (by omega)]; exact if_pos (by omega)
                rw [e, ← ej]
                refine ⟨?_, rfl⟩
                first | exact (if_pos (by omega)).symm | exact (if_neg (by omega)).symm
            · skip
              refine z_iconst (pc := 73) dX11_lamp_73 ?_
              refine x_istore (pc := 74) dX11_lamp_74 (Nat.le_of_ble_eq_true rfl) ?_
              show Ev _ _ _ _ _ [(9, .int (zN (5))), (0, .ref 0), (1, .int (zN (ca))), (2, .int (zN (wa))), (3, .int (zN (what))), (4, .int (zN ((zlout ca wa j).1))), (5, .int (zN ((zlout ca wa j).2.1))), (6, .long (zL ((zlout ca wa j).2.2))), (8, .int (zN ((20 + (j : Int)))))] _ _
              have lp76 : ∀ (nF : Nat) (i : Nat), (i ≤ j + 6) → j + 6 - i < nF → Ev zX mX11_lamp (EvC zX (d + 1)) (zPi (fun (r : Int) (H1 : ZH) => r = (S_lamp ca wa what).1 ∧ H1 = bumpM (S_lamp ca wa what).2 H)) 76 [(0, .ref 0), (1, .int (zN (ca))), (2, .int (zN (wa))), (3, .int (zN (what))), (4, .int (zN ((zlin ca wa (20 + (j : Int)) i (zlout ca wa j)).1))), (5, .int (zN ((zlin ca wa (20 + (j : Int)) i (zlout ca wa j)).2.1))), (6, .long (zL ((zlin ca wa (20 + (j : Int)) i (zlout ca wa j)).2.2))), (8, .int (zN ((20 + (j : Int))))), (9, .int (zN ((5 + (i : Int)))))] [] (eh H) := by
                intro nF
                induction nF with
                | zero => intro i hi hm; exact absurd hm (Nat.not_lt_zero _)
                | succ nF ih76 =>
                  intro i hi hm
                  have zi := zlin_ok (ca := ca) (wa := wa) (c := 20 + (j : Int)) (q := zlout ca wa j) (by omega) (by omega) (by omega) (by omega) (by omega) zo i (by omega)
                  have zi1 := zi.1
                  have zi2 := zi.2.1
                  have zi3 := zi.2.2
                  refine x_iload (pc := 76) dX11_lamp_76 (List.Mem.tail _ (List.Mem.tail _ (List.Mem.tail _ (List.Mem.tail _ (List.Mem.tail _ (List.Mem.tail _ (List.Mem.tail _ (List.Mem.tail _ (List.Mem.head _))))))))) ?_
                  refine x_iload (pc := 78) dX11_lamp_78 (List.Mem.tail _ (List.Mem.tail _ (List.Mem.tail _ (List.Mem.tail _ (List.Mem.tail _ (List.Mem.tail _ (List.Mem.tail _ (List.Mem.head _)))))))) ?_
                  refine z_bipush (pc := 80) dX11_lamp_80 bp_10 ?_
                  refine z_isub (pc := 82) dX11_lamp_82 ?_
                  refine z_icmp_gt (pc := 83) (tgt := 157) dX11_lamp_83 (by decide) (by omega) (by omega) (by omega) (by omega) (fun hb16 => ?_) (fun hb16 => ?_)
                  · skip
                    refine z_iinc (pc := 157) dX11_lamp_157 (List.Mem.tail _ (List.Mem.tail _ (List.Mem.tail _ (List.Mem.tail _ (List.Mem.tail _ (List.Mem.tail _ (List.Mem.tail _ (List.Mem.head _)))))))) (Nat.le_of_ble_eq_true rfl) ?_
                    show Ev _ _ _ _ _ [(8, .int (zN ((20 + (j : Int)) + 1))), (0, .ref 0), (1, .int (zN (ca))), (2, .int (zN (wa))), (3, .int (zN (what))), (4, .int (zN ((zlin ca wa (20 + (j : Int)) i (zlout ca wa j)).1))), (5, .int (zN ((zlin ca wa (20 + (j : Int)) i (zlout ca wa j)).2.1))), (6, .long (zL ((zlin ca wa (20 + (j : Int)) i (zlout ca wa j)).2.2))), (9, .int (zN ((5 + (i : Int)))))] _ _
                    refine x_goto (pc := 160) (tgt := 66) dX11_lamp_160 (by decide) ?_
                    refine x_weaken (L1 := [(0, .ref 0), (1, .int (zN (ca))), (2, .int (zN (wa))), (3, .int (zN (what))), (4, .int (zN ((zlout ca wa (j + 1)).1))), (5, .int (zN ((zlout ca wa (j + 1)).2.1))), (6, .long (zL ((zlout ca wa (j + 1)).2.2))), (8, .int (zN ((20 + (((j + 1) : Nat) : Int)))))]) (List.forall_mem_cons.mpr ⟨(List.Mem.tail _ (List.Mem.head _)), (List.forall_mem_cons.mpr ⟨(List.Mem.tail _ (List.Mem.tail _ (List.Mem.head _))), (List.forall_mem_cons.mpr ⟨(List.Mem.tail _ (List.Mem.tail _ (List.Mem.tail _ (List.Mem.head _)))), (List.forall_mem_cons.mpr ⟨(List.Mem.tail _ (List.Mem.tail _ (List.Mem.tail _ (List.Mem.tail _ (List.Mem.head _))))), (List.forall_mem_cons.mpr ⟨(mem_ci (by rw [show i = j + 6 by omega]; rfl) (List.Mem.tail _ (List.Mem.tail _ (List.Mem.tail _ (List.Mem.tail _ (List.Mem.tail _ (List.Mem.head _))))))), (List.forall_mem_cons.mpr ⟨(mem_ci (by rw [show i = j + 6 by omega]; rfl) (List.Mem.tail _ (List.Mem.tail _ (List.Mem.tail _ (List.Mem.tail _ (List.Mem.tail _ (List.Mem.tail _ (List.Mem.head _)))))))), (List.forall_mem_cons.mpr ⟨(mem_cl (by rw [show i = j + 6 by omega]; rfl) (List.Mem.tail _ (List.Mem.tail _ (List.Mem.tail _ (List.Mem.tail _ (List.Mem.tail _ (List.Mem.tail _ (List.Mem.tail _ (List.Mem.head _))))))))), (List.forall_mem_cons.mpr ⟨(mem_ci (by omega) (List.Mem.head _)), (fun _ h => absurd h List.not_mem_nil)⟩)⟩)⟩)⟩)⟩)⟩)⟩)⟩) ?_
                    exact ih66 ((j + 1)) (by omega) (by omega)
                  · skip
                    have zv := zlv_bd (ca := ca) (wa := wa) (c := 20 + (j : Int)) (g := 5 + (i : Int)) (by omega) (by omega) (by omega) (by omega) (by omega) (by omega) (by omega)
                    refine x_iload_n (pc := 86) dX11_lamp_86 (List.Mem.tail _ (List.Mem.head _)) ?_
                    refine z_i2l (pc := 87) dX11_lamp_87 (by omega) (by omega) ?_
                    refine x_iload (pc := 88) dX11_lamp_88 (List.Mem.tail _ (List.Mem.tail _ (List.Mem.tail _ (List.Mem.tail _ (List.Mem.tail _ (List.Mem.tail _ (List.Mem.tail _ (List.Mem.tail _ (List.Mem.head _))))))))) ?_
                    refine z_i2l (pc := 90) dX11_lamp_90 (by omega) (by omega) ?_
                    refine z_lmul (pc := 91) dX11_lamp_91 ?_
                    refine x_iload (pc := 92) dX11_lamp_92 (List.Mem.tail _ (List.Mem.tail _ (List.Mem.tail _ (List.Mem.tail _ (List.Mem.tail _ (List.Mem.tail _ (List.Mem.tail _ (List.Mem.tail _ (List.Mem.head _))))))))) ?_
                    refine z_i2l (pc := 94) dX11_lamp_94 (by omega) (by omega) ?_
                    refine z_lmul (pc := 95) dX11_lamp_95 ?_
                    refine x_iload_n (pc := 96) dX11_lamp_96 (List.Mem.tail _ (List.Mem.tail _ (List.Mem.head _))) ?_
                    refine z_i2l (pc := 97) dX11_lamp_97 (by omega) (by omega) ?_
                    refine x_iload (pc := 98) dX11_lamp_98 (List.Mem.tail _ (List.Mem.tail _ (List.Mem.tail _ (List.Mem.tail _ (List.Mem.tail _ (List.Mem.tail _ (List.Mem.tail _ (List.Mem.head _)))))))) ?_
                    refine x_iload (pc := 100) dX11_lamp_100 (List.Mem.tail _ (List.Mem.tail _ (List.Mem.tail _ (List.Mem.tail _ (List.Mem.tail _ (List.Mem.tail _ (List.Mem.tail _ (List.Mem.tail _ (List.Mem.head _))))))))) ?_
                    refine z_isub (pc := 102) dX11_lamp_102 ?_
                    refine z_i2l (pc := 103) dX11_lamp_103 (by omega) (by omega) ?_
                    refine z_lmul (pc := 104) dX11_lamp_104 ?_
                    refine x_iload (pc := 105) dX11_lamp_105 (List.Mem.tail _ (List.Mem.tail _ (List.Mem.tail _ (List.Mem.tail _ (List.Mem.tail _ (List.Mem.tail _ (List.Mem.tail _ (List.Mem.head _)))))))) ?_
                    refine x_iload (pc := 107) dX11_lamp_107 (List.Mem.tail _ (List.Mem.tail _ (List.Mem.tail _ (List.Mem.tail _ (List.Mem.tail _ (List.Mem.tail _ (List.Mem.tail _ (List.Mem.tail _ (List.Mem.head _))))))))) ?_
                    refine z_isub (pc := 109) dX11_lamp_109 ?_
                    refine z_i2l (pc := 110) dX11_lamp_110 (by omega) (by omega) ?_
                    refine z_lmul (pc := 111) dX11_lamp_111 ?_
                    refine z_ladd (pc := 112) dX11_lamp_112 ?_
                    refine x_lstore (pc := 113) dX11_lamp_113 (Nat.le_of_ble_eq_true rfl) ?_
                    show Ev _ _ _ _ _ [(10, .long (zL ((((ca * (5 + (i : Int))) * (5 + (i : Int))) + ((wa * ((20 + (j : Int)) - (5 + (i : Int)))) * ((20 + (j : Int)) - (5 + (i : Int)))))))), (0, .ref 0), (1, .int (zN (ca))), (2, .int (zN (wa))), (3, .int (zN (what))), (4, .int (zN ((zlin ca wa (20 + (j : Int)) i (zlout ca wa j)).1))), (5, .int (zN ((zlin ca wa (20 + (j : Int)) i (zlout ca wa j)).2.1))), (6, .long (zL ((zlin ca wa (20 + (j : Int)) i (zlout ca wa j)).2.2))), (8, .int (zN ((20 + (j : Int))))), (9, .int (zN ((5 + (i : Int)))))] _ _
                    refine x_iload (pc := 115) dX11_lamp_115 (List.Mem.tail _ (List.Mem.tail _ (List.Mem.tail _ (List.Mem.tail _ (List.Mem.tail _ (List.Mem.head _)))))) ?_
                    refine z_if_le (pc := 117) (tgt := 139) dX11_lamp_117 (by decide) (by omega) (by omega) (fun hb17 => ?_) (fun hb17 => ?_)
                    · skip
                      refine x_iload (pc := 139) dX11_lamp_139 (List.Mem.tail _ (List.Mem.tail _ (List.Mem.tail _ (List.Mem.tail _ (List.Mem.tail _ (List.Mem.tail _ (List.Mem.tail _ (List.Mem.tail _ (List.Mem.head _))))))))) ?_
                      refine x_istore (pc := 141) dX11_lamp_141 (Nat.le_of_ble_eq_true rfl) ?_
                      show Ev _ _ _ _ _ [(4, .int (zN ((20 + (j : Int))))), (10, .long (zL ((((ca * (5 + (i : Int))) * (5 + (i : Int))) + ((wa * ((20 + (j : Int)) - (5 + (i : Int)))) * ((20 + (j : Int)) - (5 + (i : Int)))))))), (0, .ref 0), (1, .int (zN (ca))), (2, .int (zN (wa))), (3, .int (zN (what))), (5, .int (zN ((zlin ca wa (20 + (j : Int)) i (zlout ca wa j)).2.1))), (6, .long (zL ((zlin ca wa (20 + (j : Int)) i (zlout ca wa j)).2.2))), (8, .int (zN ((20 + (j : Int))))), (9, .int (zN ((5 + (i : Int)))))] _ _
                      refine x_iload (pc := 143) dX11_lamp_143 (List.Mem.tail _ (List.Mem.tail _ (List.Mem.tail _ (List.Mem.tail _ (List.Mem.tail _ (List.Mem.tail _ (List.Mem.tail _ (List.Mem.tail _ (List.Mem.tail _ (List.Mem.head _)))))))))) ?_
                      refine x_istore (pc := 145) dX11_lamp_145 (Nat.le_of_ble_eq_true rfl) ?_
                      show Ev _ _ _ _ _ [(5, .int (zN ((5 + (i : Int))))), (4, .int (zN ((20 + (j : Int))))), (10, .long (zL ((((ca * (5 + (i : Int))) * (5 + (i : Int))) + ((wa * ((20 + (j : Int)) - (5 + (i : Int)))) * ((20 + (j : Int)) - (5 + (i : Int)))))))), (0, .ref 0), (1, .int (zN (ca))), (2, .int (zN (wa))), (3, .int (zN (what))), (6, .long (zL ((zlin ca wa (20 + (j : Int)) i (zlout ca wa j)).2.2))), (8, .int (zN ((20 + (j : Int))))), (9, .int (zN ((5 + (i : Int)))))] _ _
                      refine x_lload (pc := 147) dX11_lamp_147 (List.Mem.tail _ (List.Mem.tail _ (List.Mem.head _))) ?_
                      refine x_lstore (pc := 149) dX11_lamp_149 (Nat.le_of_ble_eq_true rfl) ?_
                      show Ev _ _ _ _ _ [(6, .long (zL ((((ca * (5 + (i : Int))) * (5 + (i : Int))) + ((wa * ((20 + (j : Int)) - (5 + (i : Int)))) * ((20 + (j : Int)) - (5 + (i : Int)))))))), (5, .int (zN ((5 + (i : Int))))), (4, .int (zN ((20 + (j : Int))))), (10, .long (zL ((((ca * (5 + (i : Int))) * (5 + (i : Int))) + ((wa * ((20 + (j : Int)) - (5 + (i : Int)))) * ((20 + (j : Int)) - (5 + (i : Int)))))))), (0, .ref 0), (1, .int (zN (ca))), (2, .int (zN (wa))), (3, .int (zN (what))), (8, .int (zN ((20 + (j : Int))))), (9, .int (zN ((5 + (i : Int)))))] _ _
                      refine z_iinc (pc := 151) dX11_lamp_151 (List.Mem.tail _ (List.Mem.tail _ (List.Mem.tail _ (List.Mem.tail _ (List.Mem.tail _ (List.Mem.tail _ (List.Mem.tail _ (List.Mem.tail _ (List.Mem.tail _ (List.Mem.head _)))))))))) (Nat.le_of_ble_eq_true rfl) ?_
                      show Ev _ _ _ _ _ [(9, .int (zN ((5 + (i : Int)) + 1))), (6, .long (zL ((((ca * (5 + (i : Int))) * (5 + (i : Int))) + ((wa * ((20 + (j : Int)) - (5 + (i : Int)))) * ((20 + (j : Int)) - (5 + (i : Int)))))))), (5, .int (zN ((5 + (i : Int))))), (4, .int (zN ((20 + (j : Int))))), (10, .long (zL ((((ca * (5 + (i : Int))) * (5 + (i : Int))) + ((wa * ((20 + (j : Int)) - (5 + (i : Int)))) * ((20 + (j : Int)) - (5 + (i : Int)))))))), (0, .ref 0), (1, .int (zN (ca))), (2, .int (zN (wa))), (3, .int (zN (what))), (8, .int (zN ((20 + (j : Int)))))] _ _
                      refine x_goto (pc := 154) (tgt := 76) dX11_lamp_154 (by decide) ?_
                      refine x_weaken (L1 := [(0, .ref 0), (1, .int (zN (ca))), (2, .int (zN (wa))), (3, .int (zN (what))), (4, .int (zN ((zlin ca wa (20 + (j : Int)) (i + 1) (zlout ca wa j)).1))), (5, .int (zN ((zlin ca wa (20 + (j : Int)) (i + 1) (zlout ca wa j)).2.1))), (6, .long (zL ((zlin ca wa (20 + (j : Int)) (i + 1) (zlout ca wa j)).2.2))), (8, .int (zN ((20 + (j : Int))))), (9, .int (zN ((5 + (((i + 1) : Nat) : Int)))))]) (List.forall_mem_cons.mpr ⟨(List.Mem.tail _ (List.Mem.tail _ (List.Mem.tail _ (List.Mem.tail _ (List.Mem.tail _ (List.Mem.head _)))))), (List.forall_mem_cons.mpr ⟨(List.Mem.tail _ (List.Mem.tail _ (List.Mem.tail _ (List.Mem.tail _ (List.Mem.tail _ (List.Mem.tail _ (List.Mem.head _))))))), (List.forall_mem_cons.mpr ⟨(List.Mem.tail _ (List.Mem.tail _ (List.Mem.tail _ (List.Mem.tail _ (List.Mem.tail _ (List.Mem.tail _ (List.Mem.tail _ (List.Mem.head _)))))))), (List.forall_mem_cons.mpr ⟨(List.Mem.tail _ (List.Mem.tail _ (List.Mem.tail _ (List.Mem.tail _ (List.Mem.tail _ (List.Mem.tail _ (List.Mem.tail _ (List.Mem.tail _ (List.Mem.head _))))))))), (List.forall_mem_cons.mpr ⟨(mem_ci (by show (zlst ca wa (20 + (j : Int)) (5 + (i : Int)) (zlin ca wa (20 + (j : Int)) i (zlout ca wa j))).1 = _; unfold zlst; first | (rw [if_pos (by unfold zlv; omega)]; try rfl) | (rw [if_neg (by unfold zlv; omega)]; try rfl)) (List.Mem.tail _ (List.Mem.tail _ (List.Mem.tail _ (List.Mem.head _))))), (List.forall_mem_cons.mpr ⟨(mem_ci (by show (zlst ca wa (20 + (j : Int)) (5 + (i : Int)) (zlin ca wa (20 + (j : Int)) i (zlout ca wa j))).2.1 = _; unfold zlst; first | (rw [if_pos (by unfold zlv; omega)]; try rfl) | (rw [if_neg (by unfold zlv; omega)]; try rfl)) (List.Mem.tail _ (List.Mem.tail _ (List.Mem.head _)))), (List.forall_mem_cons.mpr ⟨(mem_cl (by show (zlst ca wa (20 + (j : Int)) (5 + (i : Int)) (zlin ca wa (20 + (j : Int)) i (zlout ca wa j))).2.2 = _; unfold zlst; first | (rw [if_pos (by unfold zlv; omega)]; try rfl) | (rw [if_neg (by unfold zlv; omega)]; try rfl)) (List.Mem.tail _ (List.Mem.head _))), (List.forall_mem_cons.mpr ⟨(List.Mem.tail _ (List.Mem.tail _ (List.Mem.tail _ (List.Mem.tail _ (List.Mem.tail _ (List.Mem.tail _ (List.Mem.tail _ (List.Mem.tail _ (List.Mem.tail _ (List.Mem.head _)))))))))), (List.forall_mem_cons.mpr ⟨(mem_ci (by omega) (List.Mem.head _)), (fun _ h => absurd h List.not_mem_nil)⟩)⟩)⟩)⟩)⟩)⟩)⟩)⟩)⟩) ?_
                      exact ih76 ((i + 1)) (by omega) (by omega)
                    · skip
                      have m1 := nn2 (x := zlv ca wa (20 + (j : Int)) (5 + (i : Int))) (y := (zlin ca wa (20 + (j : Int)) i (zlout ca wa j)).1) (A := 28771200) (B := 120) (by unfold zlv; omega) (by unfold zlv; omega) (by omega) (by omega)
                      have m2 := nn2 (x := (zlin ca wa (20 + (j : Int)) i (zlout ca wa j)).2.2) (y := 20 + (j : Int)) (A := 28771200) (B := 120) (by omega) (by omega) (by omega) (by omega)
                      unfold zlv at m1
                      refine x_lload (pc := 120) dX11_lamp_120 (List.Mem.head _) ?_
                      refine x_iload (pc := 122) dX11_lamp_122 (List.Mem.tail _ (List.Mem.tail _ (List.Mem.tail _ (List.Mem.tail _ (List.Mem.tail _ (List.Mem.head _)))))) ?_
                      refine z_i2l (pc := 124) dX11_lamp_124 (by omega) (by omega) ?_
                      refine z_lmul (pc := 125) dX11_lamp_125 ?_
                      refine x_lload (pc := 126) dX11_lamp_126 (List.Mem.tail _ (List.Mem.tail _ (List.Mem.tail _ (List.Mem.tail _ (List.Mem.tail _ (List.Mem.tail _ (List.Mem.tail _ (List.Mem.head _)))))))) ?_
                      refine x_iload (pc := 128) dX11_lamp_128 (List.Mem.tail _ (List.Mem.tail _ (List.Mem.tail _ (List.Mem.tail _ (List.Mem.tail _ (List.Mem.tail _ (List.Mem.tail _ (List.Mem.tail _ (List.Mem.head _))))))))) ?_
                      refine z_i2l (pc := 130) dX11_lamp_130 (by omega) (by omega) ?_
                      refine z_lmul (pc := 131) dX11_lamp_131 ?_
                      refine z_lcmp_lt (pc := 132) (tgt := 139) dX11_lamp_132 dX11_lamp_133 (by decide) (by omega) (by omega) (by omega) (by omega) (fun hb18 => ?_) (fun hb18 => ?_)
                      · skip
                        refine x_iload (pc := 139) dX11_lamp_139 (List.Mem.tail _ (List.Mem.tail _ (List.Mem.tail _ (List.Mem.tail _ (List.Mem.tail _ (List.Mem.tail _ (List.Mem.tail _ (List.Mem.tail _ (List.Mem.head _))))))))) ?_
                        refine x_istore (pc := 141) dX11_lamp_141 (Nat.le_of_ble_eq_true rfl) ?_
                        show Ev _ _ _ _ _ [(4, .int (zN ((20 + (j : Int))))), (10, .long (zL ((((ca * (5 + (i : Int))) * (5 + (i : Int))) + ((wa * ((20 + (j : Int)) - (5 + (i : Int)))) * ((20 + (j : Int)) - (5 + (i : Int)))))))), (0, .ref 0), (1, .int (zN (ca))), (2, .int (zN (wa))), (3, .int (zN (what))), (5, .int (zN ((zlin ca wa (20 + (j : Int)) i (zlout ca wa j)).2.1))), (6, .long (zL ((zlin ca wa (20 + (j : Int)) i (zlout ca wa j)).2.2))), (8, .int (zN ((20 + (j : Int))))), (9, .int (zN ((5 + (i : Int)))))] _ _
                        refine x_iload (pc := 143) dX11_lamp_143 (List.Mem.tail _ (List.Mem.tail _ (List.Mem.tail _ (List.Mem.tail _ (List.Mem.tail _ (List.Mem.tail _ (List.Mem.tail _ (List.Mem.tail _ (List.Mem.tail _ (List.Mem.head _)))))))))) ?_
                        refine x_istore (pc := 145) dX11_lamp_145 (Nat.le_of_ble_eq_true rfl) ?_
                        show Ev _ _ _ _ _ [(5, .int (zN ((5 + (i : Int))))), (4, .int (zN ((20 + (j : Int))))), (10, .long (zL ((((ca * (5 + (i : Int))) * (5 + (i : Int))) + ((wa * ((20 + (j : Int)) - (5 + (i : Int)))) * ((20 + (j : Int)) - (5 + (i : Int)))))))), (0, .ref 0), (1, .int (zN (ca))), (2, .int (zN (wa))), (3, .int (zN (what))), (6, .long (zL ((zlin ca wa (20 + (j : Int)) i (zlout ca wa j)).2.2))), (8, .int (zN ((20 + (j : Int))))), (9, .int (zN ((5 + (i : Int)))))] _ _
                        refine x_lload (pc := 147) dX11_lamp_147 (List.Mem.tail _ (List.Mem.tail _ (List.Mem.head _))) ?_
                        refine x_lstore (pc := 149) dX11_lamp_149 (Nat.le_of_ble_eq_true rfl) ?_
                        show Ev _ _ _ _ _ [(6, .long (zL ((((ca * (5 + (i : Int))) * (5 + (i : Int))) + ((wa * ((20 + (j : Int)) - (5 + (i : Int)))) * ((20 + (j : Int)) - (5 + (i : Int)))))))), (5, .int (zN ((5 + (i : Int))))), (4, .int (zN ((20 + (j : Int))))), (10, .long (zL ((((ca * (5 + (i : Int))) * (5 + (i : Int))) + ((wa * ((20 + (j : Int)) - (5 + (i : Int)))) * ((20 + (j : Int)) - (5 + (i : Int)))))))), (0, .ref 0), (1, .int (zN (ca))), (2, .int (zN (wa))), (3, .int (zN (what))), (8, .int (zN ((20 + (j : Int))))), (9, .int (zN ((5 + (i : Int)))))] _ _
                        refine z_iinc (pc := 151) dX11_lamp_151 (List.Mem.tail _ (List.Mem.tail _ (List.Mem.tail _ (List.Mem.tail _ (List.Mem.tail _ (List.Mem.tail _ (List.Mem.tail _ (List.Mem.tail _ (List.Mem.tail _ (List.Mem.head _)))))))))) (Nat.le_of_ble_eq_true rfl) ?_
                        show Ev _ _ _ _ _ [(9, .int (zN ((5 + (i : Int)) + 1))), (6, .long (zL ((((ca * (5 + (i : Int))) * (5 + (i : Int))) + ((wa * ((20 + (j : Int)) - (5 + (i : Int)))) * ((20 + (j : Int)) - (5 + (i : Int)))))))), (5, .int (zN ((5 + (i : Int))))), (4, .int (zN ((20 + (j : Int))))), (10, .long (zL ((((ca * (5 + (i : Int))) * (5 + (i : Int))) + ((wa * ((20 + (j : Int)) - (5 + (i : Int)))) * ((20 + (j : Int)) - (5 + (i : Int)))))))), (0, .ref 0), (1, .int (zN (ca))), (2, .int (zN (wa))), (3, .int (zN (what))), (8, .int (zN ((20 + (j : Int)))))] _ _
                        refine x_goto (pc := 154) (tgt := 76) dX11_lamp_154 (by decide) ?_
                        refine x_weaken (L1 := [(0, .ref 0), (1, .int (zN (ca))), (2, .int (zN (wa))), (3, .int (zN (what))), (4, .int (zN ((zlin ca wa (20 + (j : Int)) (i + 1) (zlout ca wa j)).1))), (5, .int (zN ((zlin ca wa (20 + (j : Int)) (i + 1) (zlout ca wa j)).2.1))), (6, .long (zL ((zlin ca wa (20 + (j : Int)) (i + 1) (zlout ca wa j)).2.2))), (8, .int (zN ((20 + (j : Int))))), (9, .int (zN ((5 + (((i + 1) : Nat) : Int)))))]) (List.forall_mem_cons.mpr ⟨(List.Mem.tail _ (List.Mem.tail _ (List.Mem.tail _ (List.Mem.tail _ (List.Mem.tail _ (List.Mem.head _)))))), (List.forall_mem_cons.mpr ⟨(List.Mem.tail _ (List.Mem.tail _ (List.Mem.tail _ (List.Mem.tail _ (List.Mem.tail _ (List.Mem.tail _ (List.Mem.head _))))))), (List.forall_mem_cons.mpr ⟨(List.Mem.tail _ (List.Mem.tail _ (List.Mem.tail _ (List.Mem.tail _ (List.Mem.tail _ (List.Mem.tail _ (List.Mem.tail _ (List.Mem.head _)))))))), (List.forall_mem_cons.mpr ⟨(List.Mem.tail _ (List.Mem.tail _ (List.Mem.tail _ (List.Mem.tail _ (List.Mem.tail _ (List.Mem.tail _ (List.Mem.tail _ (List.Mem.tail _ (List.Mem.head _))))))))), (List.forall_mem_cons.mpr ⟨(mem_ci (by show (zlst ca wa (20 + (j : Int)) (5 + (i : Int)) (zlin ca wa (20 + (j : Int)) i (zlout ca wa j))).1 = _; unfold zlst; first | (rw [if_pos (by unfold zlv; omega)]; try rfl) | (rw [if_neg (by unfold zlv; omega)]; try rfl)) (List.Mem.tail _ (List.Mem.tail _ (List.Mem.tail _ (List.Mem.head _))))), (List.forall_mem_cons.mpr ⟨(mem_ci (by show (zlst ca wa (20 + (j : Int)) (5 + (i : Int)) (zlin ca wa (20 + (j : Int)) i (zlout ca wa j))).2.1 = _; unfold zlst; first | (rw [if_pos (by unfold zlv; omega)]; try rfl) | (rw [if_neg (by unfold zlv; omega)]; try rfl)) (List.Mem.tail _ (List.Mem.tail _ (List.Mem.head _)))), (List.forall_mem_cons.mpr ⟨(mem_cl (by show (zlst ca wa (20 + (j : Int)) (5 + (i : Int)) (zlin ca wa (20 + (j : Int)) i (zlout ca wa j))).2.2 = _; unfold zlst; first | (rw [if_pos (by unfold zlv; omega)]; try rfl) | (rw [if_neg (by unfold zlv; omega)]; try rfl)) (List.Mem.tail _ (List.Mem.head _))), (List.forall_mem_cons.mpr ⟨(List.Mem.tail _ (List.Mem.tail _ (List.Mem.tail _ (List.Mem.tail _ (List.Mem.tail _ (List.Mem.tail _ (List.Mem.tail _ (List.Mem.tail _ (List.Mem.tail _ (List.Mem.head _)))))))))), (List.forall_mem_cons.mpr ⟨(mem_ci (by omega) (List.Mem.head _)), (fun _ h => absurd h List.not_mem_nil)⟩)⟩)⟩)⟩)⟩)⟩)⟩)⟩)⟩) ?_
                        exact ih76 ((i + 1)) (by omega) (by omega)
                      · skip
                        refine x_goto (pc := 136) (tgt := 151) dX11_lamp_136 (by decide) ?_
                        refine z_iinc (pc := 151) dX11_lamp_151 (List.Mem.tail _ (List.Mem.tail _ (List.Mem.tail _ (List.Mem.tail _ (List.Mem.tail _ (List.Mem.tail _ (List.Mem.tail _ (List.Mem.tail _ (List.Mem.tail _ (List.Mem.head _)))))))))) (Nat.le_of_ble_eq_true rfl) ?_
                        show Ev _ _ _ _ _ [(9, .int (zN ((5 + (i : Int)) + 1))), (10, .long (zL ((((ca * (5 + (i : Int))) * (5 + (i : Int))) + ((wa * ((20 + (j : Int)) - (5 + (i : Int)))) * ((20 + (j : Int)) - (5 + (i : Int)))))))), (0, .ref 0), (1, .int (zN (ca))), (2, .int (zN (wa))), (3, .int (zN (what))), (4, .int (zN ((zlin ca wa (20 + (j : Int)) i (zlout ca wa j)).1))), (5, .int (zN ((zlin ca wa (20 + (j : Int)) i (zlout ca wa j)).2.1))), (6, .long (zL ((zlin ca wa (20 + (j : Int)) i (zlout ca wa j)).2.2))), (8, .int (zN ((20 + (j : Int)))))] _ _
                        refine x_goto (pc := 154) (tgt := 76) dX11_lamp_154 (by decide) ?_
                        refine x_weaken (L1 := [(0, .ref 0), (1, .int (zN (ca))), (2, .int (zN (wa))), (3, .int (zN (what))), (4, .int (zN ((zlin ca wa (20 + (j : Int)) (i + 1) (zlout ca wa j)).1))), (5, .int (zN ((zlin ca wa (20 + (j : Int)) (i + 1) (zlout ca wa j)).2.1))), (6, .long (zL ((zlin ca wa (20 + (j : Int)) (i + 1) (zlout ca wa j)).2.2))), (8, .int (zN ((20 + (j : Int))))), (9, .int (zN ((5 + (((i + 1) : Nat) : Int)))))]) (List.forall_mem_cons.mpr ⟨(List.Mem.tail _ (List.Mem.tail _ (List.Mem.head _))), (List.forall_mem_cons.mpr ⟨(List.Mem.tail _ (List.Mem.tail _ (List.Mem.tail _ (List.Mem.head _)))), (List.forall_mem_cons.mpr ⟨(List.Mem.tail _ (List.Mem.tail _ (List.Mem.tail _ (List.Mem.tail _ (List.Mem.head _))))), (List.forall_mem_cons.mpr ⟨(List.Mem.tail _ (List.Mem.tail _ (List.Mem.tail _ (List.Mem.tail _ (List.Mem.tail _ (List.Mem.head _)))))), (List.forall_mem_cons.mpr ⟨(mem_ci (by show (zlst ca wa (20 + (j : Int)) (5 + (i : Int)) (zlin ca wa (20 + (j : Int)) i (zlout ca wa j))).1 = _; unfold zlst; first | (rw [if_pos (by unfold zlv; omega)]; try rfl) | (rw [if_neg (by unfold zlv; omega)]; try rfl)) (List.Mem.tail _ (List.Mem.tail _ (List.Mem.tail _ (List.Mem.tail _ (List.Mem.tail _ (List.Mem.tail _ (List.Mem.head _)))))))), (List.forall_mem_cons.mpr ⟨(mem_ci (by show (zlst ca wa (20 + (j : Int)) (5 + (i : Int)) (zlin ca wa (20 + (j : Int)) i (zlout ca wa j))).2.1 = _; unfold zlst; first | (rw [if_pos (by unfold zlv; omega)]; try rfl) | (rw [if_neg (by unfold zlv; omega)]; try rfl)) (List.Mem.tail _ (List.Mem.tail _ (List.Mem.tail _ (List.Mem.tail _ (List.Mem.tail _ (List.Mem.tail _ (List.Mem.tail _ (List.Mem.head _))))))))), (List.forall_mem_cons.mpr ⟨(mem_cl (by show (zlst ca wa (20 + (j : Int)) (5 + (i : Int)) (zlin ca wa (20 + (j : Int)) i (zlout ca wa j))).2.2 = _; unfold zlst; first | (rw [if_pos (by unfold zlv; omega)]; try rfl) | (rw [if_neg (by unfold zlv; omega)]; try rfl)) (List.Mem.tail _ (List.Mem.tail _ (List.Mem.tail _ (List.Mem.tail _ (List.Mem.tail _ (List.Mem.tail _ (List.Mem.tail _ (List.Mem.tail _ (List.Mem.head _)))))))))), (List.forall_mem_cons.mpr ⟨(List.Mem.tail _ (List.Mem.tail _ (List.Mem.tail _ (List.Mem.tail _ (List.Mem.tail _ (List.Mem.tail _ (List.Mem.tail _ (List.Mem.tail _ (List.Mem.tail _ (List.Mem.head _)))))))))), (List.forall_mem_cons.mpr ⟨(mem_ci (by omega) (List.Mem.head _)), (fun _ h => absurd h List.not_mem_nil)⟩)⟩)⟩)⟩)⟩)⟩)⟩)⟩)⟩) ?_
                        exact ih76 ((i + 1)) (by omega) (by omega)
              refine x_weaken (L1 := [(0, .ref 0), (1, .int (zN (ca))), (2, .int (zN (wa))), (3, .int (zN (what))), (4, .int (zN ((zlin ca wa (20 + (j : Int)) 0 (zlout ca wa j)).1))), (5, .int (zN ((zlin ca wa (20 + (j : Int)) 0 (zlout ca wa j)).2.1))), (6, .long (zL ((zlin ca wa (20 + (j : Int)) 0 (zlout ca wa j)).2.2))), (8, .int (zN ((20 + (j : Int))))), (9, .int (zN ((5 + ((0 : Nat) : Int)))))]) (List.forall_mem_cons.mpr ⟨(List.Mem.tail _ (List.Mem.head _)), (List.forall_mem_cons.mpr ⟨(List.Mem.tail _ (List.Mem.tail _ (List.Mem.head _))), (List.forall_mem_cons.mpr ⟨(List.Mem.tail _ (List.Mem.tail _ (List.Mem.tail _ (List.Mem.head _)))), (List.forall_mem_cons.mpr ⟨(List.Mem.tail _ (List.Mem.tail _ (List.Mem.tail _ (List.Mem.tail _ (List.Mem.head _))))), (List.forall_mem_cons.mpr ⟨(mem_ci (rfl) (List.Mem.tail _ (List.Mem.tail _ (List.Mem.tail _ (List.Mem.tail _ (List.Mem.tail _ (List.Mem.head _))))))), (List.forall_mem_cons.mpr ⟨(mem_ci (rfl) (List.Mem.tail _ (List.Mem.tail _ (List.Mem.tail _ (List.Mem.tail _ (List.Mem.tail _ (List.Mem.tail _ (List.Mem.head _)))))))), (List.forall_mem_cons.mpr ⟨(mem_cl (rfl) (List.Mem.tail _ (List.Mem.tail _ (List.Mem.tail _ (List.Mem.tail _ (List.Mem.tail _ (List.Mem.tail _ (List.Mem.tail _ (List.Mem.head _))))))))), (List.forall_mem_cons.mpr ⟨(List.Mem.tail _ (List.Mem.tail _ (List.Mem.tail _ (List.Mem.tail _ (List.Mem.tail _ (List.Mem.tail _ (List.Mem.tail _ (List.Mem.tail _ (List.Mem.head _))))))))), (List.forall_mem_cons.mpr ⟨(mem_ci (by omega) (List.Mem.head _)), (fun _ h => absurd h List.not_mem_nil)⟩)⟩)⟩)⟩)⟩)⟩)⟩)⟩)⟩) ?_
              exact lp76 (j + 6 - 0 + 1) (0) (by omega) (Nat.lt_succ_self _)
        refine x_weaken (L1 := [(0, .ref 0), (1, .int (zN (ca))), (2, .int (zN (wa))), (3, .int (zN (what))), (4, .int (zN ((zlout ca wa 0).1))), (5, .int (zN ((zlout ca wa 0).2.1))), (6, .long (zL ((zlout ca wa 0).2.2))), (8, .int (zN ((20 + ((0 : Nat) : Int)))))]) (List.forall_mem_cons.mpr ⟨(List.Mem.tail _ (List.Mem.tail _ (List.Mem.tail _ (List.Mem.tail _ (List.Mem.head _))))), (List.forall_mem_cons.mpr ⟨(List.Mem.tail _ (List.Mem.tail _ (List.Mem.tail _ (List.Mem.tail _ (List.Mem.tail _ (List.Mem.head _)))))), (List.forall_mem_cons.mpr ⟨(List.Mem.tail _ (List.Mem.tail _ (List.Mem.tail _ (List.Mem.tail _ (List.Mem.tail _ (List.Mem.tail _ (List.Mem.head _))))))), (List.forall_mem_cons.mpr ⟨(List.Mem.tail _ (List.Mem.tail _ (List.Mem.tail _ (List.Mem.tail _ (List.Mem.tail _ (List.Mem.tail _ (List.Mem.tail _ (List.Mem.head _)))))))), (List.forall_mem_cons.mpr ⟨(mem_ci (rfl) (List.Mem.tail _ (List.Mem.tail _ (List.Mem.tail _ (List.Mem.head _))))), (List.forall_mem_cons.mpr ⟨(mem_ci (rfl) (List.Mem.tail _ (List.Mem.tail _ (List.Mem.head _)))), (List.forall_mem_cons.mpr ⟨(mem_cl (rfl) (List.Mem.tail _ (List.Mem.head _))), (List.forall_mem_cons.mpr ⟨(mem_ci (by omega) (List.Mem.head _)), (fun _ h => absurd h List.not_mem_nil)⟩)⟩)⟩)⟩)⟩)⟩)⟩)⟩) ?_
        exact lp66 (101 - 0 + 1) (0) (by omega) (Nat.lt_succ_self _)
      · skip
        refine z_if_ne (pc := 43) (tgt := 53) dX11_lamp_43 (by decide) (by decide) (by decide) (fun h => absurd h (by decide)) (fun _ => ?_)
        refine x_aload_n (pc := 46) dX11_lamp_46 (List.Mem.head _) ?_
        refine z_bipush (pc := 47) dX11_lamp_47 bp_m3 ?_
        refine z_callVip (pc := 49) (i := mX11_no) (S := []) [.int (zN ((-3)))] dX11_lamp_49 ml_X11_89 ok_X11_no rfl sh_0 rfl (Or.inl rfl) (Nat.le_of_ble_eq_true rfl) (c_X11_no (d := d) (code := ((-3))) (code1 := (by omega)) (code2 := (by omega)) (ok := ok11) (cn := (by first | assumption | omega))) (fun r20a r20b ok21 => ?_)
        show Ev _ _ _ _ _ _ _ (eh (wI H 1 ((refIx ((-3)))) (H.1 1 (refIx ((-3))) + 1)))
        refine z_ireturn (pc := 52) dX11_lamp_52 rfl (Or.inl rfl) ok21 (by omega) (by omega) ?_
        have e : S_lamp ca wa what = (-3, 1) := by unfold S_lamp; rw [if_pos (by omega)]; exact if_neg (by omega)
        rw [e]
        exact ⟨rfl, rfl⟩
    · skip
      refine z_if_eq (pc := 31) (tgt := 46) dX11_lamp_31 (by decide) (by decide) (by decide) (fun _ => ?_) (fun h => absurd h (by decide))
      refine x_aload_n (pc := 46) dX11_lamp_46 (List.Mem.head _) ?_
      refine z_bipush (pc := 47) dX11_lamp_47 bp_m3 ?_
      refine z_callVip (pc := 49) (i := mX11_no) (S := []) [.int (zN ((-3)))] dX11_lamp_49 ml_X11_89 ok_X11_no rfl sh_0 rfl (Or.inl rfl) (Nat.le_of_ble_eq_true rfl) (c_X11_no (d := d) (code := ((-3))) (code1 := (by omega)) (code2 := (by omega)) (ok := ok7) (cn := (by first | assumption | omega))) (fun r23a r23b ok24 => ?_)
      show Ev _ _ _ _ _ _ _ (eh (wI H 1 ((refIx ((-3)))) (H.1 1 (refIx ((-3))) + 1)))
      refine z_ireturn (pc := 52) dX11_lamp_52 rfl (Or.inl rfl) ok24 (by omega) (by omega) ?_
      have e : S_lamp ca wa what = (-3, 1) := by unfold S_lamp; rw [if_pos (by omega)]; exact if_neg (by omega)
      rw [e]
      exact ⟨rfl, rfl⟩
  · skip
    refine z_if_ne (pc := 12) (tgt := 22) dX11_lamp_12 (by decide) (by decide) (by decide) (fun h => absurd h (by decide)) (fun _ => ?_)
    refine x_aload_n (pc := 15) dX11_lamp_15 (List.Mem.head _) ?_
    refine z_bipush (pc := 16) dX11_lamp_16 bp_m2 ?_
    refine z_callVip (pc := 18) (i := mX11_no) (S := []) [.int (zN ((-2)))] dX11_lamp_18 ml_X11_89 ok_X11_no rfl sh_0 rfl (Or.inl rfl) (Nat.le_of_ble_eq_true rfl) (c_X11_no (d := d) (code := ((-2))) (code1 := (by omega)) (code2 := (by omega)) (ok := ok3) (cn := (by first | assumption | omega))) (fun r26a r26b ok27 => ?_)
    show Ev _ _ _ _ _ _ _ (eh (wI H 1 ((refIx ((-2)))) (H.1 1 (refIx ((-2))) + 1)))
    refine z_ireturn (pc := 21) dX11_lamp_21 rfl (Or.inl rfl) ok27 (by omega) (by omega) ?_
    have e : S_lamp ca wa what = (-2, 0) := by unfold S_lamp; exact if_neg (by omega)
    rw [e]
    exact ⟨rfl, rfl⟩

theorem c_X10_commonDivisor {d : Nat} {H : ZH} (ok : okZ H) {a b : Int} (a1 : 0 ≤ a) (a2 : a ≤ 4611686018427387904) (b1 : 0 < b) (b2 : b ≤ 4611686018427387904) : EvC zX (d + 1) mX10_commonDivisor [.long (zL (a)), .long (zL (b))] (eh H) (zPl (fun (rz : Int) (Hz : ZH) => rz = (((Int.gcd a b : Nat) : Int)) ∧ Hz = H)) := by
  show _ ∧ Ev zX mX10_commonDivisor (EvC zX d) (zPl (fun (rz : Int) (Hz : ZH) => rz = (((Int.gcd a b : Nat) : Int)) ∧ Hz = H)) 0 [(0, .long (zL (a))), (2, .long (zL (b)))] [] (eh H)
  refine ⟨Nat.le_of_ble_eq_true rfl, ?_⟩
  refine x_lload_n (pc := 0) dX10_commonDivisor_0 (List.Mem.head _) ?_
  refine x_lstore (pc := 1) dX10_commonDivisor_1 (Nat.le_of_ble_eq_true rfl) ?_
  show Ev _ _ _ _ _ [(4, .long (zL (a))), (0, .long (zL (a))), (2, .long (zL (b)))] _ _
  refine x_lload_n (pc := 3) dX10_commonDivisor_3 (List.Mem.tail _ (List.Mem.tail _ (List.Mem.head _))) ?_
  refine x_lstore (pc := 4) dX10_commonDivisor_4 (Nat.le_of_ble_eq_true rfl) ?_
  show Ev _ _ _ _ _ [(6, .long (zL (b))), (4, .long (zL (a))), (0, .long (zL (a))), (2, .long (zL (b)))] _ _
  refine z_iconst (pc := 6) dX10_commonDivisor_6 ?_
  refine x_istore (pc := 7) dX10_commonDivisor_7 (Nat.le_of_ble_eq_true rfl) ?_
  show Ev _ _ _ _ _ [(8, .int (zN (0))), (6, .long (zL (b))), (4, .long (zL (a))), (0, .long (zL (a))), (2, .long (zL (b)))] _ _
  have lp9 : ∀ (nF : Nat) (k : Nat) (x : Int) (y : Int), (k ≤ 200) → (0 ≤ x ∧ x ≤ 4611686018427387904) → (0 ≤ y ∧ y ≤ 4611686018427387904) → (Int.gcd x y = Int.gcd a b) → (k = 0 ∨ (y < x ∧ ∃ c : Nat, c + k = 128 ∧ x * y < 2 ^ c) ∨ y = 0) → 200 - k < nF → Ev zX mX10_commonDivisor (EvC zX d) (zPl (fun (rz : Int) (Hz : ZH) => rz = (((Int.gcd a b : Nat) : Int)) ∧ Hz = H)) 9 [(4, .long (zL (x))), (6, .long (zL (y))), (8, .int (zN ((k : Int))))] [] (eh H) := by
    intro nF
    induction nF with
    | zero => intro k x y hk hx hy hg hp hm; exact absurd hm (Nat.not_lt_zero _)
    | succ nF ih9 =>
      intro k x y hk hx hy hg hp hm
      refine x_iload (pc := 9) dX10_commonDivisor_9 (List.Mem.tail _ (List.Mem.tail _ (List.Mem.head _))) ?_
      refine z_sipush (pc := 11) dX10_commonDivisor_11 sp_200 ?_
      refine z_icmp_ge (pc := 14) (tgt := 45) dX10_commonDivisor_14 (by decide) (by omega) (by omega) (by decide) (by decide) (fun hb1 => ?_) (fun hb1 => ?_)
      · skip
        have e0 : y = 0 := by rcases hp with q | ⟨_, c, q1, q2⟩ | q <;> first | omega | (have := zgcd_end hx hy (k := k) (c := c) (by omega) q1 q2; omega)
        subst e0
        have hgx : ((Int.gcd x 0 : Nat) : Int) = x := by rw [Int.gcd_zero_right]; exact Int.natAbs_of_nonneg hx.1
        have hgp : 0 < Int.gcd a b := Int.gcd_pos_of_ne_zero_right a (by omega)
        rw [hg] at hgx
        refine x_lload (pc := 45) dX10_commonDivisor_45 (List.Mem.head _) ?_
        refine z_lconst (pc := 47) 1 dX10_commonDivisor_47 rfl ?_
        refine z_mmaxl (pc := 48) dX10_commonDivisor_48 ml_X10_467 (Nat.le_of_ble_eq_true rfl) (by omega) (by omega) (by decide) (by decide) ?_
        refine z_lreturn (pc := 51) dX10_commonDivisor_51 rfl ok (by omega) (by omega) ?_
        exact ⟨by split <;> omega, rfl⟩
      · skip
        refine x_lload (pc := 17) dX10_commonDivisor_17 (List.Mem.tail _ (List.Mem.head _)) ?_
        refine z_lconst (pc := 19) 0 dX10_commonDivisor_19 rfl ?_
        refine z_lcmp_eq (pc := 20) (tgt := 45) dX10_commonDivisor_20 dX10_commonDivisor_21 (by decide) (by omega) (by omega) (by decide) (by decide) (fun hb2 => ?_) (fun hb2 => ?_)
        · skip
          have e0 : y = 0 := by rcases hp with q | ⟨_, c, q1, q2⟩ | q <;> first | omega | (have := zgcd_end hx hy (k := k) (c := c) (by omega) q1 q2; omega)
          subst e0
          have hgx : ((Int.gcd x 0 : Nat) : Int) = x := by rw [Int.gcd_zero_right]; exact Int.natAbs_of_nonneg hx.1
          have hgp : 0 < Int.gcd a b := Int.gcd_pos_of_ne_zero_right a (by omega)
          rw [hg] at hgx
          refine x_lload (pc := 45) dX10_commonDivisor_45 (List.Mem.head _) ?_
          refine z_lconst (pc := 47) 1 dX10_commonDivisor_47 rfl ?_
          refine z_mmaxl (pc := 48) dX10_commonDivisor_48 ml_X10_467 (Nat.le_of_ble_eq_true rfl) (by omega) (by omega) (by decide) (by decide) ?_
          refine z_lreturn (pc := 51) dX10_commonDivisor_51 rfl ok (by omega) (by omega) ?_
          exact ⟨by split <;> omega, rfl⟩
        · skip
          have hm1 := Int.emod_nonneg x (show y ≠ 0 by omega)
          have hm2 := Int.emod_lt_of_pos x (show 0 < y by omega)
          refine x_lload (pc := 24) dX10_commonDivisor_24 (List.Mem.head _) ?_
          refine x_lload (pc := 26) dX10_commonDivisor_26 (List.Mem.tail _ (List.Mem.head _)) ?_
          refine z_lremP (pc := 28) dX10_commonDivisor_28 (by omega) (by omega) (by omega) (by omega) ?_
          refine x_lstore (pc := 29) dX10_commonDivisor_29 (Nat.le_of_ble_eq_true rfl) ?_
          show Ev _ _ _ _ _ [(9, .long (zL ((x % y)))), (4, .long (zL (x))), (6, .long (zL (y))), (8, .int (zN ((k : Int))))] _ _
          refine x_lload (pc := 31) dX10_commonDivisor_31 (List.Mem.tail _ (List.Mem.tail _ (List.Mem.head _))) ?_
          refine x_lstore (pc := 33) dX10_commonDivisor_33 (Nat.le_of_ble_eq_true rfl) ?_
          show Ev _ _ _ _ _ [(4, .long (zL (y))), (9, .long (zL ((x % y)))), (6, .long (zL (y))), (8, .int (zN ((k : Int))))] _ _
          refine x_lload (pc := 35) dX10_commonDivisor_35 (List.Mem.tail _ (List.Mem.head _)) ?_
          refine x_lstore (pc := 37) dX10_commonDivisor_37 (Nat.le_of_ble_eq_true rfl) ?_
          show Ev _ _ _ _ _ [(6, .long (zL ((x % y)))), (4, .long (zL (y))), (9, .long (zL ((x % y)))), (8, .int (zN ((k : Int))))] _ _
          refine z_iinc (pc := 39) dX10_commonDivisor_39 (List.Mem.tail _ (List.Mem.tail _ (List.Mem.tail _ (List.Mem.head _)))) (Nat.le_of_ble_eq_true rfl) ?_
          show Ev _ _ _ _ _ [(8, .int (zN ((k : Int) + 1))), (6, .long (zL ((x % y)))), (4, .long (zL (y))), (9, .long (zL ((x % y))))] _ _
          refine x_goto (pc := 42) (tgt := 9) dX10_commonDivisor_42 (by decide) ?_
          refine x_weaken (L1 := [(4, .long (zL (y))), (6, .long (zL ((x % y)))), (8, .int (zN ((((k + 1) : Nat) : Int))))]) (List.forall_mem_cons.mpr ⟨(List.Mem.tail _ (List.Mem.tail _ (List.Mem.head _))), (List.forall_mem_cons.mpr ⟨(List.Mem.tail _ (List.Mem.head _)), (List.forall_mem_cons.mpr ⟨(mem_ci (by omega) (List.Mem.head _)), (fun _ h => absurd h List.not_mem_nil)⟩)⟩)⟩) ?_
          exact ih9 ((k + 1)) (y) ((x % y)) (by omega) (by omega) (by omega) ((zgcd_step hx.1 (by omega)).trans hg) (zgcd_pot hx hy hp (by omega)) (by omega)
  refine x_weaken (L1 := [(4, .long (zL (a))), (6, .long (zL (b))), (8, .int (zN (((0 : Nat) : Int))))]) (List.forall_mem_cons.mpr ⟨(List.Mem.tail _ (List.Mem.tail _ (List.Mem.head _))), (List.forall_mem_cons.mpr ⟨(List.Mem.tail _ (List.Mem.head _)), (List.forall_mem_cons.mpr ⟨(mem_ci (by omega) (List.Mem.head _)), (fun _ h => absurd h List.not_mem_nil)⟩)⟩)⟩) ?_
  exact lp9 (200 - 0 + 1) (0) (a) (b) (by omega) (by omega) (by omega) (rfl) (Or.inl rfl) (Nat.lt_succ_self _)

theorem c_X11_common {d : Nat} {H : ZH} (ok : okZ H) {a b : Int} (a1 : 0 ≤ a) (a2 : a ≤ 4611686018427387904) (b1 : 0 < b) (b2 : b ≤ 4611686018427387904) : EvC zX (d + 1) mX11_common [.long (zL (a)), .long (zL (b))] (eh H) (zPl (fun (rz : Int) (Hz : ZH) => rz = (((Int.gcd a b : Nat) : Int)) ∧ Hz = H)) := by
  show _ ∧ Ev zX mX11_common (EvC zX d) (zPl (fun (rz : Int) (Hz : ZH) => rz = (((Int.gcd a b : Nat) : Int)) ∧ Hz = H)) 0 [(0, .long (zL (a))), (2, .long (zL (b)))] [] (eh H)
  refine ⟨Nat.le_of_ble_eq_true rfl, ?_⟩
  refine x_lload_n (pc := 0) dX11_common_0 (List.Mem.head _) ?_
  refine x_lstore (pc := 1) dX11_common_1 (Nat.le_of_ble_eq_true rfl) ?_
  show Ev _ _ _ _ _ [(4, .long (zL (a))), (0, .long (zL (a))), (2, .long (zL (b)))] _ _
  refine x_lload_n (pc := 3) dX11_common_3 (List.Mem.tail _ (List.Mem.tail _ (List.Mem.head _))) ?_
  refine x_lstore (pc := 4) dX11_common_4 (Nat.le_of_ble_eq_true rfl) ?_
  show Ev _ _ _ _ _ [(6, .long (zL (b))), (4, .long (zL (a))), (0, .long (zL (a))), (2, .long (zL (b)))] _ _
  have lp6 : ∀ (nF : Nat) (x : Int) (y : Int), (0 ≤ x ∧ x ≤ 4611686018427387904) → (0 ≤ y ∧ y ≤ 4611686018427387904) → (Int.gcd x y = Int.gcd a b) → y.toNat < nF → Ev zX mX11_common (EvC zX d) (zPl (fun (rz : Int) (Hz : ZH) => rz = (((Int.gcd a b : Nat) : Int)) ∧ Hz = H)) 6 [(4, .long (zL (x))), (6, .long (zL (y)))] [] (eh H) := by
    intro nF
    induction nF with
    | zero => intro x y hx hy hg hm; exact absurd hm (Nat.not_lt_zero _)
    | succ nF ih6 =>
      intro x y hx hy hg hm
      refine x_lload (pc := 6) dX11_common_6 (List.Mem.tail _ (List.Mem.head _)) ?_
      refine z_lconst (pc := 8) 0 dX11_common_8 rfl ?_
      refine z_lcmp_eq (pc := 9) (tgt := 31) dX11_common_9 dX11_common_10 (by decide) (by omega) (by omega) (by decide) (by decide) (fun hb1 => ?_) (fun hb1 => ?_)
      · skip
        have e0 : y = 0 := by omega
        subst e0
        have hgx : ((Int.gcd x 0 : Nat) : Int) = x := by rw [Int.gcd_zero_right]; exact Int.natAbs_of_nonneg hx.1
        have hgp : 0 < Int.gcd a b := Int.gcd_pos_of_ne_zero_right a (by omega)
        rw [hg] at hgx
        refine x_lload (pc := 31) dX11_common_31 (List.Mem.head _) ?_
        refine z_lreturn (pc := 33) dX11_common_33 rfl ok (by omega) (by omega) ?_
        exact ⟨hgx.symm, rfl⟩
      · skip
        have hm1 := Int.emod_nonneg x (show y ≠ 0 by omega)
        have hm2 := Int.emod_lt_of_pos x (show 0 < y by omega)
        refine x_lload (pc := 13) dX11_common_13 (List.Mem.head _) ?_
        refine x_lload (pc := 15) dX11_common_15 (List.Mem.tail _ (List.Mem.head _)) ?_
        refine z_lremP (pc := 17) dX11_common_17 (by omega) (by omega) (by omega) (by omega) ?_
        refine x_lstore (pc := 18) dX11_common_18 (Nat.le_of_ble_eq_true rfl) ?_
        show Ev _ _ _ _ _ [(8, .long (zL ((x % y)))), (4, .long (zL (x))), (6, .long (zL (y)))] _ _
        refine x_lload (pc := 20) dX11_common_20 (List.Mem.tail _ (List.Mem.tail _ (List.Mem.head _))) ?_
        refine x_lstore (pc := 22) dX11_common_22 (Nat.le_of_ble_eq_true rfl) ?_
        show Ev _ _ _ _ _ [(4, .long (zL (y))), (8, .long (zL ((x % y)))), (6, .long (zL (y)))] _ _
        refine x_lload (pc := 24) dX11_common_24 (List.Mem.tail _ (List.Mem.head _)) ?_
        refine x_lstore (pc := 26) dX11_common_26 (Nat.le_of_ble_eq_true rfl) ?_
        show Ev _ _ _ _ _ [(6, .long (zL ((x % y)))), (4, .long (zL (y))), (8, .long (zL ((x % y))))] _ _
        refine x_goto (pc := 28) (tgt := 6) dX11_common_28 (by decide) ?_
        refine x_weaken (L1 := [(4, .long (zL (y))), (6, .long (zL ((x % y))))]) (List.forall_mem_cons.mpr ⟨(List.Mem.tail _ (List.Mem.head _)), (List.forall_mem_cons.mpr ⟨(List.Mem.head _), (fun _ h => absurd h List.not_mem_nil)⟩)⟩) ?_
        exact ih6 (y) ((x % y)) (by omega) (by omega) ((zgcd_step hx.1 (by omega)).trans hg) (by omega)
  refine x_weaken (L1 := [(4, .long (zL (a))), (6, .long (zL (b)))]) (List.forall_mem_cons.mpr ⟨(List.Mem.tail _ (List.Mem.head _)), (List.forall_mem_cons.mpr ⟨(List.Mem.head _), (fun _ h => absurd h List.not_mem_nil)⟩)⟩) ?_
  exact lp6 (b.toNat + 1) (a) (b) (by omega) (by omega) (rfl) (Nat.lt_succ_self _)
