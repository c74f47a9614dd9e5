/-! GROUP G8: a TEST's word in the class. -/
def wfct (q N : Nat → Int) (w : Nat) (n : Int) (c : Nat) : Bool := if w = 8 then decide (N c < n) else if w = 9 then decide (n ≤ N (8 + c)) else if w = 10 then decide (q (2 + c) = n) else if w = 11 then decide (q (26 + c) = n) else if w = 12 then tsm q N (q (2 + c)) (q (2 + c)) (-1) 2 (N c) (q 1).toNat else if w = 13 then tsm q N (q (2 + c) - 1) (q (2 + c) + 1) (q (2 + c)) 2 1000 (q 1).toNat else if w = 14 then tsm q N 0 3 (q (2 + c)) 1 (N c) (q 1).toNat else if w = 15 then decide (0 < N 32 ∨ N 33 = 1) else decide (q 34 / 2 ^ w % 2 = 1)

theorem c_X4_isFact {d : Nat} {H : ZH} (ok : okZ H) {s : Nat} {q N : Nat → Int} {w c : Nat} (hw : w < 16) (hc : (c : Int) < q 1) {n : Int} (n1 : -2147483648 ≤ n) (n2 : n ≤ 2147483647) (hs : isSc s) (hsc : H.1 104 1 = (s : Int)) (ws : WFS q) (rs : RepSc H s q) (wn : WFN q N) (rd : RepRd H q N) : EvC zX (d + 2) mX4_isFact [.ref 104, .int (zN ((w : Int))), .int (zN (n)), .int (zN ((c : Int)))] (eh H) (zPi (fun (rz : Int) (Hz : ZH) => rz = (if wfct q N w n c = true then 1 else 0) ∧ Hz = H)) := by
  show _ ∧ Ev zX mX4_isFact (EvC zX (d + 1)) (zPi (fun (rz : Int) (Hz : ZH) => rz = (if wfct q N w n c = true then 1 else 0) ∧ Hz = H)) 0 [(0, .ref 104), (1, .int (zN ((w : Int)))), (2, .int (zN (n))), (3, .int (zN ((c : Int))))] [] (eh H)
  refine ⟨Nat.le_of_ble_eq_true rfl, ?_⟩
  have hsr := isSc_r hs
  have wsx := ws
  obtain ⟨ws0, ws1, wsC, ws34, ws35, ws36, ws37, ws38, ws39⟩ := wsx
  have rsx := rs
  obtain ⟨rs0, rs1, rsC, rs34, rs35, rs36, rs37, rs38, rs39⟩ := rsx
  have wnx := wn
  obtain ⟨wnC, wn32, wn33, wn34, wn35, wn36, wn37, wn38, wn39⟩ := wnx
  have rdx := rd
  obtain ⟨rdC, rd10, rd11, rd12, rd13, rd14, rd15, rd16, rd17⟩ := rdx
  have wk_c := wsC c (by omega)
  have vk_c := wnC c (by omega)
  have sk_c := rsC c (by omega)
  have dk_c := rdC c (by omega)
  refine x_iload_n (pc := 0) dX4_isFact_0 (List.Mem.tail _ (List.Mem.head _)) ?_
  rcases Int.decEq ((w : Int)) (8) with hk1_0 | hk1_0
  rotate_left
  · skip
    refine z_tabIn (pc := 1) (8) (tgt := 48) dX4_isFact_1 hk1_0 (by omega) (by omega) (by decide) (by decide) rfl (by decide) ?_
    refine x_aload_n (pc := 48) dX4_isFact_48 (List.Mem.head _) ?_
    refine z_getR (pc := 49) (k := 4) (r := 105) dX4_isFact_49 lf_X4_22 sh_104 rfl rf_104_4 ?_
    refine x_iload_n (pc := 52) dX4_isFact_52 (List.Mem.tail _ (List.Mem.tail _ (List.Mem.tail _ (List.Mem.head _)))) ?_
    refine z_iald (pc := 53) (j := c) (v := (N c)) dX4_isFact_53 sh_105 rfl (by omega) (by decide) (by rw [dk_c.1]) ?_
    refine x_iload_n (pc := 54) dX4_isFact_54 (List.Mem.tail _ (List.Mem.tail _ (List.Mem.head _))) ?_
    refine z_icmp_ge (pc := 55) (tgt := 62) dX4_isFact_55 (by decide) (by omega) (by omega) (by omega) (by omega) (fun hb2 => ?_) (fun hb2 => ?_)
    · skip
      refine z_iconst (pc := 62) dX4_isFact_62 ?_
      refine z_ireturn (pc := 63) dX4_isFact_63 rfl (Or.inr ⟨rfl, by omega⟩) ok (by decide) (by decide) ?_
      refine ⟨?_, rfl⟩
      rw [show w = 8 by omega]
      show (_ : Int) = if decide (N c < n) = true then 1 else 0
      first | exact (if_pos (decide_eq_true (by first | assumption | omega))).symm | exact (if_neg (fun h => absurd (of_decide_eq_true h) (by first | assumption | omega))).symm
    · skip
      refine z_iconst (pc := 58) dX4_isFact_58 ?_
      refine x_goto (pc := 59) (tgt := 63) dX4_isFact_59 (by decide) ?_
      refine z_ireturn (pc := 63) dX4_isFact_63 rfl (Or.inr ⟨rfl, by omega⟩) ok (by decide) (by decide) ?_
      refine ⟨?_, rfl⟩
      rw [show w = 8 by omega]
      show (_ : Int) = if decide (N c < n) = true then 1 else 0
      first | exact (if_pos (decide_eq_true (by first | assumption | omega))).symm | exact (if_neg (fun h => absurd (of_decide_eq_true h) (by first | assumption | omega))).symm
  rcases Int.decEq ((w : Int)) (9) with hk1_1 | hk1_1
  rotate_left
  · skip
    refine z_tabIn (pc := 1) (9) (tgt := 64) dX4_isFact_1 hk1_1 (by omega) (by omega) (by decide) (by decide) rfl (by decide) ?_
    refine x_aload_n (pc := 64) dX4_isFact_64 (List.Mem.head _) ?_
    refine z_getR (pc := 65) (k := 5) (r := 106) dX4_isFact_65 lf_X4_26 sh_104 rfl rf_104_5 ?_
    refine x_iload_n (pc := 68) dX4_isFact_68 (List.Mem.tail _ (List.Mem.tail _ (List.Mem.tail _ (List.Mem.head _)))) ?_
    refine z_iald (pc := 69) (j := c) (v := (N (8 + c))) dX4_isFact_69 sh_106 rfl (by omega) (by decide) (by rw [dk_c.2.1]) ?_
    refine x_iload_n (pc := 70) dX4_isFact_70 (List.Mem.tail _ (List.Mem.tail _ (List.Mem.head _))) ?_
    refine z_icmp_lt (pc := 71) (tgt := 78) dX4_isFact_71 (by decide) (by omega) (by omega) (by omega) (by omega) (fun hb3 => ?_) (fun hb3 => ?_)
    · skip
      refine z_iconst (pc := 78) dX4_isFact_78 ?_
      refine z_ireturn (pc := 79) dX4_isFact_79 rfl (Or.inr ⟨rfl, by omega⟩) ok (by decide) (by decide) ?_
      refine ⟨?_, rfl⟩
      rw [show w = 9 by omega]
      show (_ : Int) = if decide (n ≤ N (8 + c)) = true then 1 else 0
      first | exact (if_pos (decide_eq_true (by first | assumption | omega))).symm | exact (if_neg (fun h => absurd (of_decide_eq_true h) (by first | assumption | omega))).symm
    · skip
      refine z_iconst (pc := 74) dX4_isFact_74 ?_
      refine x_goto (pc := 75) (tgt := 79) dX4_isFact_75 (by decide) ?_
      refine z_ireturn (pc := 79) dX4_isFact_79 rfl (Or.inr ⟨rfl, by omega⟩) ok (by decide) (by decide) ?_
      refine ⟨?_, rfl⟩
      rw [show w = 9 by omega]
      show (_ : Int) = if decide (n ≤ N (8 + c)) = true then 1 else 0
      first | exact (if_pos (decide_eq_true (by first | assumption | omega))).symm | exact (if_neg (fun h => absurd (of_decide_eq_true h) (by first | assumption | omega))).symm
  rcases Int.decEq ((w : Int)) (10) with hk1_2 | hk1_2
  rotate_left
  · skip
    refine z_tabIn (pc := 1) (10) (tgt := 80) dX4_isFact_1 hk1_2 (by omega) (by omega) (by decide) (by decide) rfl (by decide) ?_
    refine x_aload_n (pc := 80) dX4_isFact_80 (List.Mem.head _) ?_
    refine z_getY (pc := 81) (k := 1) (r := s) dX4_isFact_81 lf_X4_42 sh_104 rfl (by rw [hsc]) (by omega) ?_
    refine z_getR (pc := 84) (k := 2) (r := (s + 1)) dX4_isFact_84 lf_X4_143 (sh_Sc0 hs) rfl (rf_Sc_2 hs) ?_
    refine x_iload_n (pc := 87) dX4_isFact_87 (List.Mem.tail _ (List.Mem.tail _ (List.Mem.tail _ (List.Mem.head _)))) ?_
    refine z_iald (pc := 88) (j := c) (v := (q (2 + c))) dX4_isFact_88 (sh_Sc1 hs) rfl (by omega) (by decide) (by rw [sk_c.1]) ?_
    refine x_iload_n (pc := 89) dX4_isFact_89 (List.Mem.tail _ (List.Mem.tail _ (List.Mem.head _))) ?_
    refine z_icmp_ne (pc := 90) (tgt := 97) dX4_isFact_90 (by decide) (by omega) (by omega) (by omega) (by omega) (fun hb4 => ?_) (fun hb4 => ?_)
    · skip
      refine z_iconst (pc := 97) dX4_isFact_97 ?_
      refine z_ireturn (pc := 98) dX4_isFact_98 rfl (Or.inr ⟨rfl, by omega⟩) ok (by decide) (by decide) ?_
      refine ⟨?_, rfl⟩
      rw [show w = 10 by omega]
      show (_ : Int) = if decide (q (2 + c) = n) = true then 1 else 0
      first | exact (if_pos (decide_eq_true (by first | assumption | omega))).symm | exact (if_neg (fun h => absurd (of_decide_eq_true h) (by first | assumption | omega))).symm
    · skip
      refine z_iconst (pc := 93) dX4_isFact_93 ?_
      refine x_goto (pc := 94) (tgt := 98) dX4_isFact_94 (by decide) ?_
      refine z_ireturn (pc := 98) dX4_isFact_98 rfl (Or.inr ⟨rfl, by omega⟩) ok (by decide) (by decide) ?_
      refine ⟨?_, rfl⟩
      rw [show w = 10 by omega]
      show (_ : Int) = if decide (q (2 + c) = n) = true then 1 else 0
      first | exact (if_pos (decide_eq_true (by first | assumption | omega))).symm | exact (if_neg (fun h => absurd (of_decide_eq_true h) (by first | assumption | omega))).symm
  rcases Int.decEq ((w : Int)) (11) with hk1_3 | hk1_3
  rotate_left
  · skip
    refine z_tabIn (pc := 1) (11) (tgt := 99) dX4_isFact_1 hk1_3 (by omega) (by omega) (by decide) (by decide) rfl (by decide) ?_
    refine x_aload_n (pc := 99) dX4_isFact_99 (List.Mem.head _) ?_
    refine z_getY (pc := 100) (k := 1) (r := s) dX4_isFact_100 lf_X4_42 sh_104 rfl (by rw [hsc]) (by omega) ?_
    refine z_getR (pc := 103) (k := 5) (r := (s + 4)) dX4_isFact_103 lf_X4_146 (sh_Sc0 hs) rfl (rf_Sc_5 hs) ?_
    refine x_iload_n (pc := 106) dX4_isFact_106 (List.Mem.tail _ (List.Mem.tail _ (List.Mem.tail _ (List.Mem.head _)))) ?_
    refine z_iald (pc := 107) (j := c) (v := (q (26 + c))) dX4_isFact_107 (sh_Sc4 hs) rfl (by omega) (by decide) (by rw [sk_c.2.2.2]) ?_
    refine x_iload_n (pc := 108) dX4_isFact_108 (List.Mem.tail _ (List.Mem.tail _ (List.Mem.head _))) ?_
    refine z_icmp_ne (pc := 109) (tgt := 116) dX4_isFact_109 (by decide) (by omega) (by omega) (by omega) (by omega) (fun hb5 => ?_) (fun hb5 => ?_)
    · skip
      refine z_iconst (pc := 116) dX4_isFact_116 ?_
      refine z_ireturn (pc := 117) dX4_isFact_117 rfl (Or.inr ⟨rfl, by omega⟩) ok (by decide) (by decide) ?_
      refine ⟨?_, rfl⟩
      rw [show w = 11 by omega]
      show (_ : Int) = if decide (q (26 + c) = n) = true then 1 else 0
      first | exact (if_pos (decide_eq_true (by first | assumption | omega))).symm | exact (if_neg (fun h => absurd (of_decide_eq_true h) (by first | assumption | omega))).symm
    · skip
      refine z_iconst (pc := 112) dX4_isFact_112 ?_
      refine x_goto (pc := 113) (tgt := 117) dX4_isFact_113 (by decide) ?_
      refine z_ireturn (pc := 117) dX4_isFact_117 rfl (Or.inr ⟨rfl, by omega⟩) ok (by decide) (by decide) ?_
      refine ⟨?_, rfl⟩
      rw [show w = 11 by omega]
      show (_ : Int) = if decide (q (26 + c) = n) = true then 1 else 0
      first | exact (if_pos (decide_eq_true (by first | assumption | omega))).symm | exact (if_neg (fun h => absurd (of_decide_eq_true h) (by first | assumption | omega))).symm
  rcases Int.decEq ((w : Int)) (12) with hk1_4 | hk1_4
  rotate_left
  · skip
    refine z_tabIn (pc := 1) (12) (tgt := 118) dX4_isFact_1 hk1_4 (by omega) (by omega) (by decide) (by decide) rfl (by decide) ?_
    refine x_aload_n (pc := 118) dX4_isFact_118 (List.Mem.head _) ?_
    refine x_iload_n (pc := 119) dX4_isFact_119 (List.Mem.tail _ (List.Mem.tail _ (List.Mem.tail _ (List.Mem.head _)))) ?_
    refine z_callVbp (pc := 120) (i := mX4_isStoppingAhead) (S := []) [.int (zN ((c : Int)))] dX4_isFact_120 ml_X4_149 ok_X4_isStoppingAhead rfl sh_104 rfl (Or.inr rfl) (Nat.le_of_ble_eq_true rfl) (c_X4_isStoppingAhead (d := d) (s := s) (q := q) (N := N) (c := c) (hc := (by omega)) (ok := ok) (hs := (by first | assumption | omega)) (hsc := (by first | assumption | omega)) (ws := (by first | assumption | omega)) (rs := (by first | assumption | omega)) (wn := (by first | assumption | omega)) (rd := (by first | assumption | omega))) (fun hc8 ok7 => ?_) (fun hc8 ok7 => ?_)
    · skip
      refine z_ireturn (pc := 123) dX4_isFact_123 rfl (Or.inr ⟨rfl, by omega⟩) ok7 (by decide) (by decide) ?_
      refine ⟨?_, rfl⟩
      rw [show w = 12 by omega]
      show (_ : Int) = if tsm q N (q (2 + c)) (q (2 + c)) (-1) 2 (N c) (q 1).toNat = true then 1 else 0
      first | exact (if_pos (by assumption)).symm | exact (if_neg (by assumption)).symm
    · skip
      refine z_ireturn (pc := 123) dX4_isFact_123 rfl (Or.inr ⟨rfl, by omega⟩) ok7 (by decide) (by decide) ?_
      refine ⟨?_, rfl⟩
      rw [show w = 12 by omega]
      show (_ : Int) = if tsm q N (q (2 + c)) (q (2 + c)) (-1) 2 (N c) (q 1).toNat = true then 1 else 0
      first | exact (if_pos (by assumption)).symm | exact (if_neg (by assumption)).symm
  rcases Int.decEq ((w : Int)) (13) with hk1_5 | hk1_5
  rotate_left
  · skip
    refine z_tabIn (pc := 1) (13) (tgt := 124) dX4_isFact_1 hk1_5 (by omega) (by omega) (by decide) (by decide) rfl (by decide) ?_
    refine x_aload_n (pc := 124) dX4_isFact_124 (List.Mem.head _) ?_
    refine x_iload_n (pc := 125) dX4_isFact_125 (List.Mem.tail _ (List.Mem.tail _ (List.Mem.tail _ (List.Mem.head _)))) ?_
    refine z_callVbp (pc := 126) (i := mX4_isStoppingBeside) (S := []) [.int (zN ((c : Int)))] dX4_isFact_126 ml_X4_152 ok_X4_isStoppingBeside rfl sh_104 rfl (Or.inr rfl) (Nat.le_of_ble_eq_true rfl) (c_X4_isStoppingBeside (d := d) (s := s) (q := q) (N := N) (c := c) (hc := (by omega)) (ok := ok) (hs := (by first | assumption | omega)) (hsc := (by first | assumption | omega)) (ws := (by first | assumption | omega)) (rs := (by first | assumption | omega)) (wn := (by first | assumption | omega)) (rd := (by first | assumption | omega))) (fun hc11 ok10 => ?_) (fun hc11 ok10 => ?_)
    · skip
      refine z_ireturn (pc := 129) dX4_isFact_129 rfl (Or.inr ⟨rfl, by omega⟩) ok10 (by decide) (by decide) ?_
      refine ⟨?_, rfl⟩
      rw [show w = 13 by omega]
      show (_ : Int) = if tsm q N (q (2 + c) - 1) (q (2 + c) + 1) (q (2 + c)) 2 1000 (q 1).toNat = true then 1 else 0
      first | exact (if_pos (by assumption)).symm | exact (if_neg (by assumption)).symm
    · skip
      refine z_ireturn (pc := 129) dX4_isFact_129 rfl (Or.inr ⟨rfl, by omega⟩) ok10 (by decide) (by decide) ?_
      refine ⟨?_, rfl⟩
      rw [show w = 13 by omega]
      show (_ : Int) = if tsm q N (q (2 + c) - 1) (q (2 + c) + 1) (q (2 + c)) 2 1000 (q 1).toNat = true then 1 else 0
      first | exact (if_pos (by assumption)).symm | exact (if_neg (by assumption)).symm
  rcases Int.decEq ((w : Int)) (14) with hk1_6 | hk1_6
  rotate_left
  · skip
    refine z_tabIn (pc := 1) (14) (tgt := 130) dX4_isFact_1 hk1_6 (by omega) (by omega) (by decide) (by decide) rfl (by decide) ?_
    refine x_aload_n (pc := 130) dX4_isFact_130 (List.Mem.head _) ?_
    refine x_iload_n (pc := 131) dX4_isFact_131 (List.Mem.tail _ (List.Mem.tail _ (List.Mem.tail _ (List.Mem.head _)))) ?_
    refine z_callVbp (pc := 132) (i := mX4_isGoingElsewhere) (S := []) [.int (zN ((c : Int)))] dX4_isFact_132 ml_X4_155 ok_X4_isGoingElsewhere rfl sh_104 rfl (Or.inr rfl) (Nat.le_of_ble_eq_true rfl) (c_X4_isGoingElsewhere (d := d) (s := s) (q := q) (N := N) (c := c) (hc := (by omega)) (ok := ok) (hs := (by first | assumption | omega)) (hsc := (by first | assumption | omega)) (ws := (by first | assumption | omega)) (rs := (by first | assumption | omega)) (wn := (by first | assumption | omega)) (rd := (by first | assumption | omega))) (fun hc14 ok13 => ?_) (fun hc14 ok13 => ?_)
    · skip
      refine z_ireturn (pc := 135) dX4_isFact_135 rfl (Or.inr ⟨rfl, by omega⟩) ok13 (by decide) (by decide) ?_
      refine ⟨?_, rfl⟩
      rw [show w = 14 by omega]
      show (_ : Int) = if tsm q N 0 3 (q (2 + c)) 1 (N c) (q 1).toNat = true then 1 else 0
      first | exact (if_pos (by assumption)).symm | exact (if_neg (by assumption)).symm
    · skip
      refine z_ireturn (pc := 135) dX4_isFact_135 rfl (Or.inr ⟨rfl, by omega⟩) ok13 (by decide) (by decide) ?_
      refine ⟨?_, rfl⟩
      rw [show w = 14 by omega]
      show (_ : Int) = if tsm q N 0 3 (q (2 + c)) 1 (N c) (q 1).toNat = true then 1 else 0
      first | exact (if_pos (by assumption)).symm | exact (if_neg (by assumption)).symm
  rcases Int.decEq ((w : Int)) (15) with hk1_7 | hk1_7
  rotate_left
  · skip
    refine z_tabIn (pc := 1) (15) (tgt := 136) dX4_isFact_1 hk1_7 (by omega) (by omega) (by decide) (by decide) rfl (by decide) ?_
    refine x_aload_n (pc := 136) dX4_isFact_136 (List.Mem.head _) ?_
    have rd15 := ok.1 104 10
    refine z_getI (pc := 137) (k := 10) (v := H.1 104 10) dX4_isFact_137 lf_X4_61 sh_104 rfl rfl ?_
    refine z_if_gt (pc := 140) (tgt := 150) dX4_isFact_140 (by decide) (by omega) (by omega) (fun hb16 => ?_) (fun hb16 => ?_)
    · skip
      refine z_iconst (pc := 150) dX4_isFact_150 ?_
      refine x_goto (pc := 151) (tgt := 155) dX4_isFact_151 (by decide) ?_
      refine z_ireturn (pc := 155) dX4_isFact_155 rfl (Or.inr ⟨rfl, by omega⟩) ok (by decide) (by decide) ?_
      refine ⟨?_, rfl⟩
      rw [show w = 15 by omega]
      show (_ : Int) = if decide (0 < N 32 ∨ N 33 = 1) = true then 1 else 0
      first | exact (if_pos (decide_eq_true (by first | assumption | omega))).symm | exact (if_neg (fun h => absurd (of_decide_eq_true h) (by first | assumption | omega))).symm
    · skip
      refine x_aload_n (pc := 143) dX4_isFact_143 (List.Mem.head _) ?_
      have rd17 := ok.1 104 11
      refine z_getI (pc := 144) (k := 11) (v := H.1 104 11) dX4_isFact_144 lf_X4_64 sh_104 rfl rfl ?_
      refine z_if_eq (pc := 147) (tgt := 154) dX4_isFact_147 (by decide) (by omega) (by omega) (fun hb18 => ?_) (fun hb18 => ?_)
      · skip
        refine z_iconst (pc := 154) dX4_isFact_154 ?_
        refine z_ireturn (pc := 155) dX4_isFact_155 rfl (Or.inr ⟨rfl, by omega⟩) ok (by decide) (by decide) ?_
        refine ⟨?_, rfl⟩
        rw [show w = 15 by omega]
        show (_ : Int) = if decide (0 < N 32 ∨ N 33 = 1) = true then 1 else 0
        first | exact (if_pos (decide_eq_true (by first | assumption | omega))).symm | exact (if_neg (fun h => absurd (of_decide_eq_true h) (by first | assumption | omega))).symm
      · skip
        refine z_iconst (pc := 150) dX4_isFact_150 ?_
        refine x_goto (pc := 151) (tgt := 155) dX4_isFact_151 (by decide) ?_
        refine z_ireturn (pc := 155) dX4_isFact_155 rfl (Or.inr ⟨rfl, by omega⟩) ok (by decide) (by decide) ?_
        refine ⟨?_, rfl⟩
        rw [show w = 15 by omega]
        show (_ : Int) = if decide (0 < N 32 ∨ N 33 = 1) = true then 1 else 0
        first | exact (if_pos (decide_eq_true (by first | assumption | omega))).symm | exact (if_neg (fun h => absurd (of_decide_eq_true h) (by first | assumption | omega))).symm
  refine z_tabOut (pc := 1) (tgt := 156) dX4_isFact_1 (by omega) (by omega) (by omega) (by decide) ?_
  refine x_aload_n (pc := 156) dX4_isFact_156 (List.Mem.head _) ?_
  refine z_getY (pc := 157) (k := 1) (r := s) dX4_isFact_157 lf_X4_42 sh_104 rfl (by rw [hsc]) (by omega) ?_
  refine x_iload_n (pc := 160) dX4_isFact_160 (List.Mem.tail _ (List.Mem.head _)) ?_
  refine z_callVbp (pc := 161) (i := mX6_hasTrait) (S := []) [.int (zN ((w : Int)))] dX4_isFact_161 ml_X4_50 ok_X6_hasTrait rfl (sh_Sc0 hs) rfl (Or.inr rfl) (Nat.le_of_ble_eq_true rfl) (c_X6_hasTrait (d := d) (s := s) (q := q) (k := w) (hk := (by omega)) (ok := ok) (hs := hs) (ws := (by first | assumption | omega)) (rs := (by first | assumption | omega))) (fun hc21 ok20 => ?_) (fun hc21 ok20 => ?_)
  · skip
    refine z_ireturn (pc := 164) dX4_isFact_164 rfl (Or.inr ⟨rfl, by omega⟩) ok20 (by decide) (by decide) ?_
    refine ⟨?_, rfl⟩
    unfold wfct
    rw [if_neg (show ¬ w = 8 by omega), if_neg (show ¬ w = 9 by omega), if_neg (show ¬ w = 10 by omega), if_neg (show ¬ w = 11 by omega), if_neg (show ¬ w = 12 by omega), if_neg (show ¬ w = 13 by omega), if_neg (show ¬ w = 14 by omega), if_neg (show ¬ w = 15 by omega)]
    first | exact (if_pos (decide_eq_true (by assumption))).symm | exact (if_neg (fun h => absurd (of_decide_eq_true h) (by assumption))).symm
  · skip
    refine z_ireturn (pc := 164) dX4_isFact_164 rfl (Or.inr ⟨rfl, by omega⟩) ok20 (by decide) (by decide) ?_
    refine ⟨?_, rfl⟩
    unfold wfct
    rw [if_neg (show ¬ w = 8 by omega), if_neg (show ¬ w = 9 by omega), if_neg (show ¬ w = 10 by omega), if_neg (show ¬ w = 11 by omega), if_neg (show ¬ w = 12 by omega), if_neg (show ¬ w = 13 by omega), if_neg (show ¬ w = 14 by omega), if_neg (show ¬ w = 15 by omega)]
    first | exact (if_pos (decide_eq_true (by assumption))).symm | exact (if_neg (fun h => absurd (of_decide_eq_true h) (by assumption))).symm
