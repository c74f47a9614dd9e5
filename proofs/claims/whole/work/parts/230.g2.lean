/-! GROUP G2: what the class's drivers ask. q: the scene and the law as the reference has them, N: the tick's state as the reference has it. -/
def RepRd (H : ZH) (q N : Nat → Int) : Prop := (∀ c : Nat, (c : Int) < q 1 → H.1 105 c = N c ∧ H.1 106 c = N (8 + c) ∧ H.1 107 c = N (16 + c) ∧ H.1 108 c = N (24 + c)) ∧ H.1 104 10 = N 32 ∧ H.1 104 11 = N 33 ∧ H.1 104 12 = N 34 ∧ H.1 104 13 = N 35 ∧ H.1 104 14 = N 36 ∧ H.1 104 15 = N 37 ∧ H.1 104 16 = N 38 ∧ H.1 104 17 = N 39

theorem c_X6_hasTrait {d : Nat} {H : ZH} (ok : okZ H) {s : Nat} {q : Nat → Int} {k : Nat} (hk : k < 8) (hs : isSc s) (ws : WFS q) (rs : RepSc H s q) : EvC zX (d + 1) mX6_hasTrait [.ref s, .int (zN ((k : Int)))] (eh H) (zPi (fun (rz : Int) (Hz : ZH) => rz = (if q 34 / 2 ^ k % 2 = 1 then 1 else 0) ∧ Hz = H)) := by
  show _ ∧ Ev zX mX6_hasTrait (EvC zX d) (zPi (fun (rz : Int) (Hz : ZH) => rz = (if q 34 / 2 ^ k % 2 = 1 then 1 else 0) ∧ Hz = H)) 0 [(0, .ref s), (1, .int (zN ((k : Int))))] [] (eh H)
  refine ⟨Nat.le_of_ble_eq_true rfl, ?_⟩
  have hsr := isSc_r hs
  have wsx := ws
  obtain ⟨ws0, ws1, wsC, ws34, ws35, ws36, ws37, ws38, ws39⟩ := wsx
  have rsx := rs
  obtain ⟨rs0, rs1, rsC, rs34, rs35, rs36, rs37, rs38, rs39⟩ := rsx
  have pb := pow256 (t := q 34) (k := k) (by omega) (by omega)
  refine x_aload_n (pc := 0) dX6_hasTrait_0 (List.Mem.head _) ?_
  refine z_getI (pc := 1) (k := 6) (v := (q 34)) dX6_hasTrait_1 lf_X6_40 (sh_Sc0 hs) rfl (by rw [rs34]) ?_
  refine x_iload_n (pc := 4) dX6_hasTrait_4 (List.Mem.tail _ (List.Mem.head _)) ?_
  refine z_ishr (pc := 5) (k := k) dX6_hasTrait_5 rfl (by omega) (by omega) (by omega) ?_
  refine z_iconst (pc := 6) dX6_hasTrait_6 ?_
  refine z_iand1 (pc := 7) dX6_hasTrait_7 ?_
  refine z_if_eq (pc := 8) (tgt := 15) dX6_hasTrait_8 (by decide) (by omega) (by omega) (fun hb1 => ?_) (fun hb1 => ?_)
  · skip
    refine z_iconst (pc := 15) dX6_hasTrait_15 ?_
    refine z_ireturn (pc := 16) dX6_hasTrait_16 rfl (Or.inr ⟨rfl, by omega⟩) ok (by decide) (by decide) ?_
    exact ⟨by first | rfl | omega | simp_all, rfl⟩
  · skip
    refine z_iconst (pc := 11) dX6_hasTrait_11 ?_
    refine x_goto (pc := 12) (tgt := 16) dX6_hasTrait_12 (by decide) ?_
    refine z_ireturn (pc := 16) dX6_hasTrait_16 rfl (Or.inr ⟨rfl, by omega⟩) ok (by decide) (by decide) ?_
    exact ⟨by first | rfl | omega | simp_all, rfl⟩

theorem c_X4_hasRoom {d : Nat} {H : ZH} (ok : okZ H) {s : Nat} {q N : Nat → Int} {c : Nat} (hc : (c : Int) < q 1) (hs : isSc s) (hsc : H.1 104 1 = (s : Int)) (ws : WFS q) (rs : RepSc H s q) (wn : WFN q N) (rd : RepRd H q N) : EvC zX (d + 1) mX4_hasRoom [.ref 104, .int (zN ((c : Int)))] (eh H) (zPi (fun (rz : Int) (Hz : ZH) => rz = (if N (8 + c) * (N (8 + c) - 1) / 2 ≤ N c - q 35 then 1 else 0) ∧ Hz = H)) := by
  show _ ∧ Ev zX mX4_hasRoom (EvC zX d) (zPi (fun (rz : Int) (Hz : ZH) => rz = (if N (8 + c) * (N (8 + c) - 1) / 2 ≤ N c - q 35 then 1 else 0) ∧ Hz = H)) 0 [(0, .ref 104), (1, .int (zN ((c : Int))))] [] (eh H)
  refine ⟨Nat.le_of_ble_eq_true rfl, ?_⟩
  have hsr := isSc_r hs
  have wsx := ws
  obtain ⟨ws0, ws1, wsC, ws34, ws35, ws36, ws37, ws38, ws39⟩ := wsx
  have rsx := rs
  obtain ⟨rs0, rs1, rsC, rs34, rs35, rs36, rs37, rs38, rs39⟩ := rsx
  have wnx := wn
  obtain ⟨wnC, wn32, wn33, wn34, wn35, wn36, wn37, wn38, wn39⟩ := wnx
  have rdx := rd
  obtain ⟨rdC, rd10, rd11, rd12, rd13, rd14, rd15, rd16, rd17⟩ := rdx
  have wk_c := wsC c (by omega)
  have vk_c := wnC c (by omega)
  have sk_c := rsC c (by omega)
  have dk_c := rdC c (by omega)
  have m1 : 0 ≤ N (8 + c) * (N (8 + c) - 1) ∧ N (8 + c) * (N (8 + c) - 1) ≤ 81 := by
    rcases (show N (8 + c) = 0 ∨ 1 ≤ N (8 + c) by omega) with q | q
    · rw [q]; decide
    · exact nn2 (A := 9) (B := 9) (by omega) (by omega) (by omega) (by omega)
  refine x_aload_n (pc := 0) dX4_hasRoom_0 (List.Mem.head _) ?_
  refine z_getR (pc := 1) (k := 5) (r := 106) dX4_hasRoom_1 lf_X4_26 sh_104 rfl rf_104_5 ?_
  refine x_iload_n (pc := 4) dX4_hasRoom_4 (List.Mem.tail _ (List.Mem.head _)) ?_
  refine z_iald (pc := 5) (j := c) (v := (N (8 + c))) dX4_hasRoom_5 sh_106 rfl (by omega) (by decide) (by rw [dk_c.2.1]) ?_
  refine x_aload_n (pc := 6) dX4_hasRoom_6 (List.Mem.head _) ?_
  refine z_getR (pc := 7) (k := 5) (r := 106) dX4_hasRoom_7 lf_X4_26 sh_104 rfl rf_104_5 ?_
  refine x_iload_n (pc := 10) dX4_hasRoom_10 (List.Mem.tail _ (List.Mem.head _)) ?_
  refine z_iald (pc := 11) (j := c) (v := (N (8 + c))) dX4_hasRoom_11 sh_106 rfl (by omega) (by decide) (by rw [dk_c.2.1]) ?_
  refine z_iconst (pc := 12) dX4_hasRoom_12 ?_
  refine z_isub (pc := 13) dX4_hasRoom_13 ?_
  refine z_imul (pc := 14) dX4_hasRoom_14 ?_
  refine z_iconst (pc := 15) dX4_hasRoom_15 ?_
  refine z_idivP (pc := 16) dX4_hasRoom_16 (by omega) (by omega) (by omega) (by omega) ?_
  refine x_aload_n (pc := 17) dX4_hasRoom_17 (List.Mem.head _) ?_
  refine z_getR (pc := 18) (k := 4) (r := 105) dX4_hasRoom_18 lf_X4_22 sh_104 rfl rf_104_4 ?_
  refine x_iload_n (pc := 21) dX4_hasRoom_21 (List.Mem.tail _ (List.Mem.head _)) ?_
  refine z_iald (pc := 22) (j := c) (v := (N c)) dX4_hasRoom_22 sh_105 rfl (by omega) (by decide) (by rw [dk_c.1]) ?_
  refine x_aload_n (pc := 23) dX4_hasRoom_23 (List.Mem.head _) ?_
  refine z_getY (pc := 24) (k := 1) (r := s) dX4_hasRoom_24 lf_X4_42 sh_104 rfl (by rw [hsc]) (by omega) ?_
  have rd1 := ok.1 s 7
  refine z_getI (pc := 27) (k := 7) (v := H.1 s 7) dX4_hasRoom_27 lf_X4_118 (sh_Sc0 hs) rfl rfl ?_
  refine z_isub (pc := 30) dX4_hasRoom_30 ?_
  refine z_icmp_gt (pc := 31) (tgt := 38) dX4_hasRoom_31 (by decide) (by omega) (by omega) (by omega) (by omega) (fun hb2 => ?_) (fun hb2 => ?_)
  · skip
    refine z_iconst (pc := 38) dX4_hasRoom_38 ?_
    refine z_ireturn (pc := 39) dX4_hasRoom_39 rfl (Or.inr ⟨rfl, by omega⟩) ok (by decide) (by decide) ?_
    exact ⟨by first | rfl | omega | simp_all, rfl⟩
  · skip
    refine z_iconst (pc := 34) dX4_hasRoom_34 ?_
    refine x_goto (pc := 35) (tgt := 39) dX4_hasRoom_35 (by decide) ?_
    refine z_ireturn (pc := 39) dX4_hasRoom_39 rfl (Or.inr ⟨rfl, by omega⟩) ok (by decide) (by decide) ?_
    exact ⟨by first | rfl | omega | simp_all, rfl⟩

theorem c_X4_isStoppingAhead {d : Nat} {H : ZH} (ok : okZ H) {s : Nat} {q N : Nat → Int} {c : Nat} (hc : (c : Int) < q 1) (hs : isSc s) (hsc : H.1 104 1 = (s : Int)) (ws : WFS q) (rs : RepSc H s q) (wn : WFN q N) (rd : RepRd H q N) : EvC zX (d + 1) mX4_isStoppingAhead [.ref 104, .int (zN ((c : Int)))] (eh H) (zPi (fun (rz : Int) (Hz : ZH) => rz = (if tsm q N (q (2 + c)) (q (2 + c)) (-1) 2 (N c) (q 1).toNat = true then 1 else 0) ∧ Hz = H)) := by
  show _ ∧ Ev zX mX4_isStoppingAhead (EvC zX d) (zPi (fun (rz : Int) (Hz : ZH) => rz = (if tsm q N (q (2 + c)) (q (2 + c)) (-1) 2 (N c) (q 1).toNat = true then 1 else 0) ∧ Hz = H)) 0 [(0, .ref 104), (1, .int (zN ((c : Int))))] [] (eh H)
  refine ⟨Nat.le_of_ble_eq_true rfl, ?_⟩
  have hsr := isSc_r hs
  have wsx := ws
  obtain ⟨ws0, ws1, wsC, ws34, ws35, ws36, ws37, ws38, ws39⟩ := wsx
  have rsx := rs
  obtain ⟨rs0, rs1, rsC, rs34, rs35, rs36, rs37, rs38, rs39⟩ := rsx
  have wnx := wn
  obtain ⟨wnC, wn32, wn33, wn34, wn35, wn36, wn37, wn38, wn39⟩ := wnx
  have rdx := rd
  obtain ⟨rdC, rd10, rd11, rd12, rd13, rd14, rd15, rd16, rd17⟩ := rdx
  have wk_c := wsC c (by omega)
  have vk_c := wnC c (by omega)
  have sk_c := rsC c (by omega)
  have dk_c := rdC c (by omega)
  refine z_iconst (pc := 0) dX4_isStoppingAhead_0 ?_
  refine x_istore_n (pc := 1) dX4_isStoppingAhead_1 (Nat.le_of_ble_eq_true rfl) ?_
  show Ev _ _ _ _ _ [(2, .int (zN (0))), (0, .ref 104), (1, .int (zN ((c : Int))))] _ _
  have lp2 : ∀ (nF : Nat) (k : Nat), ((k : Int) ≤ q 1) → (∀ j, j < k → ¬ (((q (2 + c) ≤ q (2 + j) ∧ q (2 + j) ≤ q (2 + c)) ∧ q (2 + j) ≠ -1) ∧ N (16 + j) = 2 ∧ 0 < N j ∧ N j < N c)) → (q 1).toNat - k < nF → Ev zX mX4_isStoppingAhead (EvC zX d) (zPi (fun (rz : Int) (Hz : ZH) => rz = (if tsm q N (q (2 + c)) (q (2 + c)) (-1) 2 (N c) (q 1).toNat = true then 1 else 0) ∧ Hz = H)) 2 [(0, .ref 104), (1, .int (zN ((c : Int)))), (2, .int (zN ((k : Int))))] [] (eh H) := by
    intro nF
    induction nF with
    | zero => intro k hk ha hm; exact absurd hm (Nat.not_lt_zero _)
    | succ nF ih2 =>
      intro k hk ha hm
      refine x_iload_n (pc := 2) dX4_isStoppingAhead_2 (List.Mem.tail _ (List.Mem.tail _ (List.Mem.head _))) ?_
      refine x_aload_n (pc := 3) dX4_isStoppingAhead_3 (List.Mem.head _) ?_
      refine z_getY (pc := 4) (k := 1) (r := s) dX4_isStoppingAhead_4 lf_X4_42 sh_104 rfl (by rw [hsc]) (by omega) ?_
      have rd1 := ok.1 s 1
      refine z_getI (pc := 7) (k := 1) (v := H.1 s 1) dX4_isStoppingAhead_7 lf_X4_56 (sh_Sc0 hs) rfl rfl ?_
      refine z_icmp_ge (pc := 10) (tgt := 76) dX4_isStoppingAhead_10 (by decide) (by omega) (by omega) (by omega) (by omega) (fun hb2 => ?_) (fun hb2 => ?_)
      · skip
        refine z_iconst (pc := 76) dX4_isStoppingAhead_76 ?_
        refine z_ireturn (pc := 77) dX4_isStoppingAhead_77 rfl (Or.inr ⟨rfl, by omega⟩) ok (by decide) (by decide) ?_
        exact ⟨by rw [tsm_f (fun j hj => ha j (by omega))]; rfl, rfl⟩
      · skip
        have wk_k := wsC k (by omega)
        have vk_k := wnC k (by omega)
        have sk_k := rsC k (by omega)
        have dk_k := rdC k (by omega)
        refine x_aload_n (pc := 13) dX4_isStoppingAhead_13 (List.Mem.head _) ?_
        refine z_getR (pc := 14) (k := 6) (r := 107) dX4_isStoppingAhead_14 lf_X4_29 sh_104 rfl rf_104_6 ?_
        refine x_iload_n (pc := 17) dX4_isStoppingAhead_17 (List.Mem.tail _ (List.Mem.tail _ (List.Mem.head _))) ?_
        have rd3 := ok.1 107 k
        refine z_iald (pc := 18) (j := k) (v := H.1 107 k) dX4_isStoppingAhead_18 sh_107 rfl (by omega) (by decide) rfl ?_
        refine z_iconst (pc := 19) dX4_isStoppingAhead_19 ?_
        refine z_icmp_ne (pc := 20) (tgt := 70) dX4_isStoppingAhead_20 (by decide) (by omega) (by omega) (by decide) (by decide) (fun hb4 => ?_) (fun hb4 => ?_)
        · skip
          refine z_iinc (pc := 70) dX4_isStoppingAhead_70 (List.Mem.tail _ (List.Mem.tail _ (List.Mem.head _))) (Nat.le_of_ble_eq_true rfl) ?_
          show Ev _ _ _ _ _ [(2, .int (zN ((k : Int) + 1))), (0, .ref 104), (1, .int (zN ((c : Int))))] _ _
          refine x_goto (pc := 73) (tgt := 2) dX4_isStoppingAhead_73 (by decide) ?_
          refine x_weaken (L1 := [(0, .ref 104), (1, .int (zN ((c : Int)))), (2, .int (zN ((((k + 1) : Nat) : Int))))]) (List.forall_mem_cons.mpr ⟨(List.Mem.tail _ (List.Mem.head _)), (List.forall_mem_cons.mpr ⟨(List.Mem.tail _ (List.Mem.tail _ (List.Mem.head _))), (List.forall_mem_cons.mpr ⟨(mem_ci (by omega) (List.Mem.head _)), (fun _ h => absurd h List.not_mem_nil)⟩)⟩)⟩) ?_
          exact ih2 ((k + 1)) (by first | assumption | omega) (lt_s ha (by omega)) (by omega)
        · skip
          refine x_aload_n (pc := 23) dX4_isStoppingAhead_23 (List.Mem.head _) ?_
          refine z_getY (pc := 24) (k := 1) (r := s) dX4_isStoppingAhead_24 lf_X4_42 sh_104 rfl (by rw [hsc]) (by omega) ?_
          refine z_getR (pc := 27) (k := 2) (r := (s + 1)) dX4_isStoppingAhead_27 lf_X4_143 (sh_Sc0 hs) rfl (rf_Sc_2 hs) ?_
          refine x_iload_n (pc := 30) dX4_isStoppingAhead_30 (List.Mem.tail _ (List.Mem.tail _ (List.Mem.head _))) ?_
          have rd5 := ok.1 (s + 1) k
          refine z_iald (pc := 31) (j := k) (v := H.1 (s + 1) k) dX4_isStoppingAhead_31 (sh_Sc1 hs) rfl (by omega) (by decide) rfl ?_
          refine x_aload_n (pc := 32) dX4_isStoppingAhead_32 (List.Mem.head _) ?_
          refine z_getY (pc := 33) (k := 1) (r := s) dX4_isStoppingAhead_33 lf_X4_42 sh_104 rfl (by rw [hsc]) (by omega) ?_
          refine z_getR (pc := 36) (k := 2) (r := (s + 1)) dX4_isStoppingAhead_36 lf_X4_143 (sh_Sc0 hs) rfl (rf_Sc_2 hs) ?_
          refine x_iload_n (pc := 39) dX4_isStoppingAhead_39 (List.Mem.tail _ (List.Mem.head _)) ?_
          have rd6 := ok.1 (s + 1) c
          refine z_iald (pc := 40) (j := c) (v := H.1 (s + 1) c) dX4_isStoppingAhead_40 (sh_Sc1 hs) rfl (by omega) (by decide) rfl ?_
          refine z_icmp_ne (pc := 41) (tgt := 70) dX4_isStoppingAhead_41 (by decide) (by omega) (by omega) (by omega) (by omega) (fun hb7 => ?_) (fun hb7 => ?_)
          · skip
            refine z_iinc (pc := 70) dX4_isStoppingAhead_70 (List.Mem.tail _ (List.Mem.tail _ (List.Mem.head _))) (Nat.le_of_ble_eq_true rfl) ?_
            show Ev _ _ _ _ _ [(2, .int (zN ((k : Int) + 1))), (0, .ref 104), (1, .int (zN ((c : Int))))] _ _
            refine x_goto (pc := 73) (tgt := 2) dX4_isStoppingAhead_73 (by decide) ?_
            refine x_weaken (L1 := [(0, .ref 104), (1, .int (zN ((c : Int)))), (2, .int (zN ((((k + 1) : Nat) : Int))))]) (List.forall_mem_cons.mpr ⟨(List.Mem.tail _ (List.Mem.head _)), (List.forall_mem_cons.mpr ⟨(List.Mem.tail _ (List.Mem.tail _ (List.Mem.head _))), (List.forall_mem_cons.mpr ⟨(mem_ci (by omega) (List.Mem.head _)), (fun _ h => absurd h List.not_mem_nil)⟩)⟩)⟩) ?_
            exact ih2 ((k + 1)) (by first | assumption | omega) (lt_s ha (by omega)) (by omega)
          · skip
            refine x_aload_n (pc := 44) dX4_isStoppingAhead_44 (List.Mem.head _) ?_
            refine z_getR (pc := 45) (k := 4) (r := 105) dX4_isStoppingAhead_45 lf_X4_22 sh_104 rfl rf_104_4 ?_
            refine x_iload_n (pc := 48) dX4_isStoppingAhead_48 (List.Mem.tail _ (List.Mem.tail _ (List.Mem.head _))) ?_
            have rd8 := ok.1 105 k
            refine z_iald (pc := 49) (j := k) (v := H.1 105 k) dX4_isStoppingAhead_49 sh_105 rfl (by omega) (by decide) rfl ?_
            refine z_if_le (pc := 50) (tgt := 70) dX4_isStoppingAhead_50 (by decide) (by omega) (by omega) (fun hb9 => ?_) (fun hb9 => ?_)
            · skip
              refine z_iinc (pc := 70) dX4_isStoppingAhead_70 (List.Mem.tail _ (List.Mem.tail _ (List.Mem.head _))) (Nat.le_of_ble_eq_true rfl) ?_
              show Ev _ _ _ _ _ [(2, .int (zN ((k : Int) + 1))), (0, .ref 104), (1, .int (zN ((c : Int))))] _ _
              refine x_goto (pc := 73) (tgt := 2) dX4_isStoppingAhead_73 (by decide) ?_
              refine x_weaken (L1 := [(0, .ref 104), (1, .int (zN ((c : Int)))), (2, .int (zN ((((k + 1) : Nat) : Int))))]) (List.forall_mem_cons.mpr ⟨(List.Mem.tail _ (List.Mem.head _)), (List.forall_mem_cons.mpr ⟨(List.Mem.tail _ (List.Mem.tail _ (List.Mem.head _))), (List.forall_mem_cons.mpr ⟨(mem_ci (by omega) (List.Mem.head _)), (fun _ h => absurd h List.not_mem_nil)⟩)⟩)⟩) ?_
              exact ih2 ((k + 1)) (by first | assumption | omega) (lt_s ha (by omega)) (by omega)
            · skip
              refine x_aload_n (pc := 53) dX4_isStoppingAhead_53 (List.Mem.head _) ?_
              refine z_getR (pc := 54) (k := 4) (r := 105) dX4_isStoppingAhead_54 lf_X4_22 sh_104 rfl rf_104_4 ?_
              refine x_iload_n (pc := 57) dX4_isStoppingAhead_57 (List.Mem.tail _ (List.Mem.tail _ (List.Mem.head _))) ?_
              have rd10 := ok.1 105 k
              refine z_iald (pc := 58) (j := k) (v := H.1 105 k) dX4_isStoppingAhead_58 sh_105 rfl (by omega) (by decide) rfl ?_
              refine x_aload_n (pc := 59) dX4_isStoppingAhead_59 (List.Mem.head _) ?_
              refine z_getR (pc := 60) (k := 4) (r := 105) dX4_isStoppingAhead_60 lf_X4_22 sh_104 rfl rf_104_4 ?_
              refine x_iload_n (pc := 63) dX4_isStoppingAhead_63 (List.Mem.tail _ (List.Mem.head _)) ?_
              have rd11 := ok.1 105 c
              refine z_iald (pc := 64) (j := c) (v := H.1 105 c) dX4_isStoppingAhead_64 sh_105 rfl (by omega) (by decide) rfl ?_
              refine z_icmp_ge (pc := 65) (tgt := 70) dX4_isStoppingAhead_65 (by decide) (by omega) (by omega) (by omega) (by omega) (fun hb12 => ?_) (fun hb12 => ?_)
              · skip
                refine z_iinc (pc := 70) dX4_isStoppingAhead_70 (List.Mem.tail _ (List.Mem.tail _ (List.Mem.head _))) (Nat.le_of_ble_eq_true rfl) ?_
                show Ev _ _ _ _ _ [(2, .int (zN ((k : Int) + 1))), (0, .ref 104), (1, .int (zN ((c : Int))))] _ _
                refine x_goto (pc := 73) (tgt := 2) dX4_isStoppingAhead_73 (by decide) ?_
                refine x_weaken (L1 := [(0, .ref 104), (1, .int (zN ((c : Int)))), (2, .int (zN ((((k + 1) : Nat) : Int))))]) (List.forall_mem_cons.mpr ⟨(List.Mem.tail _ (List.Mem.head _)), (List.forall_mem_cons.mpr ⟨(List.Mem.tail _ (List.Mem.tail _ (List.Mem.head _))), (List.forall_mem_cons.mpr ⟨(mem_ci (by omega) (List.Mem.head _)), (fun _ h => absurd h List.not_mem_nil)⟩)⟩)⟩) ?_
                exact ih2 ((k + 1)) (by first | assumption | omega) (lt_s ha (by omega)) (by omega)
              · skip
                refine z_iconst (pc := 68) dX4_isStoppingAhead_68 ?_
                refine z_ireturn (pc := 69) dX4_isStoppingAhead_69 rfl (Or.inr ⟨rfl, by omega⟩) ok (by decide) (by decide) ?_
                exact ⟨by rw [tsm_t (d := k) (by omega) (by omega)]; rfl, rfl⟩
  refine x_weaken (L1 := [(0, .ref 104), (1, .int (zN ((c : Int)))), (2, .int (zN (((0 : Nat) : Int))))]) (List.forall_mem_cons.mpr ⟨(List.Mem.tail _ (List.Mem.head _)), (List.forall_mem_cons.mpr ⟨(List.Mem.tail _ (List.Mem.tail _ (List.Mem.head _))), (List.forall_mem_cons.mpr ⟨(mem_ci (by omega) (List.Mem.head _)), (fun _ h => absurd h List.not_mem_nil)⟩)⟩)⟩) ?_
  exact lp2 ((q 1).toNat - 0 + 1) (0) (by first | assumption | omega) (fun j h => absurd h (Nat.not_lt_zero _)) (Nat.lt_succ_self _)

theorem c_X4_isStoppingBeside {d : Nat} {H : ZH} (ok : okZ H) {s : Nat} {q N : Nat → Int} {c : Nat} (hc : (c : Int) < q 1) (hs : isSc s) (hsc : H.1 104 1 = (s : Int)) (ws : WFS q) (rs : RepSc H s q) (wn : WFN q N) (rd : RepRd H q N) : EvC zX (d + 1) mX4_isStoppingBeside [.ref 104, .int (zN ((c : Int)))] (eh H) (zPi (fun (rz : Int) (Hz : ZH) => rz = (if tsm q N (q (2 + c) - 1) (q (2 + c) + 1) (q (2 + c)) 2 1000 (q 1).toNat = true then 1 else 0) ∧ Hz = H)) := by
  show _ ∧ Ev zX mX4_isStoppingBeside (EvC zX d) (zPi (fun (rz : Int) (Hz : ZH) => rz = (if tsm q N (q (2 + c) - 1) (q (2 + c) + 1) (q (2 + c)) 2 1000 (q 1).toNat = true then 1 else 0) ∧ Hz = H)) 0 [(0, .ref 104), (1, .int (zN ((c : Int))))] [] (eh H)
  refine ⟨Nat.le_of_ble_eq_true rfl, ?_⟩
  have hsr := isSc_r hs
  have wsx := ws
  obtain ⟨ws0, ws1, wsC, ws34, ws35, ws36, ws37, ws38, ws39⟩ := wsx
  have rsx := rs
  obtain ⟨rs0, rs1, rsC, rs34, rs35, rs36, rs37, rs38, rs39⟩ := rsx
  have wnx := wn
  obtain ⟨wnC, wn32, wn33, wn34, wn35, wn36, wn37, wn38, wn39⟩ := wnx
  have rdx := rd
  obtain ⟨rdC, rd10, rd11, rd12, rd13, rd14, rd15, rd16, rd17⟩ := rdx
  have wk_c := wsC c (by omega)
  have vk_c := wnC c (by omega)
  have sk_c := rsC c (by omega)
  have dk_c := rdC c (by omega)
  refine z_iconst (pc := 0) dX4_isStoppingBeside_0 ?_
  refine x_istore_n (pc := 1) dX4_isStoppingBeside_1 (Nat.le_of_ble_eq_true rfl) ?_
  show Ev _ _ _ _ _ [(2, .int (zN (0))), (0, .ref 104), (1, .int (zN ((c : Int))))] _ _
  have lp2 : ∀ (nF : Nat) (k : Nat), ((k : Int) ≤ q 1) → (∀ j, j < k → ¬ (((q (2 + c) - 1 ≤ q (2 + j) ∧ q (2 + j) ≤ q (2 + c) + 1) ∧ q (2 + j) ≠ q (2 + c)) ∧ N (16 + j) = 2 ∧ 0 < N j ∧ N j < 1000)) → (q 1).toNat - k < nF → Ev zX mX4_isStoppingBeside (EvC zX d) (zPi (fun (rz : Int) (Hz : ZH) => rz = (if tsm q N (q (2 + c) - 1) (q (2 + c) + 1) (q (2 + c)) 2 1000 (q 1).toNat = true then 1 else 0) ∧ Hz = H)) 2 [(0, .ref 104), (1, .int (zN ((c : Int)))), (2, .int (zN ((k : Int))))] [] (eh H) := by
    intro nF
    induction nF with
    | zero => intro k hk ha hm; exact absurd hm (Nat.not_lt_zero _)
    | succ nF ih2 =>
      intro k hk ha hm
      refine x_iload_n (pc := 2) dX4_isStoppingBeside_2 (List.Mem.tail _ (List.Mem.tail _ (List.Mem.head _))) ?_
      refine x_aload_n (pc := 3) dX4_isStoppingBeside_3 (List.Mem.head _) ?_
      refine z_getY (pc := 4) (k := 1) (r := s) dX4_isStoppingBeside_4 lf_X4_42 sh_104 rfl (by rw [hsc]) (by omega) ?_
      have rd1 := ok.1 s 1
      refine z_getI (pc := 7) (k := 1) (v := H.1 s 1) dX4_isStoppingBeside_7 lf_X4_56 (sh_Sc0 hs) rfl rfl ?_
      refine z_icmp_ge (pc := 10) (tgt := 70) dX4_isStoppingBeside_10 (by decide) (by omega) (by omega) (by omega) (by omega) (fun hb2 => ?_) (fun hb2 => ?_)
      · skip
        refine z_iconst (pc := 70) dX4_isStoppingBeside_70 ?_
        refine z_ireturn (pc := 71) dX4_isStoppingBeside_71 rfl (Or.inr ⟨rfl, by omega⟩) ok (by decide) (by decide) ?_
        exact ⟨by rw [tsm_f (fun j hj => ha j (by omega))]; rfl, rfl⟩
      · skip
        have wk_k := wsC k (by omega)
        have vk_k := wnC k (by omega)
        have sk_k := rsC k (by omega)
        have dk_k := rdC k (by omega)
        refine x_aload_n (pc := 13) dX4_isStoppingBeside_13 (List.Mem.head _) ?_
        refine z_getY (pc := 14) (k := 1) (r := s) dX4_isStoppingBeside_14 lf_X4_42 sh_104 rfl (by rw [hsc]) (by omega) ?_
        refine z_getR (pc := 17) (k := 2) (r := (s + 1)) dX4_isStoppingBeside_17 lf_X4_143 (sh_Sc0 hs) rfl (rf_Sc_2 hs) ?_
        refine x_iload_n (pc := 20) dX4_isStoppingBeside_20 (List.Mem.tail _ (List.Mem.tail _ (List.Mem.head _))) ?_
        have rd3 := ok.1 (s + 1) k
        refine z_iald (pc := 21) (j := k) (v := H.1 (s + 1) k) dX4_isStoppingBeside_21 (sh_Sc1 hs) rfl (by omega) (by decide) rfl ?_
        refine x_aload_n (pc := 22) dX4_isStoppingBeside_22 (List.Mem.head _) ?_
        refine z_getY (pc := 23) (k := 1) (r := s) dX4_isStoppingBeside_23 lf_X4_42 sh_104 rfl (by rw [hsc]) (by omega) ?_
        refine z_getR (pc := 26) (k := 2) (r := (s + 1)) dX4_isStoppingBeside_26 lf_X4_143 (sh_Sc0 hs) rfl (rf_Sc_2 hs) ?_
        refine x_iload_n (pc := 29) dX4_isStoppingBeside_29 (List.Mem.tail _ (List.Mem.head _)) ?_
        have rd4 := ok.1 (s + 1) c
        refine z_iald (pc := 30) (j := c) (v := H.1 (s + 1) c) dX4_isStoppingBeside_30 (sh_Sc1 hs) rfl (by omega) (by decide) rfl ?_
        refine z_isub (pc := 31) dX4_isStoppingBeside_31 ?_
        refine x_istore_n (pc := 32) dX4_isStoppingBeside_32 (Nat.le_of_ble_eq_true rfl) ?_
        show Ev _ _ _ _ _ [(3, .int (zN (((H.1 (s + 1) k) - (H.1 (s + 1) c))))), (0, .ref 104), (1, .int (zN ((c : Int)))), (2, .int (zN ((k : Int))))] _ _
        refine x_aload_n (pc := 33) dX4_isStoppingBeside_33 (List.Mem.tail _ (List.Mem.head _)) ?_
        refine z_getR (pc := 34) (k := 6) (r := 107) dX4_isStoppingBeside_34 lf_X4_29 sh_104 rfl rf_104_6 ?_
        refine x_iload_n (pc := 37) dX4_isStoppingBeside_37 (List.Mem.tail _ (List.Mem.tail _ (List.Mem.tail _ (List.Mem.head _)))) ?_
        have rd5 := ok.1 107 k
        refine z_iald (pc := 38) (j := k) (v := H.1 107 k) dX4_isStoppingBeside_38 sh_107 rfl (by omega) (by decide) rfl ?_
        refine z_iconst (pc := 39) dX4_isStoppingBeside_39 ?_
        refine z_icmp_ne (pc := 40) (tgt := 64) dX4_isStoppingBeside_40 (by decide) (by omega) (by omega) (by decide) (by decide) (fun hb6 => ?_) (fun hb6 => ?_)
        · skip
          refine z_iinc (pc := 64) dX4_isStoppingBeside_64 (List.Mem.tail _ (List.Mem.tail _ (List.Mem.tail _ (List.Mem.head _)))) (Nat.le_of_ble_eq_true rfl) ?_
          show Ev _ _ _ _ _ [(2, .int (zN ((k : Int) + 1))), (3, .int (zN (((H.1 (s + 1) k) - (H.1 (s + 1) c))))), (0, .ref 104), (1, .int (zN ((c : Int))))] _ _
          refine x_goto (pc := 67) (tgt := 2) dX4_isStoppingBeside_67 (by decide) ?_
          refine x_weaken (L1 := [(0, .ref 104), (1, .int (zN ((c : Int)))), (2, .int (zN ((((k + 1) : Nat) : Int))))]) (List.forall_mem_cons.mpr ⟨(List.Mem.tail _ (List.Mem.tail _ (List.Mem.head _))), (List.forall_mem_cons.mpr ⟨(List.Mem.tail _ (List.Mem.tail _ (List.Mem.tail _ (List.Mem.head _)))), (List.forall_mem_cons.mpr ⟨(mem_ci (by omega) (List.Mem.head _)), (fun _ h => absurd h List.not_mem_nil)⟩)⟩)⟩) ?_
          exact ih2 ((k + 1)) (by first | assumption | omega) (lt_s ha (by omega)) (by omega)
        · skip
          refine x_iload_n (pc := 43) dX4_isStoppingBeside_43 (List.Mem.head _) ?_
          refine z_iconst (pc := 44) dX4_isStoppingBeside_44 ?_
          refine z_icmp_eq (pc := 45) (tgt := 53) dX4_isStoppingBeside_45 (by decide) (by omega) (by omega) (by decide) (by decide) (fun hb7 => ?_) (fun hb7 => ?_)
          · skip
            refine x_aload_n (pc := 53) dX4_isStoppingBeside_53 (List.Mem.tail _ (List.Mem.head _)) ?_
            refine z_getR (pc := 54) (k := 4) (r := 105) dX4_isStoppingBeside_54 lf_X4_22 sh_104 rfl rf_104_4 ?_
            refine x_iload_n (pc := 57) dX4_isStoppingBeside_57 (List.Mem.tail _ (List.Mem.tail _ (List.Mem.tail _ (List.Mem.head _)))) ?_
            have rd8 := ok.1 105 k
            refine z_iald (pc := 58) (j := k) (v := H.1 105 k) dX4_isStoppingBeside_58 sh_105 rfl (by omega) (by decide) rfl ?_
            refine z_if_le (pc := 59) (tgt := 64) dX4_isStoppingBeside_59 (by decide) (by omega) (by omega) (fun hb9 => ?_) (fun hb9 => ?_)
            · skip
              refine z_iinc (pc := 64) dX4_isStoppingBeside_64 (List.Mem.tail _ (List.Mem.tail _ (List.Mem.tail _ (List.Mem.head _)))) (Nat.le_of_ble_eq_true rfl) ?_
              show Ev _ _ _ _ _ [(2, .int (zN ((k : Int) + 1))), (3, .int (zN (((H.1 (s + 1) k) - (H.1 (s + 1) c))))), (0, .ref 104), (1, .int (zN ((c : Int))))] _ _
              refine x_goto (pc := 67) (tgt := 2) dX4_isStoppingBeside_67 (by decide) ?_
              refine x_weaken (L1 := [(0, .ref 104), (1, .int (zN ((c : Int)))), (2, .int (zN ((((k + 1) : Nat) : Int))))]) (List.forall_mem_cons.mpr ⟨(List.Mem.tail _ (List.Mem.tail _ (List.Mem.head _))), (List.forall_mem_cons.mpr ⟨(List.Mem.tail _ (List.Mem.tail _ (List.Mem.tail _ (List.Mem.head _)))), (List.forall_mem_cons.mpr ⟨(mem_ci (by omega) (List.Mem.head _)), (fun _ h => absurd h List.not_mem_nil)⟩)⟩)⟩) ?_
              exact ih2 ((k + 1)) (by first | assumption | omega) (lt_s ha (by omega)) (by omega)
            · skip
              refine z_iconst (pc := 62) dX4_isStoppingBeside_62 ?_
              refine z_ireturn (pc := 63) dX4_isStoppingBeside_63 rfl (Or.inr ⟨rfl, by omega⟩) ok (by decide) (by decide) ?_
              exact ⟨by rw [tsm_t (d := k) (by omega) (by omega)]; rfl, rfl⟩
          · skip
            refine x_iload_n (pc := 48) dX4_isStoppingBeside_48 (List.Mem.head _) ?_
            refine z_iconst (pc := 49) dX4_isStoppingBeside_49 ?_
            refine z_icmp_ne (pc := 50) (tgt := 64) dX4_isStoppingBeside_50 (by decide) (by omega) (by omega) (by decide) (by decide) (fun hb10 => ?_) (fun hb10 => ?_)
            · skip
              refine z_iinc (pc := 64) dX4_isStoppingBeside_64 (List.Mem.tail _ (List.Mem.tail _ (List.Mem.tail _ (List.Mem.head _)))) (Nat.le_of_ble_eq_true rfl) ?_
              show Ev _ _ _ _ _ [(2, .int (zN ((k : Int) + 1))), (3, .int (zN (((H.1 (s + 1) k) - (H.1 (s + 1) c))))), (0, .ref 104), (1, .int (zN ((c : Int))))] _ _
              refine x_goto (pc := 67) (tgt := 2) dX4_isStoppingBeside_67 (by decide) ?_
              refine x_weaken (L1 := [(0, .ref 104), (1, .int (zN ((c : Int)))), (2, .int (zN ((((k + 1) : Nat) : Int))))]) (List.forall_mem_cons.mpr ⟨(List.Mem.tail _ (List.Mem.tail _ (List.Mem.head _))), (List.forall_mem_cons.mpr ⟨(List.Mem.tail _ (List.Mem.tail _ (List.Mem.tail _ (List.Mem.head _)))), (List.forall_mem_cons.mpr ⟨(mem_ci (by omega) (List.Mem.head _)), (fun _ h => absurd h List.not_mem_nil)⟩)⟩)⟩) ?_
              exact ih2 ((k + 1)) (by first | assumption | omega) (lt_s ha (by omega)) (by omega)
            · skip
              refine x_aload_n (pc := 53) dX4_isStoppingBeside_53 (List.Mem.tail _ (List.Mem.head _)) ?_
              refine z_getR (pc := 54) (k := 4) (r := 105) dX4_isStoppingBeside_54 lf_X4_22 sh_104 rfl rf_104_4 ?_
              refine x_iload_n (pc := 57) dX4_isStoppingBeside_57 (List.Mem.tail _ (List.Mem.tail _ (List.Mem.tail _ (List.Mem.head _)))) ?_
              have rd11 := ok.1 105 k
              refine z_iald (pc := 58) (j := k) (v := H.1 105 k) dX4_isStoppingBeside_58 sh_105 rfl (by omega) (by decide) rfl ?_
              refine z_if_le (pc := 59) (tgt := 64) dX4_isStoppingBeside_59 (by decide) (by omega) (by omega) (fun hb12 => ?_) (fun hb12 => ?_)
              · skip
                refine z_iinc (pc := 64) dX4_isStoppingBeside_64 (List.Mem.tail _ (List.Mem.tail _ (List.Mem.tail _ (List.Mem.head _)))) (Nat.le_of_ble_eq_true rfl) ?_
                show Ev _ _ _ _ _ [(2, .int (zN ((k : Int) + 1))), (3, .int (zN (((H.1 (s + 1) k) - (H.1 (s + 1) c))))), (0, .ref 104), (1, .int (zN ((c : Int))))] _ _
                refine x_goto (pc := 67) (tgt := 2) dX4_isStoppingBeside_67 (by decide) ?_
                refine x_weaken (L1 := [(0, .ref 104), (1, .int (zN ((c : Int)))), (2, .int (zN ((((k + 1) : Nat) : Int))))]) (List.forall_mem_cons.mpr ⟨(List.Mem.tail _ (List.Mem.tail _ (List.Mem.head _))), (List.forall_mem_cons.mpr ⟨(List.Mem.tail _ (List.Mem.tail _ (List.Mem.tail _ (List.Mem.head _)))), (List.forall_mem_cons.mpr ⟨(mem_ci (by omega) (List.Mem.head _)), (fun _ h => absurd h List.not_mem_nil)⟩)⟩)⟩) ?_
                exact ih2 ((k + 1)) (by first | assumption | omega) (lt_s ha (by omega)) (by omega)
              · skip
                refine z_iconst (pc := 62) dX4_isStoppingBeside_62 ?_
                refine z_ireturn (pc := 63) dX4_isStoppingBeside_63 rfl (Or.inr ⟨rfl, by omega⟩) ok (by decide) (by decide) ?_
                exact ⟨by rw [tsm_t (d := k) (by omega) (by omega)]; rfl, rfl⟩
  refine x_weaken (L1 := [(0, .ref 104), (1, .int (zN ((c : Int)))), (2, .int (zN (((0 : Nat) : Int))))]) (List.forall_mem_cons.mpr ⟨(List.Mem.tail _ (List.Mem.head _)), (List.forall_mem_cons.mpr ⟨(List.Mem.tail _ (List.Mem.tail _ (List.Mem.head _))), (List.forall_mem_cons.mpr ⟨(mem_ci (by omega) (List.Mem.head _)), (fun _ h => absurd h List.not_mem_nil)⟩)⟩)⟩) ?_
  exact lp2 ((q 1).toNat - 0 + 1) (0) (by first | assumption | omega) (fun j h => absurd h (Nat.not_lt_zero _)) (Nat.lt_succ_self _)

theorem c_X4_isGoingElsewhere {d : Nat} {H : ZH} (ok : okZ H) {s : Nat} {q N : Nat → Int} {c : Nat} (hc : (c : Int) < q 1) (hs : isSc s) (hsc : H.1 104 1 = (s : Int)) (ws : WFS q) (rs : RepSc H s q) (wn : WFN q N) (rd : RepRd H q N) : EvC zX (d + 1) mX4_isGoingElsewhere [.ref 104, .int (zN ((c : Int)))] (eh H) (zPi (fun (rz : Int) (Hz : ZH) => rz = (if tsm q N 0 3 (q (2 + c)) 1 (N c) (q 1).toNat = true then 1 else 0) ∧ Hz = H)) := by
  show _ ∧ Ev zX mX4_isGoingElsewhere (EvC zX d) (zPi (fun (rz : Int) (Hz : ZH) => rz = (if tsm q N 0 3 (q (2 + c)) 1 (N c) (q 1).toNat = true then 1 else 0) ∧ Hz = H)) 0 [(0, .ref 104), (1, .int (zN ((c : Int))))] [] (eh H)
  refine ⟨Nat.le_of_ble_eq_true rfl, ?_⟩
  have hsr := isSc_r hs
  have wsx := ws
  obtain ⟨ws0, ws1, wsC, ws34, ws35, ws36, ws37, ws38, ws39⟩ := wsx
  have rsx := rs
  obtain ⟨rs0, rs1, rsC, rs34, rs35, rs36, rs37, rs38, rs39⟩ := rsx
  have wnx := wn
  obtain ⟨wnC, wn32, wn33, wn34, wn35, wn36, wn37, wn38, wn39⟩ := wnx
  have rdx := rd
  obtain ⟨rdC, rd10, rd11, rd12, rd13, rd14, rd15, rd16, rd17⟩ := rdx
  have wk_c := wsC c (by omega)
  have vk_c := wnC c (by omega)
  have sk_c := rsC c (by omega)
  have dk_c := rdC c (by omega)
  refine z_iconst (pc := 0) dX4_isGoingElsewhere_0 ?_
  refine x_istore_n (pc := 1) dX4_isGoingElsewhere_1 (Nat.le_of_ble_eq_true rfl) ?_
  show Ev _ _ _ _ _ [(2, .int (zN (0))), (0, .ref 104), (1, .int (zN ((c : Int))))] _ _
  have lp2 : ∀ (nF : Nat) (k : Nat), ((k : Int) ≤ q 1) → (∀ j, j < k → ¬ (((0 ≤ q (2 + j) ∧ q (2 + j) ≤ 3) ∧ q (2 + j) ≠ q (2 + c)) ∧ N (16 + j) = 1 ∧ 0 < N j ∧ N j < N c)) → (q 1).toNat - k < nF → Ev zX mX4_isGoingElsewhere (EvC zX d) (zPi (fun (rz : Int) (Hz : ZH) => rz = (if tsm q N 0 3 (q (2 + c)) 1 (N c) (q 1).toNat = true then 1 else 0) ∧ Hz = H)) 2 [(0, .ref 104), (1, .int (zN ((c : Int)))), (2, .int (zN ((k : Int))))] [] (eh H) := by
    intro nF
    induction nF with
    | zero => intro k hk ha hm; exact absurd hm (Nat.not_lt_zero _)
    | succ nF ih2 =>
      intro k hk ha hm
      refine x_iload_n (pc := 2) dX4_isGoingElsewhere_2 (List.Mem.tail _ (List.Mem.tail _ (List.Mem.head _))) ?_
      refine x_aload_n (pc := 3) dX4_isGoingElsewhere_3 (List.Mem.head _) ?_
      refine z_getY (pc := 4) (k := 1) (r := s) dX4_isGoingElsewhere_4 lf_X4_42 sh_104 rfl (by rw [hsc]) (by omega) ?_
      have rd1 := ok.1 s 1
      refine z_getI (pc := 7) (k := 1) (v := H.1 s 1) dX4_isGoingElsewhere_7 lf_X4_56 (sh_Sc0 hs) rfl rfl ?_
      refine z_icmp_ge (pc := 10) (tgt := 76) dX4_isGoingElsewhere_10 (by decide) (by omega) (by omega) (by omega) (by omega) (fun hb2 => ?_) (fun hb2 => ?_)
      · skip
        refine z_iconst (pc := 76) dX4_isGoingElsewhere_76 ?_
        refine z_ireturn (pc := 77) dX4_isGoingElsewhere_77 rfl (Or.inr ⟨rfl, by omega⟩) ok (by decide) (by decide) ?_
        exact ⟨by rw [tsm_f (fun j hj => ha j (by omega))]; rfl, rfl⟩
      · skip
        have wk_k := wsC k (by omega)
        have vk_k := wnC k (by omega)
        have sk_k := rsC k (by omega)
        have dk_k := rdC k (by omega)
        refine x_aload_n (pc := 13) dX4_isGoingElsewhere_13 (List.Mem.head _) ?_
        refine z_getR (pc := 14) (k := 6) (r := 107) dX4_isGoingElsewhere_14 lf_X4_29 sh_104 rfl rf_104_6 ?_
        refine x_iload_n (pc := 17) dX4_isGoingElsewhere_17 (List.Mem.tail _ (List.Mem.tail _ (List.Mem.head _))) ?_
        have rd3 := ok.1 107 k
        refine z_iald (pc := 18) (j := k) (v := H.1 107 k) dX4_isGoingElsewhere_18 sh_107 rfl (by omega) (by decide) rfl ?_
        refine z_iconst (pc := 19) dX4_isGoingElsewhere_19 ?_
        refine z_icmp_ne (pc := 20) (tgt := 70) dX4_isGoingElsewhere_20 (by decide) (by omega) (by omega) (by decide) (by decide) (fun hb4 => ?_) (fun hb4 => ?_)
        · skip
          refine z_iinc (pc := 70) dX4_isGoingElsewhere_70 (List.Mem.tail _ (List.Mem.tail _ (List.Mem.head _))) (Nat.le_of_ble_eq_true rfl) ?_
          show Ev _ _ _ _ _ [(2, .int (zN ((k : Int) + 1))), (0, .ref 104), (1, .int (zN ((c : Int))))] _ _
          refine x_goto (pc := 73) (tgt := 2) dX4_isGoingElsewhere_73 (by decide) ?_
          refine x_weaken (L1 := [(0, .ref 104), (1, .int (zN ((c : Int)))), (2, .int (zN ((((k + 1) : Nat) : Int))))]) (List.forall_mem_cons.mpr ⟨(List.Mem.tail _ (List.Mem.head _)), (List.forall_mem_cons.mpr ⟨(List.Mem.tail _ (List.Mem.tail _ (List.Mem.head _))), (List.forall_mem_cons.mpr ⟨(mem_ci (by omega) (List.Mem.head _)), (fun _ h => absurd h List.not_mem_nil)⟩)⟩)⟩) ?_
          exact ih2 ((k + 1)) (by first | assumption | omega) (lt_s ha (by omega)) (by omega)
        · skip
          refine x_aload_n (pc := 23) dX4_isGoingElsewhere_23 (List.Mem.head _) ?_
          refine z_getY (pc := 24) (k := 1) (r := s) dX4_isGoingElsewhere_24 lf_X4_42 sh_104 rfl (by rw [hsc]) (by omega) ?_
          refine z_getR (pc := 27) (k := 2) (r := (s + 1)) dX4_isGoingElsewhere_27 lf_X4_143 (sh_Sc0 hs) rfl (rf_Sc_2 hs) ?_
          refine x_iload_n (pc := 30) dX4_isGoingElsewhere_30 (List.Mem.tail _ (List.Mem.tail _ (List.Mem.head _))) ?_
          have rd5 := ok.1 (s + 1) k
          refine z_iald (pc := 31) (j := k) (v := H.1 (s + 1) k) dX4_isGoingElsewhere_31 (sh_Sc1 hs) rfl (by omega) (by decide) rfl ?_
          refine x_aload_n (pc := 32) dX4_isGoingElsewhere_32 (List.Mem.head _) ?_
          refine z_getY (pc := 33) (k := 1) (r := s) dX4_isGoingElsewhere_33 lf_X4_42 sh_104 rfl (by rw [hsc]) (by omega) ?_
          refine z_getR (pc := 36) (k := 2) (r := (s + 1)) dX4_isGoingElsewhere_36 lf_X4_143 (sh_Sc0 hs) rfl (rf_Sc_2 hs) ?_
          refine x_iload_n (pc := 39) dX4_isGoingElsewhere_39 (List.Mem.tail _ (List.Mem.head _)) ?_
          have rd6 := ok.1 (s + 1) c
          refine z_iald (pc := 40) (j := c) (v := H.1 (s + 1) c) dX4_isGoingElsewhere_40 (sh_Sc1 hs) rfl (by omega) (by decide) rfl ?_
          refine z_icmp_eq (pc := 41) (tgt := 70) dX4_isGoingElsewhere_41 (by decide) (by omega) (by omega) (by omega) (by omega) (fun hb7 => ?_) (fun hb7 => ?_)
          · skip
            refine z_iinc (pc := 70) dX4_isGoingElsewhere_70 (List.Mem.tail _ (List.Mem.tail _ (List.Mem.head _))) (Nat.le_of_ble_eq_true rfl) ?_
            show Ev _ _ _ _ _ [(2, .int (zN ((k : Int) + 1))), (0, .ref 104), (1, .int (zN ((c : Int))))] _ _
            refine x_goto (pc := 73) (tgt := 2) dX4_isGoingElsewhere_73 (by decide) ?_
            refine x_weaken (L1 := [(0, .ref 104), (1, .int (zN ((c : Int)))), (2, .int (zN ((((k + 1) : Nat) : Int))))]) (List.forall_mem_cons.mpr ⟨(List.Mem.tail _ (List.Mem.head _)), (List.forall_mem_cons.mpr ⟨(List.Mem.tail _ (List.Mem.tail _ (List.Mem.head _))), (List.forall_mem_cons.mpr ⟨(mem_ci (by omega) (List.Mem.head _)), (fun _ h => absurd h List.not_mem_nil)⟩)⟩)⟩) ?_
            exact ih2 ((k + 1)) (by first | assumption | omega) (lt_s ha (by omega)) (by omega)
          · skip
            refine x_aload_n (pc := 44) dX4_isGoingElsewhere_44 (List.Mem.head _) ?_
            refine z_getR (pc := 45) (k := 4) (r := 105) dX4_isGoingElsewhere_45 lf_X4_22 sh_104 rfl rf_104_4 ?_
            refine x_iload_n (pc := 48) dX4_isGoingElsewhere_48 (List.Mem.tail _ (List.Mem.tail _ (List.Mem.head _))) ?_
            have rd8 := ok.1 105 k
            refine z_iald (pc := 49) (j := k) (v := H.1 105 k) dX4_isGoingElsewhere_49 sh_105 rfl (by omega) (by decide) rfl ?_
            refine z_if_le (pc := 50) (tgt := 70) dX4_isGoingElsewhere_50 (by decide) (by omega) (by omega) (fun hb9 => ?_) (fun hb9 => ?_)
            · skip
              refine z_iinc (pc := 70) dX4_isGoingElsewhere_70 (List.Mem.tail _ (List.Mem.tail _ (List.Mem.head _))) (Nat.le_of_ble_eq_true rfl) ?_
              show Ev _ _ _ _ _ [(2, .int (zN ((k : Int) + 1))), (0, .ref 104), (1, .int (zN ((c : Int))))] _ _
              refine x_goto (pc := 73) (tgt := 2) dX4_isGoingElsewhere_73 (by decide) ?_
              refine x_weaken (L1 := [(0, .ref 104), (1, .int (zN ((c : Int)))), (2, .int (zN ((((k + 1) : Nat) : Int))))]) (List.forall_mem_cons.mpr ⟨(List.Mem.tail _ (List.Mem.head _)), (List.forall_mem_cons.mpr ⟨(List.Mem.tail _ (List.Mem.tail _ (List.Mem.head _))), (List.forall_mem_cons.mpr ⟨(mem_ci (by omega) (List.Mem.head _)), (fun _ h => absurd h List.not_mem_nil)⟩)⟩)⟩) ?_
              exact ih2 ((k + 1)) (by first | assumption | omega) (lt_s ha (by omega)) (by omega)
            · skip
              refine x_aload_n (pc := 53) dX4_isGoingElsewhere_53 (List.Mem.head _) ?_
              refine z_getR (pc := 54) (k := 4) (r := 105) dX4_isGoingElsewhere_54 lf_X4_22 sh_104 rfl rf_104_4 ?_
              refine x_iload_n (pc := 57) dX4_isGoingElsewhere_57 (List.Mem.tail _ (List.Mem.tail _ (List.Mem.head _))) ?_
              have rd10 := ok.1 105 k
              refine z_iald (pc := 58) (j := k) (v := H.1 105 k) dX4_isGoingElsewhere_58 sh_105 rfl (by omega) (by decide) rfl ?_
              refine x_aload_n (pc := 59) dX4_isGoingElsewhere_59 (List.Mem.head _) ?_
              refine z_getR (pc := 60) (k := 4) (r := 105) dX4_isGoingElsewhere_60 lf_X4_22 sh_104 rfl rf_104_4 ?_
              refine x_iload_n (pc := 63) dX4_isGoingElsewhere_63 (List.Mem.tail _ (List.Mem.head _)) ?_
              have rd11 := ok.1 105 c
              refine z_iald (pc := 64) (j := c) (v := H.1 105 c) dX4_isGoingElsewhere_64 sh_105 rfl (by omega) (by decide) rfl ?_
              refine z_icmp_ge (pc := 65) (tgt := 70) dX4_isGoingElsewhere_65 (by decide) (by omega) (by omega) (by omega) (by omega) (fun hb12 => ?_) (fun hb12 => ?_)
              · skip
                refine z_iinc (pc := 70) dX4_isGoingElsewhere_70 (List.Mem.tail _ (List.Mem.tail _ (List.Mem.head _))) (Nat.le_of_ble_eq_true rfl) ?_
                show Ev _ _ _ _ _ [(2, .int (zN ((k : Int) + 1))), (0, .ref 104), (1, .int (zN ((c : Int))))] _ _
                refine x_goto (pc := 73) (tgt := 2) dX4_isGoingElsewhere_73 (by decide) ?_
                refine x_weaken (L1 := [(0, .ref 104), (1, .int (zN ((c : Int)))), (2, .int (zN ((((k + 1) : Nat) : Int))))]) (List.forall_mem_cons.mpr ⟨(List.Mem.tail _ (List.Mem.head _)), (List.forall_mem_cons.mpr ⟨(List.Mem.tail _ (List.Mem.tail _ (List.Mem.head _))), (List.forall_mem_cons.mpr ⟨(mem_ci (by omega) (List.Mem.head _)), (fun _ h => absurd h List.not_mem_nil)⟩)⟩)⟩) ?_
                exact ih2 ((k + 1)) (by first | assumption | omega) (lt_s ha (by omega)) (by omega)
              · skip
                refine z_iconst (pc := 68) dX4_isGoingElsewhere_68 ?_
                refine z_ireturn (pc := 69) dX4_isGoingElsewhere_69 rfl (Or.inr ⟨rfl, by omega⟩) ok (by decide) (by decide) ?_
                exact ⟨by rw [tsm_t (d := k) (by omega) (by omega)]; rfl, rfl⟩
  refine x_weaken (L1 := [(0, .ref 104), (1, .int (zN ((c : Int)))), (2, .int (zN (((0 : Nat) : Int))))]) (List.forall_mem_cons.mpr ⟨(List.Mem.tail _ (List.Mem.head _)), (List.forall_mem_cons.mpr ⟨(List.Mem.tail _ (List.Mem.tail _ (List.Mem.head _))), (List.forall_mem_cons.mpr ⟨(mem_ci (by omega) (List.Mem.head _)), (fun _ h => absurd h List.not_mem_nil)⟩)⟩)⟩) ?_
  exact lp2 ((q 1).toNat - 0 + 1) (0) (by first | assumption | omega) (fun j h => absurd h (Nat.not_lt_zero _)) (Nat.lt_succ_self _)

theorem c_X4_isHidden {d : Nat} {H : ZH} (ok : okZ H) {s : Nat} {q N : Nat → Int} {c : Nat} (hc : (c : Int) < q 1) (hs : isSc s) (hsc : H.1 104 1 = (s : Int)) (ws : WFS q) (rs : RepSc H s q) (wn : WFN q N) (rd : RepRd H q N) : EvC zX (d + 1) mX4_isHidden [.ref 104, .int (zN ((c : Int)))] (eh H) (zPi (fun (rz : Int) (Hz : ZH) => rz = (if thd q N c (q 1).toNat = true then 1 else 0) ∧ Hz = H)) := by
  show _ ∧ Ev zX mX4_isHidden (EvC zX d) (zPi (fun (rz : Int) (Hz : ZH) => rz = (if thd q N c (q 1).toNat = true then 1 else 0) ∧ Hz = H)) 0 [(0, .ref 104), (1, .int (zN ((c : Int))))] [] (eh H)
  refine ⟨Nat.le_of_ble_eq_true rfl, ?_⟩
  have hsr := isSc_r hs
  have wsx := ws
  obtain ⟨ws0, ws1, wsC, ws34, ws35, ws36, ws37, ws38, ws39⟩ := wsx
  have rsx := rs
  obtain ⟨rs0, rs1, rsC, rs34, rs35, rs36, rs37, rs38, rs39⟩ := rsx
  have wnx := wn
  obtain ⟨wnC, wn32, wn33, wn34, wn35, wn36, wn37, wn38, wn39⟩ := wnx
  have rdx := rd
  obtain ⟨rdC, rd10, rd11, rd12, rd13, rd14, rd15, rd16, rd17⟩ := rdx
  have wk_c := wsC c (by omega)
  have vk_c := wnC c (by omega)
  have sk_c := rsC c (by omega)
  have dk_c := rdC c (by omega)
  refine z_iconst (pc := 0) dX4_isHidden_0 ?_
  refine x_istore_n (pc := 1) dX4_isHidden_1 (Nat.le_of_ble_eq_true rfl) ?_
  show Ev _ _ _ _ _ [(2, .int (zN (0))), (0, .ref 104), (1, .int (zN ((c : Int))))] _ _
  have lp2 : ∀ (nF : Nat) (k : Nat), ((k : Int) ≤ q 1) → (∀ j, j < k → ¬ (q (2 + j) = q (2 + c) - 1 ∧ 0 < q (26 + j) ∧ N (16 + j) = 2 ∧ N (8 + j) = 0 ∧ (1 ≤ N j ∧ N j ≤ 3) ∧ N j < N c)) → (q 1).toNat - k < nF → Ev zX mX4_isHidden (EvC zX d) (zPi (fun (rz : Int) (Hz : ZH) => rz = (if thd q N c (q 1).toNat = true then 1 else 0) ∧ Hz = H)) 2 [(0, .ref 104), (1, .int (zN ((c : Int)))), (2, .int (zN ((k : Int))))] [] (eh H) := by
    intro nF
    induction nF with
    | zero => intro k hk ha hm; exact absurd hm (Nat.not_lt_zero _)
    | succ nF ih2 =>
      intro k hk ha hm
      refine x_iload_n (pc := 2) dX4_isHidden_2 (List.Mem.tail _ (List.Mem.tail _ (List.Mem.head _))) ?_
      refine x_aload_n (pc := 3) dX4_isHidden_3 (List.Mem.head _) ?_
      refine z_getY (pc := 4) (k := 1) (r := s) dX4_isHidden_4 lf_X4_42 sh_104 rfl (by rw [hsc]) (by omega) ?_
      have rd1 := ok.1 s 1
      refine z_getI (pc := 7) (k := 1) (v := H.1 s 1) dX4_isHidden_7 lf_X4_56 (sh_Sc0 hs) rfl rfl ?_
      refine z_icmp_ge (pc := 10) (tgt := 120) dX4_isHidden_10 (by decide) (by omega) (by omega) (by omega) (by omega) (fun hb2 => ?_) (fun hb2 => ?_)
      · skip
        refine z_iconst (pc := 120) dX4_isHidden_120 ?_
        refine z_ireturn (pc := 121) dX4_isHidden_121 rfl (Or.inr ⟨rfl, by omega⟩) ok (by decide) (by decide) ?_
        exact ⟨by rw [thd_f (fun j hj => ha j (by omega))]; rfl, rfl⟩
      · skip
        have wk_k := wsC k (by omega)
        have vk_k := wnC k (by omega)
        have sk_k := rsC k (by omega)
        have dk_k := rdC k (by omega)
        refine x_aload_n (pc := 13) dX4_isHidden_13 (List.Mem.head _) ?_
        refine z_getR (pc := 14) (k := 6) (r := 107) dX4_isHidden_14 lf_X4_29 sh_104 rfl rf_104_6 ?_
        refine x_iload_n (pc := 17) dX4_isHidden_17 (List.Mem.tail _ (List.Mem.tail _ (List.Mem.head _))) ?_
        have rd3 := ok.1 107 k
        refine z_iald (pc := 18) (j := k) (v := H.1 107 k) dX4_isHidden_18 sh_107 rfl (by omega) (by decide) rfl ?_
        refine z_iconst (pc := 19) dX4_isHidden_19 ?_
        refine z_icmp_ne (pc := 20) (tgt := 48) dX4_isHidden_20 (by decide) (by omega) (by omega) (by decide) (by decide) (fun hb4 => ?_) (fun hb4 => ?_)
        · skip
          refine z_iconst (pc := 48) dX4_isHidden_48 ?_
          refine x_istore_n (pc := 49) dX4_isHidden_49 (Nat.le_of_ble_eq_true rfl) ?_
          show Ev _ _ _ _ _ [(3, .int (zN (0))), (0, .ref 104), (1, .int (zN ((c : Int)))), (2, .int (zN ((k : Int))))] _ _
          refine x_iload_n (pc := 50) dX4_isHidden_50 (List.Mem.head _) ?_
          refine z_if_eq (pc := 51) (tgt := 114) dX4_isHidden_51 (by decide) (by decide) (by decide) (fun _ => ?_) (fun h => absurd h (by decide))
          refine z_iinc (pc := 114) dX4_isHidden_114 (List.Mem.tail _ (List.Mem.tail _ (List.Mem.tail _ (List.Mem.head _)))) (Nat.le_of_ble_eq_true rfl) ?_
          show Ev _ _ _ _ _ [(2, .int (zN ((k : Int) + 1))), (3, .int (zN (0))), (0, .ref 104), (1, .int (zN ((c : Int))))] _ _
          refine x_goto (pc := 117) (tgt := 2) dX4_isHidden_117 (by decide) ?_
          refine x_weaken (L1 := [(0, .ref 104), (1, .int (zN ((c : Int)))), (2, .int (zN ((((k + 1) : Nat) : Int))))]) (List.forall_mem_cons.mpr ⟨(List.Mem.tail _ (List.Mem.tail _ (List.Mem.head _))), (List.forall_mem_cons.mpr ⟨(List.Mem.tail _ (List.Mem.tail _ (List.Mem.tail _ (List.Mem.head _)))), (List.forall_mem_cons.mpr ⟨(mem_ci (by omega) (List.Mem.head _)), (fun _ h => absurd h List.not_mem_nil)⟩)⟩)⟩) ?_
          exact ih2 ((k + 1)) (by first | assumption | omega) (lt_s ha (by omega)) (by omega)
        · skip
          refine x_aload_n (pc := 23) dX4_isHidden_23 (List.Mem.head _) ?_
          refine z_getR (pc := 24) (k := 5) (r := 106) dX4_isHidden_24 lf_X4_26 sh_104 rfl rf_104_5 ?_
          refine x_iload_n (pc := 27) dX4_isHidden_27 (List.Mem.tail _ (List.Mem.tail _ (List.Mem.head _))) ?_
          have rd6 := ok.1 106 k
          refine z_iald (pc := 28) (j := k) (v := H.1 106 k) dX4_isHidden_28 sh_106 rfl (by omega) (by decide) rfl ?_
          refine z_if_ne (pc := 29) (tgt := 48) dX4_isHidden_29 (by decide) (by omega) (by omega) (fun hb7 => ?_) (fun hb7 => ?_)
          · skip
            refine z_iconst (pc := 48) dX4_isHidden_48 ?_
            refine x_istore_n (pc := 49) dX4_isHidden_49 (Nat.le_of_ble_eq_true rfl) ?_
            show Ev _ _ _ _ _ [(3, .int (zN (0))), (0, .ref 104), (1, .int (zN ((c : Int)))), (2, .int (zN ((k : Int))))] _ _
            refine x_iload_n (pc := 50) dX4_isHidden_50 (List.Mem.head _) ?_
            refine z_if_eq (pc := 51) (tgt := 114) dX4_isHidden_51 (by decide) (by decide) (by decide) (fun _ => ?_) (fun h => absurd h (by decide))
            refine z_iinc (pc := 114) dX4_isHidden_114 (List.Mem.tail _ (List.Mem.tail _ (List.Mem.tail _ (List.Mem.head _)))) (Nat.le_of_ble_eq_true rfl) ?_
            show Ev _ _ _ _ _ [(2, .int (zN ((k : Int) + 1))), (3, .int (zN (0))), (0, .ref 104), (1, .int (zN ((c : Int))))] _ _
            refine x_goto (pc := 117) (tgt := 2) dX4_isHidden_117 (by decide) ?_
            refine x_weaken (L1 := [(0, .ref 104), (1, .int (zN ((c : Int)))), (2, .int (zN ((((k + 1) : Nat) : Int))))]) (List.forall_mem_cons.mpr ⟨(List.Mem.tail _ (List.Mem.tail _ (List.Mem.head _))), (List.forall_mem_cons.mpr ⟨(List.Mem.tail _ (List.Mem.tail _ (List.Mem.tail _ (List.Mem.head _)))), (List.forall_mem_cons.mpr ⟨(mem_ci (by omega) (List.Mem.head _)), (fun _ h => absurd h List.not_mem_nil)⟩)⟩)⟩) ?_
            exact ih2 ((k + 1)) (by first | assumption | omega) (lt_s ha (by omega)) (by omega)
          · skip
            refine x_aload_n (pc := 32) dX4_isHidden_32 (List.Mem.head _) ?_
            refine z_getY (pc := 33) (k := 1) (r := s) dX4_isHidden_33 lf_X4_42 sh_104 rfl (by rw [hsc]) (by omega) ?_
            refine z_getR (pc := 36) (k := 5) (r := (s + 4)) dX4_isHidden_36 lf_X4_146 (sh_Sc0 hs) rfl (rf_Sc_5 hs) ?_
            refine x_iload_n (pc := 39) dX4_isHidden_39 (List.Mem.tail _ (List.Mem.tail _ (List.Mem.head _))) ?_
            have rd9 := ok.1 (s + 4) k
            refine z_iald (pc := 40) (j := k) (v := H.1 (s + 4) k) dX4_isHidden_40 (sh_Sc4 hs) rfl (by omega) (by decide) rfl ?_
            refine z_if_le (pc := 41) (tgt := 48) dX4_isHidden_41 (by decide) (by omega) (by omega) (fun hb10 => ?_) (fun hb10 => ?_)
            · skip
              refine z_iconst (pc := 48) dX4_isHidden_48 ?_
              refine x_istore_n (pc := 49) dX4_isHidden_49 (Nat.le_of_ble_eq_true rfl) ?_
              show Ev _ _ _ _ _ [(3, .int (zN (0))), (0, .ref 104), (1, .int (zN ((c : Int)))), (2, .int (zN ((k : Int))))] _ _
              refine x_iload_n (pc := 50) dX4_isHidden_50 (List.Mem.head _) ?_
              refine z_if_eq (pc := 51) (tgt := 114) dX4_isHidden_51 (by decide) (by decide) (by decide) (fun _ => ?_) (fun h => absurd h (by decide))
              refine z_iinc (pc := 114) dX4_isHidden_114 (List.Mem.tail _ (List.Mem.tail _ (List.Mem.tail _ (List.Mem.head _)))) (Nat.le_of_ble_eq_true rfl) ?_
              show Ev _ _ _ _ _ [(2, .int (zN ((k : Int) + 1))), (3, .int (zN (0))), (0, .ref 104), (1, .int (zN ((c : Int))))] _ _
              refine x_goto (pc := 117) (tgt := 2) dX4_isHidden_117 (by decide) ?_
              refine x_weaken (L1 := [(0, .ref 104), (1, .int (zN ((c : Int)))), (2, .int (zN ((((k + 1) : Nat) : Int))))]) (List.forall_mem_cons.mpr ⟨(List.Mem.tail _ (List.Mem.tail _ (List.Mem.head _))), (List.forall_mem_cons.mpr ⟨(List.Mem.tail _ (List.Mem.tail _ (List.Mem.tail _ (List.Mem.head _)))), (List.forall_mem_cons.mpr ⟨(mem_ci (by omega) (List.Mem.head _)), (fun _ h => absurd h List.not_mem_nil)⟩)⟩)⟩) ?_
              exact ih2 ((k + 1)) (by first | assumption | omega) (lt_s ha (by omega)) (by omega)
            · skip
              refine z_iconst (pc := 44) dX4_isHidden_44 ?_
              refine x_goto (pc := 45) (tgt := 49) dX4_isHidden_45 (by decide) ?_
              refine x_istore_n (pc := 49) dX4_isHidden_49 (Nat.le_of_ble_eq_true rfl) ?_
              show Ev _ _ _ _ _ [(3, .int (zN (1))), (0, .ref 104), (1, .int (zN ((c : Int)))), (2, .int (zN ((k : Int))))] _ _
              refine x_iload_n (pc := 50) dX4_isHidden_50 (List.Mem.head _) ?_
              refine z_if_eq (pc := 51) (tgt := 114) dX4_isHidden_51 (by decide) (by decide) (by decide) (fun h => absurd h (by decide)) (fun _ => ?_)
              refine x_aload_n (pc := 54) dX4_isHidden_54 (List.Mem.tail _ (List.Mem.head _)) ?_
              refine z_getY (pc := 55) (k := 1) (r := s) dX4_isHidden_55 lf_X4_42 sh_104 rfl (by rw [hsc]) (by omega) ?_
              refine z_getR (pc := 58) (k := 2) (r := (s + 1)) dX4_isHidden_58 lf_X4_143 (sh_Sc0 hs) rfl (rf_Sc_2 hs) ?_
              refine x_iload_n (pc := 61) dX4_isHidden_61 (List.Mem.tail _ (List.Mem.tail _ (List.Mem.tail _ (List.Mem.head _)))) ?_
              have rd13 := ok.1 (s + 1) k
              refine z_iald (pc := 62) (j := k) (v := H.1 (s + 1) k) dX4_isHidden_62 (sh_Sc1 hs) rfl (by omega) (by decide) rfl ?_
              refine x_aload_n (pc := 63) dX4_isHidden_63 (List.Mem.tail _ (List.Mem.head _)) ?_
              refine z_getY (pc := 64) (k := 1) (r := s) dX4_isHidden_64 lf_X4_42 sh_104 rfl (by rw [hsc]) (by omega) ?_
              refine z_getR (pc := 67) (k := 2) (r := (s + 1)) dX4_isHidden_67 lf_X4_143 (sh_Sc0 hs) rfl (rf_Sc_2 hs) ?_
              refine x_iload_n (pc := 70) dX4_isHidden_70 (List.Mem.tail _ (List.Mem.tail _ (List.Mem.head _))) ?_
              have rd14 := ok.1 (s + 1) c
              refine z_iald (pc := 71) (j := c) (v := H.1 (s + 1) c) dX4_isHidden_71 (sh_Sc1 hs) rfl (by omega) (by decide) rfl ?_
              refine z_iconst (pc := 72) dX4_isHidden_72 ?_
              refine z_isub (pc := 73) dX4_isHidden_73 ?_
              refine z_icmp_ne (pc := 74) (tgt := 114) dX4_isHidden_74 (by decide) (by omega) (by omega) (by omega) (by omega) (fun hb15 => ?_) (fun hb15 => ?_)
              · skip
                refine z_iinc (pc := 114) dX4_isHidden_114 (List.Mem.tail _ (List.Mem.tail _ (List.Mem.tail _ (List.Mem.head _)))) (Nat.le_of_ble_eq_true rfl) ?_
                show Ev _ _ _ _ _ [(2, .int (zN ((k : Int) + 1))), (3, .int (zN (1))), (0, .ref 104), (1, .int (zN ((c : Int))))] _ _
                refine x_goto (pc := 117) (tgt := 2) dX4_isHidden_117 (by decide) ?_
                refine x_weaken (L1 := [(0, .ref 104), (1, .int (zN ((c : Int)))), (2, .int (zN ((((k + 1) : Nat) : Int))))]) (List.forall_mem_cons.mpr ⟨(List.Mem.tail _ (List.Mem.tail _ (List.Mem.head _))), (List.forall_mem_cons.mpr ⟨(List.Mem.tail _ (List.Mem.tail _ (List.Mem.tail _ (List.Mem.head _)))), (List.forall_mem_cons.mpr ⟨(mem_ci (by omega) (List.Mem.head _)), (fun _ h => absurd h List.not_mem_nil)⟩)⟩)⟩) ?_
                exact ih2 ((k + 1)) (by first | assumption | omega) (lt_s ha (by omega)) (by omega)
              · skip
                refine x_aload_n (pc := 77) dX4_isHidden_77 (List.Mem.tail _ (List.Mem.head _)) ?_
                refine z_getR (pc := 78) (k := 4) (r := 105) dX4_isHidden_78 lf_X4_22 sh_104 rfl rf_104_4 ?_
                refine x_iload_n (pc := 81) dX4_isHidden_81 (List.Mem.tail _ (List.Mem.tail _ (List.Mem.tail _ (List.Mem.head _)))) ?_
                have rd16 := ok.1 105 k
                refine z_iald (pc := 82) (j := k) (v := H.1 105 k) dX4_isHidden_82 sh_105 rfl (by omega) (by decide) rfl ?_
                refine z_iconst (pc := 83) dX4_isHidden_83 ?_
                refine z_icmp_lt (pc := 84) (tgt := 114) dX4_isHidden_84 (by decide) (by omega) (by omega) (by decide) (by decide) (fun hb17 => ?_) (fun hb17 => ?_)
                · skip
                  refine z_iinc (pc := 114) dX4_isHidden_114 (List.Mem.tail _ (List.Mem.tail _ (List.Mem.tail _ (List.Mem.head _)))) (Nat.le_of_ble_eq_true rfl) ?_
                  show Ev _ _ _ _ _ [(2, .int (zN ((k : Int) + 1))), (3, .int (zN (1))), (0, .ref 104), (1, .int (zN ((c : Int))))] _ _
                  refine x_goto (pc := 117) (tgt := 2) dX4_isHidden_117 (by decide) ?_
                  refine x_weaken (L1 := [(0, .ref 104), (1, .int (zN ((c : Int)))), (2, .int (zN ((((k + 1) : Nat) : Int))))]) (List.forall_mem_cons.mpr ⟨(List.Mem.tail _ (List.Mem.tail _ (List.Mem.head _))), (List.forall_mem_cons.mpr ⟨(List.Mem.tail _ (List.Mem.tail _ (List.Mem.tail _ (List.Mem.head _)))), (List.forall_mem_cons.mpr ⟨(mem_ci (by omega) (List.Mem.head _)), (fun _ h => absurd h List.not_mem_nil)⟩)⟩)⟩) ?_
                  exact ih2 ((k + 1)) (by first | assumption | omega) (lt_s ha (by omega)) (by omega)
                · skip
                  refine x_aload_n (pc := 87) dX4_isHidden_87 (List.Mem.tail _ (List.Mem.head _)) ?_
                  refine z_getR (pc := 88) (k := 4) (r := 105) dX4_isHidden_88 lf_X4_22 sh_104 rfl rf_104_4 ?_
                  refine x_iload_n (pc := 91) dX4_isHidden_91 (List.Mem.tail _ (List.Mem.tail _ (List.Mem.tail _ (List.Mem.head _)))) ?_
                  have rd18 := ok.1 105 k
                  refine z_iald (pc := 92) (j := k) (v := H.1 105 k) dX4_isHidden_92 sh_105 rfl (by omega) (by decide) rfl ?_
                  refine z_iconst (pc := 93) dX4_isHidden_93 ?_
                  refine z_icmp_gt (pc := 94) (tgt := 114) dX4_isHidden_94 (by decide) (by omega) (by omega) (by decide) (by decide) (fun hb19 => ?_) (fun hb19 => ?_)
                  · skip
                    refine z_iinc (pc := 114) dX4_isHidden_114 (List.Mem.tail _ (List.Mem.tail _ (List.Mem.tail _ (List.Mem.head _)))) (Nat.le_of_ble_eq_true rfl) ?_
                    show Ev _ _ _ _ _ [(2, .int (zN ((k : Int) + 1))), (3, .int (zN (1))), (0, .ref 104), (1, .int (zN ((c : Int))))] _ _
                    refine x_goto (pc := 117) (tgt := 2) dX4_isHidden_117 (by decide) ?_
                    refine x_weaken (L1 := [(0, .ref 104), (1, .int (zN ((c : Int)))), (2, .int (zN ((((k + 1) : Nat) : Int))))]) (List.forall_mem_cons.mpr ⟨(List.Mem.tail _ (List.Mem.tail _ (List.Mem.head _))), (List.forall_mem_cons.mpr ⟨(List.Mem.tail _ (List.Mem.tail _ (List.Mem.tail _ (List.Mem.head _)))), (List.forall_mem_cons.mpr ⟨(mem_ci (by omega) (List.Mem.head _)), (fun _ h => absurd h List.not_mem_nil)⟩)⟩)⟩) ?_
                    exact ih2 ((k + 1)) (by first | assumption | omega) (lt_s ha (by omega)) (by omega)
                  · skip
                    refine x_aload_n (pc := 97) dX4_isHidden_97 (List.Mem.tail _ (List.Mem.head _)) ?_
                    refine z_getR (pc := 98) (k := 4) (r := 105) dX4_isHidden_98 lf_X4_22 sh_104 rfl rf_104_4 ?_
                    refine x_iload_n (pc := 101) dX4_isHidden_101 (List.Mem.tail _ (List.Mem.tail _ (List.Mem.tail _ (List.Mem.head _)))) ?_
                    have rd20 := ok.1 105 k
                    refine z_iald (pc := 102) (j := k) (v := H.1 105 k) dX4_isHidden_102 sh_105 rfl (by omega) (by decide) rfl ?_
                    refine x_aload_n (pc := 103) dX4_isHidden_103 (List.Mem.tail _ (List.Mem.head _)) ?_
                    refine z_getR (pc := 104) (k := 4) (r := 105) dX4_isHidden_104 lf_X4_22 sh_104 rfl rf_104_4 ?_
                    refine x_iload_n (pc := 107) dX4_isHidden_107 (List.Mem.tail _ (List.Mem.tail _ (List.Mem.head _))) ?_
                    have rd21 := ok.1 105 c
                    refine z_iald (pc := 108) (j := c) (v := H.1 105 c) dX4_isHidden_108 sh_105 rfl (by omega) (by decide) rfl ?_
                    refine z_icmp_ge (pc := 109) (tgt := 114) dX4_isHidden_109 (by decide) (by omega) (by omega) (by omega) (by omega) (fun hb22 => ?_) (fun hb22 => ?_)
                    · skip
                      refine z_iinc (pc := 114) dX4_isHidden_114 (List.Mem.tail _ (List.Mem.tail _ (List.Mem.tail _ (List.Mem.head _)))) (Nat.le_of_ble_eq_true rfl) ?_
                      show Ev _ _ _ _ _ [(2, .int (zN ((k : Int) + 1))), (3, .int (zN (1))), (0, .ref 104), (1, .int (zN ((c : Int))))] _ _
                      refine x_goto (pc := 117) (tgt := 2) dX4_isHidden_117 (by decide) ?_
                      refine x_weaken (L1 := [(0, .ref 104), (1, .int (zN ((c : Int)))), (2, .int (zN ((((k + 1) : Nat) : Int))))]) (List.forall_mem_cons.mpr ⟨(List.Mem.tail _ (List.Mem.tail _ (List.Mem.head _))), (List.forall_mem_cons.mpr ⟨(List.Mem.tail _ (List.Mem.tail _ (List.Mem.tail _ (List.Mem.head _)))), (List.forall_mem_cons.mpr ⟨(mem_ci (by omega) (List.Mem.head _)), (fun _ h => absurd h List.not_mem_nil)⟩)⟩)⟩) ?_
                      exact ih2 ((k + 1)) (by first | assumption | omega) (lt_s ha (by omega)) (by omega)
                    · skip
                      refine z_iconst (pc := 112) dX4_isHidden_112 ?_
                      refine z_ireturn (pc := 113) dX4_isHidden_113 rfl (Or.inr ⟨rfl, by omega⟩) ok (by decide) (by decide) ?_
                      exact ⟨by rw [thd_t (d := k) (by omega) (by omega)]; rfl, rfl⟩
  refine x_weaken (L1 := [(0, .ref 104), (1, .int (zN ((c : Int)))), (2, .int (zN (((0 : Nat) : Int))))]) (List.forall_mem_cons.mpr ⟨(List.Mem.tail _ (List.Mem.head _)), (List.forall_mem_cons.mpr ⟨(List.Mem.tail _ (List.Mem.tail _ (List.Mem.head _))), (List.forall_mem_cons.mpr ⟨(mem_ci (by omega) (List.Mem.head _)), (fun _ h => absurd h List.not_mem_nil)⟩)⟩)⟩) ?_
  exact lp2 ((q 1).toNat - 0 + 1) (0) (by first | assumption | omega) (fun j h => absurd h (Nat.not_lt_zero _)) (Nat.lt_succ_self _)

theorem c_X4_isFree {d : Nat} {H : ZH} (ok : okZ H) {s : Nat} {q N : Nat → Int} {ln : Int} (ln1 : -2147483648 ≤ ln) (ln2 : ln ≤ 2147483647) (hs : isSc s) (hsc : H.1 104 1 = (s : Int)) (ws : WFS q) (rs : RepSc H s q) (wn : WFN q N) (rd : RepRd H q N) : EvC zX (d + 2) mX4_isFree [.ref 104, .int (zN (ln))] (eh H) (zPi (fun (rz : Int) (Hz : ZH) => rz = (if tfr q N ln (q 1).toNat = true then 1 else 0) ∧ Hz = H)) := by
  show _ ∧ Ev zX mX4_isFree (EvC zX (d + 1)) (zPi (fun (rz : Int) (Hz : ZH) => rz = (if tfr q N ln (q 1).toNat = true then 1 else 0) ∧ Hz = H)) 0 [(0, .ref 104), (1, .int (zN (ln)))] [] (eh H)
  refine ⟨Nat.le_of_ble_eq_true rfl, ?_⟩
  have hsr := isSc_r hs
  have wsx := ws
  obtain ⟨ws0, ws1, wsC, ws34, ws35, ws36, ws37, ws38, ws39⟩ := wsx
  have rsx := rs
  obtain ⟨rs0, rs1, rsC, rs34, rs35, rs36, rs37, rs38, rs39⟩ := rsx
  have wnx := wn
  obtain ⟨wnC, wn32, wn33, wn34, wn35, wn36, wn37, wn38, wn39⟩ := wnx
  have rdx := rd
  obtain ⟨rdC, rd10, rd11, rd12, rd13, rd14, rd15, rd16, rd17⟩ := rdx
  refine z_iconst (pc := 0) dX4_isFree_0 ?_
  refine x_istore_n (pc := 1) dX4_isFree_1 (Nat.le_of_ble_eq_true rfl) ?_
  show Ev _ _ _ _ _ [(2, .int (zN (0))), (0, .ref 104), (1, .int (zN (ln)))] _ _
  have lp2 : ∀ (nF : Nat) (k : Nat), ((k : Int) ≤ q 1) → (∀ j, j < k → ¬ (q (2 + j) = ln ∧ 0 < N j ∧ N (16 + j) ≠ 2 ∧ N (24 + j) ≠ 1 ∧ thd q N j (q 1).toNat = false ∧ N j ≤ q 36 * N (8 + j))) → (q 1).toNat - k < nF → Ev zX mX4_isFree (EvC zX (d + 1)) (zPi (fun (rz : Int) (Hz : ZH) => rz = (if tfr q N ln (q 1).toNat = true then 1 else 0) ∧ Hz = H)) 2 [(0, .ref 104), (1, .int (zN (ln))), (2, .int (zN ((k : Int))))] [] (eh H) := by
    intro nF
    induction nF with
    | zero => intro k hk ha hm; exact absurd hm (Nat.not_lt_zero _)
    | succ nF ih2 =>
      intro k hk ha hm
      refine x_iload_n (pc := 2) dX4_isFree_2 (List.Mem.tail _ (List.Mem.tail _ (List.Mem.head _))) ?_
      refine x_aload_n (pc := 3) dX4_isFree_3 (List.Mem.head _) ?_
      refine z_getY (pc := 4) (k := 1) (r := s) dX4_isFree_4 lf_X4_42 sh_104 rfl (by rw [hsc]) (by omega) ?_
      have rd1 := ok.1 s 1
      refine z_getI (pc := 7) (k := 1) (v := H.1 s 1) dX4_isFree_7 lf_X4_56 (sh_Sc0 hs) rfl rfl ?_
      refine z_icmp_ge (pc := 10) (tgt := 103) dX4_isFree_10 (by decide) (by omega) (by omega) (by omega) (by omega) (fun hb2 => ?_) (fun hb2 => ?_)
      · skip
        refine z_iconst (pc := 103) dX4_isFree_103 ?_
        refine z_ireturn (pc := 104) dX4_isFree_104 rfl (Or.inr ⟨rfl, by omega⟩) ok (by decide) (by decide) ?_
        exact ⟨by rw [tfr_t (fun j hj => ha j (by omega))]; rfl, rfl⟩
      · skip
        have wk_k := wsC k (by omega)
        have vk_k := wnC k (by omega)
        have sk_k := rsC k (by omega)
        have dk_k := rdC k (by omega)
        have nm := nn2 (x := q 36) (y := N (8 + k)) (A := 20) (B := 9) (by omega) (by omega) (by omega) (by omega)
        have np : H.1 s 8 * H.1 106 k = q 36 * N (8 + k) := by rw [rs36, dk_k.2.1]
        refine x_aload_n (pc := 13) dX4_isFree_13 (List.Mem.head _) ?_
        refine z_getY (pc := 14) (k := 1) (r := s) dX4_isFree_14 lf_X4_42 sh_104 rfl (by rw [hsc]) (by omega) ?_
        refine z_getR (pc := 17) (k := 2) (r := (s + 1)) dX4_isFree_17 lf_X4_143 (sh_Sc0 hs) rfl (rf_Sc_2 hs) ?_
        refine x_iload_n (pc := 20) dX4_isFree_20 (List.Mem.tail _ (List.Mem.tail _ (List.Mem.head _))) ?_
        have rd3 := ok.1 (s + 1) k
        refine z_iald (pc := 21) (j := k) (v := H.1 (s + 1) k) dX4_isFree_21 (sh_Sc1 hs) rfl (by omega) (by decide) rfl ?_
        refine x_iload_n (pc := 22) dX4_isFree_22 (List.Mem.tail _ (List.Mem.head _)) ?_
        refine z_icmp_ne (pc := 23) (tgt := 58) dX4_isFree_23 (by decide) (by omega) (by omega) (by omega) (by omega) (fun hb4 => ?_) (fun hb4 => ?_)
        · skip
          refine z_iconst (pc := 58) dX4_isFree_58 ?_
          refine x_istore_n (pc := 59) dX4_isFree_59 (Nat.le_of_ble_eq_true rfl) ?_
          show Ev _ _ _ _ _ [(3, .int (zN (0))), (0, .ref 104), (1, .int (zN (ln))), (2, .int (zN ((k : Int))))] _ _
          refine x_iload_n (pc := 60) dX4_isFree_60 (List.Mem.head _) ?_
          refine z_if_eq (pc := 61) (tgt := 97) dX4_isFree_61 (by decide) (by decide) (by decide) (fun _ => ?_) (fun h => absurd h (by decide))
          refine z_iinc (pc := 97) dX4_isFree_97 (List.Mem.tail _ (List.Mem.tail _ (List.Mem.tail _ (List.Mem.head _)))) (Nat.le_of_ble_eq_true rfl) ?_
          show Ev _ _ _ _ _ [(2, .int (zN ((k : Int) + 1))), (3, .int (zN (0))), (0, .ref 104), (1, .int (zN (ln)))] _ _
          refine x_goto (pc := 100) (tgt := 2) dX4_isFree_100 (by decide) ?_
          refine x_weaken (L1 := [(0, .ref 104), (1, .int (zN (ln))), (2, .int (zN ((((k + 1) : Nat) : Int))))]) (List.forall_mem_cons.mpr ⟨(List.Mem.tail _ (List.Mem.tail _ (List.Mem.head _))), (List.forall_mem_cons.mpr ⟨(List.Mem.tail _ (List.Mem.tail _ (List.Mem.tail _ (List.Mem.head _)))), (List.forall_mem_cons.mpr ⟨(mem_ci (by omega) (List.Mem.head _)), (fun _ h => absurd h List.not_mem_nil)⟩)⟩)⟩) ?_
          exact ih2 ((k + 1)) (by first | assumption | omega) (lt_s ha (fun w => by obtain ⟨q1, q2, q3, q4, q5, q6⟩ := w; first | omega | (rw [hth] at q5; exact absurd q5 (by decide)))) (by omega)
        · skip
          refine x_aload_n (pc := 26) dX4_isFree_26 (List.Mem.head _) ?_
          refine z_getR (pc := 27) (k := 4) (r := 105) dX4_isFree_27 lf_X4_22 sh_104 rfl rf_104_4 ?_
          refine x_iload_n (pc := 30) dX4_isFree_30 (List.Mem.tail _ (List.Mem.tail _ (List.Mem.head _))) ?_
          have rd6 := ok.1 105 k
          refine z_iald (pc := 31) (j := k) (v := H.1 105 k) dX4_isFree_31 sh_105 rfl (by omega) (by decide) rfl ?_
          refine z_if_le (pc := 32) (tgt := 58) dX4_isFree_32 (by decide) (by omega) (by omega) (fun hb7 => ?_) (fun hb7 => ?_)
          · skip
            refine z_iconst (pc := 58) dX4_isFree_58 ?_
            refine x_istore_n (pc := 59) dX4_isFree_59 (Nat.le_of_ble_eq_true rfl) ?_
            show Ev _ _ _ _ _ [(3, .int (zN (0))), (0, .ref 104), (1, .int (zN (ln))), (2, .int (zN ((k : Int))))] _ _
            refine x_iload_n (pc := 60) dX4_isFree_60 (List.Mem.head _) ?_
            refine z_if_eq (pc := 61) (tgt := 97) dX4_isFree_61 (by decide) (by decide) (by decide) (fun _ => ?_) (fun h => absurd h (by decide))
            refine z_iinc (pc := 97) dX4_isFree_97 (List.Mem.tail _ (List.Mem.tail _ (List.Mem.tail _ (List.Mem.head _)))) (Nat.le_of_ble_eq_true rfl) ?_
            show Ev _ _ _ _ _ [(2, .int (zN ((k : Int) + 1))), (3, .int (zN (0))), (0, .ref 104), (1, .int (zN (ln)))] _ _
            refine x_goto (pc := 100) (tgt := 2) dX4_isFree_100 (by decide) ?_
            refine x_weaken (L1 := [(0, .ref 104), (1, .int (zN (ln))), (2, .int (zN ((((k + 1) : Nat) : Int))))]) (List.forall_mem_cons.mpr ⟨(List.Mem.tail _ (List.Mem.tail _ (List.Mem.head _))), (List.forall_mem_cons.mpr ⟨(List.Mem.tail _ (List.Mem.tail _ (List.Mem.tail _ (List.Mem.head _)))), (List.forall_mem_cons.mpr ⟨(mem_ci (by omega) (List.Mem.head _)), (fun _ h => absurd h List.not_mem_nil)⟩)⟩)⟩) ?_
            exact ih2 ((k + 1)) (by first | assumption | omega) (lt_s ha (fun w => by obtain ⟨q1, q2, q3, q4, q5, q6⟩ := w; first | omega | (rw [hth] at q5; exact absurd q5 (by decide)))) (by omega)
          · skip
            refine x_aload_n (pc := 35) dX4_isFree_35 (List.Mem.head _) ?_
            refine z_getR (pc := 36) (k := 6) (r := 107) dX4_isFree_36 lf_X4_29 sh_104 rfl rf_104_6 ?_
            refine x_iload_n (pc := 39) dX4_isFree_39 (List.Mem.tail _ (List.Mem.tail _ (List.Mem.head _))) ?_
            have rd9 := ok.1 107 k
            refine z_iald (pc := 40) (j := k) (v := H.1 107 k) dX4_isFree_40 sh_107 rfl (by omega) (by decide) rfl ?_
            refine z_iconst (pc := 41) dX4_isFree_41 ?_
            refine z_icmp_eq (pc := 42) (tgt := 58) dX4_isFree_42 (by decide) (by omega) (by omega) (by decide) (by decide) (fun hb10 => ?_) (fun hb10 => ?_)
            · skip
              refine z_iconst (pc := 58) dX4_isFree_58 ?_
              refine x_istore_n (pc := 59) dX4_isFree_59 (Nat.le_of_ble_eq_true rfl) ?_
              show Ev _ _ _ _ _ [(3, .int (zN (0))), (0, .ref 104), (1, .int (zN (ln))), (2, .int (zN ((k : Int))))] _ _
              refine x_iload_n (pc := 60) dX4_isFree_60 (List.Mem.head _) ?_
              refine z_if_eq (pc := 61) (tgt := 97) dX4_isFree_61 (by decide) (by decide) (by decide) (fun _ => ?_) (fun h => absurd h (by decide))
              refine z_iinc (pc := 97) dX4_isFree_97 (List.Mem.tail _ (List.Mem.tail _ (List.Mem.tail _ (List.Mem.head _)))) (Nat.le_of_ble_eq_true rfl) ?_
              show Ev _ _ _ _ _ [(2, .int (zN ((k : Int) + 1))), (3, .int (zN (0))), (0, .ref 104), (1, .int (zN (ln)))] _ _
              refine x_goto (pc := 100) (tgt := 2) dX4_isFree_100 (by decide) ?_
              refine x_weaken (L1 := [(0, .ref 104), (1, .int (zN (ln))), (2, .int (zN ((((k + 1) : Nat) : Int))))]) (List.forall_mem_cons.mpr ⟨(List.Mem.tail _ (List.Mem.tail _ (List.Mem.head _))), (List.forall_mem_cons.mpr ⟨(List.Mem.tail _ (List.Mem.tail _ (List.Mem.tail _ (List.Mem.head _)))), (List.forall_mem_cons.mpr ⟨(mem_ci (by omega) (List.Mem.head _)), (fun _ h => absurd h List.not_mem_nil)⟩)⟩)⟩) ?_
              exact ih2 ((k + 1)) (by first | assumption | omega) (lt_s ha (fun w => by obtain ⟨q1, q2, q3, q4, q5, q6⟩ := w; first | omega | (rw [hth] at q5; exact absurd q5 (by decide)))) (by omega)
            · skip
              refine x_aload_n (pc := 45) dX4_isFree_45 (List.Mem.head _) ?_
              refine z_getR (pc := 46) (k := 7) (r := 108) dX4_isFree_46 lf_X4_32 sh_104 rfl rf_104_7 ?_
              refine x_iload_n (pc := 49) dX4_isFree_49 (List.Mem.tail _ (List.Mem.tail _ (List.Mem.head _))) ?_
              have rd12 := ok.1 108 k
              refine z_zald (pc := 50) (j := k) (v := H.1 108 k) dX4_isFree_50 sh_108 rfl (by omega) (by decide) rfl ?_
              refine z_if_ne (pc := 51) (tgt := 58) dX4_isFree_51 (by decide) (by omega) (by omega) (fun hb13 => ?_) (fun hb13 => ?_)
              · skip
                refine z_iconst (pc := 58) dX4_isFree_58 ?_
                refine x_istore_n (pc := 59) dX4_isFree_59 (Nat.le_of_ble_eq_true rfl) ?_
                show Ev _ _ _ _ _ [(3, .int (zN (0))), (0, .ref 104), (1, .int (zN (ln))), (2, .int (zN ((k : Int))))] _ _
                refine x_iload_n (pc := 60) dX4_isFree_60 (List.Mem.head _) ?_
                refine z_if_eq (pc := 61) (tgt := 97) dX4_isFree_61 (by decide) (by decide) (by decide) (fun _ => ?_) (fun h => absurd h (by decide))
                refine z_iinc (pc := 97) dX4_isFree_97 (List.Mem.tail _ (List.Mem.tail _ (List.Mem.tail _ (List.Mem.head _)))) (Nat.le_of_ble_eq_true rfl) ?_
                show Ev _ _ _ _ _ [(2, .int (zN ((k : Int) + 1))), (3, .int (zN (0))), (0, .ref 104), (1, .int (zN (ln)))] _ _
                refine x_goto (pc := 100) (tgt := 2) dX4_isFree_100 (by decide) ?_
                refine x_weaken (L1 := [(0, .ref 104), (1, .int (zN (ln))), (2, .int (zN ((((k + 1) : Nat) : Int))))]) (List.forall_mem_cons.mpr ⟨(List.Mem.tail _ (List.Mem.tail _ (List.Mem.head _))), (List.forall_mem_cons.mpr ⟨(List.Mem.tail _ (List.Mem.tail _ (List.Mem.tail _ (List.Mem.head _)))), (List.forall_mem_cons.mpr ⟨(mem_ci (by omega) (List.Mem.head _)), (fun _ h => absurd h List.not_mem_nil)⟩)⟩)⟩) ?_
                exact ih2 ((k + 1)) (by first | assumption | omega) (lt_s ha (fun w => by obtain ⟨q1, q2, q3, q4, q5, q6⟩ := w; first | omega | (rw [hth] at q5; exact absurd q5 (by decide)))) (by omega)
              · skip
                refine z_iconst (pc := 54) dX4_isFree_54 ?_
                refine x_goto (pc := 55) (tgt := 59) dX4_isFree_55 (by decide) ?_
                refine x_istore_n (pc := 59) dX4_isFree_59 (Nat.le_of_ble_eq_true rfl) ?_
                show Ev _ _ _ _ _ [(3, .int (zN (1))), (0, .ref 104), (1, .int (zN (ln))), (2, .int (zN ((k : Int))))] _ _
                refine x_iload_n (pc := 60) dX4_isFree_60 (List.Mem.head _) ?_
                refine z_if_eq (pc := 61) (tgt := 97) dX4_isFree_61 (by decide) (by decide) (by decide) (fun h => absurd h (by decide)) (fun _ => ?_)
                refine x_aload_n (pc := 64) dX4_isFree_64 (List.Mem.tail _ (List.Mem.head _)) ?_
                refine z_getR (pc := 65) (k := 4) (r := 105) dX4_isFree_65 lf_X4_22 sh_104 rfl rf_104_4 ?_
                refine x_iload_n (pc := 68) dX4_isFree_68 (List.Mem.tail _ (List.Mem.tail _ (List.Mem.tail _ (List.Mem.head _)))) ?_
                have rd16 := ok.1 105 k
                refine z_iald (pc := 69) (j := k) (v := H.1 105 k) dX4_isFree_69 sh_105 rfl (by omega) (by decide) rfl ?_
                refine x_aload_n (pc := 70) dX4_isFree_70 (List.Mem.tail _ (List.Mem.head _)) ?_
                refine z_getY (pc := 71) (k := 1) (r := s) dX4_isFree_71 lf_X4_42 sh_104 rfl (by rw [hsc]) (by omega) ?_
                have rd17 := ok.1 s 8
                refine z_getI (pc := 74) (k := 8) (v := H.1 s 8) dX4_isFree_74 lf_X4_158 (sh_Sc0 hs) rfl rfl ?_
                refine x_aload_n (pc := 77) dX4_isFree_77 (List.Mem.tail _ (List.Mem.head _)) ?_
                refine z_getR (pc := 78) (k := 5) (r := 106) dX4_isFree_78 lf_X4_26 sh_104 rfl rf_104_5 ?_
                refine x_iload_n (pc := 81) dX4_isFree_81 (List.Mem.tail _ (List.Mem.tail _ (List.Mem.tail _ (List.Mem.head _)))) ?_
                have rd18 := ok.1 106 k
                refine z_iald (pc := 82) (j := k) (v := H.1 106 k) dX4_isFree_82 sh_106 rfl (by omega) (by decide) rfl ?_
                refine z_imul (pc := 83) dX4_isFree_83 ?_
                refine z_icmp_gt (pc := 84) (tgt := 97) dX4_isFree_84 (by decide) (by omega) (by omega) (by omega) (by omega) (fun hb19 => ?_) (fun hb19 => ?_)
                · skip
                  refine z_iinc (pc := 97) dX4_isFree_97 (List.Mem.tail _ (List.Mem.tail _ (List.Mem.tail _ (List.Mem.head _)))) (Nat.le_of_ble_eq_true rfl) ?_
                  show Ev _ _ _ _ _ [(2, .int (zN ((k : Int) + 1))), (3, .int (zN (1))), (0, .ref 104), (1, .int (zN (ln)))] _ _
                  refine x_goto (pc := 100) (tgt := 2) dX4_isFree_100 (by decide) ?_
                  refine x_weaken (L1 := [(0, .ref 104), (1, .int (zN (ln))), (2, .int (zN ((((k + 1) : Nat) : Int))))]) (List.forall_mem_cons.mpr ⟨(List.Mem.tail _ (List.Mem.tail _ (List.Mem.head _))), (List.forall_mem_cons.mpr ⟨(List.Mem.tail _ (List.Mem.tail _ (List.Mem.tail _ (List.Mem.head _)))), (List.forall_mem_cons.mpr ⟨(mem_ci (by omega) (List.Mem.head _)), (fun _ h => absurd h List.not_mem_nil)⟩)⟩)⟩) ?_
                  exact ih2 ((k + 1)) (by first | assumption | omega) (lt_s ha (fun w => by obtain ⟨q1, q2, q3, q4, q5, q6⟩ := w; first | omega | (rw [hth] at q5; exact absurd q5 (by decide)))) (by omega)
                · skip
                  refine x_aload_n (pc := 87) dX4_isFree_87 (List.Mem.tail _ (List.Mem.head _)) ?_
                  refine x_iload_n (pc := 88) dX4_isFree_88 (List.Mem.tail _ (List.Mem.tail _ (List.Mem.tail _ (List.Mem.head _)))) ?_
                  refine z_callVbp (pc := 89) (i := mX4_isHidden) (S := []) [.int (zN ((k : Int)))] dX4_isFree_89 ml_X4_161 ok_X4_isHidden rfl sh_104 rfl (Or.inr rfl) (Nat.le_of_ble_eq_true rfl) (c_X4_isHidden (d := d) (s := s) (q := q) (N := N) (c := k) (hc := (by omega)) (ok := ok) (hs := (by first | assumption | omega)) (hsc := (by first | assumption | omega)) (ws := (by first | assumption | omega)) (rs := (by first | assumption | omega)) (wn := (by first | assumption | omega)) (rd := (by first | assumption | omega))) (fun hc22 ok21 => ?_) (fun hc22 ok21 => ?_)
                  · skip
                    have hth := hc22
                    refine z_if_ne (pc := 92) (tgt := 97) dX4_isFree_92 (by decide) (by decide) (by decide) (fun _ => ?_) (fun h => absurd h (by decide))
                    refine z_iinc (pc := 97) dX4_isFree_97 (List.Mem.tail _ (List.Mem.tail _ (List.Mem.tail _ (List.Mem.head _)))) (Nat.le_of_ble_eq_true rfl) ?_
                    show Ev _ _ _ _ _ [(2, .int (zN ((k : Int) + 1))), (3, .int (zN (1))), (0, .ref 104), (1, .int (zN (ln)))] _ _
                    refine x_goto (pc := 100) (tgt := 2) dX4_isFree_100 (by decide) ?_
                    refine x_weaken (L1 := [(0, .ref 104), (1, .int (zN (ln))), (2, .int (zN ((((k + 1) : Nat) : Int))))]) (List.forall_mem_cons.mpr ⟨(List.Mem.tail _ (List.Mem.tail _ (List.Mem.head _))), (List.forall_mem_cons.mpr ⟨(List.Mem.tail _ (List.Mem.tail _ (List.Mem.tail _ (List.Mem.head _)))), (List.forall_mem_cons.mpr ⟨(mem_ci (by omega) (List.Mem.head _)), (fun _ h => absurd h List.not_mem_nil)⟩)⟩)⟩) ?_
                    exact ih2 ((k + 1)) (by first | assumption | omega) (lt_s ha (fun w => by obtain ⟨q1, q2, q3, q4, q5, q6⟩ := w; first | omega | (rw [hth] at q5; exact absurd q5 (by decide)))) (by omega)
                  · skip
                    have htf := Bool.eq_false_iff.mpr hc22
                    refine z_if_ne (pc := 92) (tgt := 97) dX4_isFree_92 (by decide) (by decide) (by decide) (fun h => absurd h (by decide)) (fun _ => ?_)
                    refine z_iconst (pc := 95) dX4_isFree_95 ?_
                    refine z_ireturn (pc := 96) dX4_isFree_96 rfl (Or.inr ⟨rfl, by omega⟩) ok21 (by decide) (by decide) ?_
                    exact ⟨by rw [tfr_f (c := k) (by omega) ⟨by omega, by omega, by omega, by omega, htf, by omega⟩]; rfl, rfl⟩
  refine x_weaken (L1 := [(0, .ref 104), (1, .int (zN (ln))), (2, .int (zN (((0 : Nat) : Int))))]) (List.forall_mem_cons.mpr ⟨(List.Mem.tail _ (List.Mem.head _)), (List.forall_mem_cons.mpr ⟨(List.Mem.tail _ (List.Mem.tail _ (List.Mem.head _))), (List.forall_mem_cons.mpr ⟨(mem_ci (by omega) (List.Mem.head _)), (fun _ h => absurd h List.not_mem_nil)⟩)⟩)⟩) ?_
  exact lp2 ((q 1).toNat - 0 + 1) (0) (by first | assumption | omega) (fun j h => absurd h (Nat.not_lt_zero _)) (Nat.lt_succ_self _)
