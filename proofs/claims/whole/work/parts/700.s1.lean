/-! GROUP S1: spent in the class: which sets are beaten. -/
/-- set j beats set k: l what is left (with the cost), c the costs -/
def beB (l c : Nat → Int) (k j : Nat) : Bool := decide ((l j < l k ∨ (l j = l k ∧ j < k)) ∧ c j ≤ c k)

theorem c_X7_isBeaten {d : Nat} {H : ZH} (ok : okZ H) {k : Nat} (hk : k < 16) : EvC zX (d + 1) mX7_isBeaten [.ref 119, .int (zN ((k : Int)))] (eh H) (zPi (fun (rz : Int) (Hz : ZH) => rz = (if lea (beB (H.2 124) (H.1 123) k) 16 ≠ -1 then 1 else 0) ∧ Hz = H)) := by
  show _ ∧ Ev zX mX7_isBeaten (EvC zX d) (zPi (fun (rz : Int) (Hz : ZH) => rz = (if lea (beB (H.2 124) (H.1 123) k) 16 ≠ -1 then 1 else 0) ∧ Hz = H)) 0 [(0, .ref 119), (1, .int (zN ((k : Int))))] [] (eh H)
  refine ⟨Nat.le_of_ble_eq_true rfl, ?_⟩
  have lk := ok.2 124 k
  have ck := ok.1 123 k
  refine z_iconst (pc := 0) dX7_isBeaten_0 ?_
  refine x_istore_n (pc := 1) dX7_isBeaten_1 (Nat.le_of_ble_eq_true rfl) ?_
  show Ev _ _ _ _ _ [(2, .int (zN (0))), (0, .ref 119), (1, .int (zN ((k : Int))))] _ _
  have lp2 : ∀ (nF : Nat) (j : Nat), (j ≤ 16) → (∀ i, i < j → (beB (H.2 124) (H.1 123) k) i = false) → 16 - j < nF → Ev zX mX7_isBeaten (EvC zX d) (zPi (fun (rz : Int) (Hz : ZH) => rz = (if lea (beB (H.2 124) (H.1 123) k) 16 ≠ -1 then 1 else 0) ∧ Hz = H)) 2 [(0, .ref 119), (1, .int (zN ((k : Int)))), (2, .int (zN ((j : Int))))] [] (eh H) := by
    intro nF
    induction nF with
    | zero => intro j hj hno hm; exact absurd hm (Nat.not_lt_zero _)
    | succ nF ih2 =>
      intro j hj hno hm
      refine x_iload_n (pc := 2) dX7_isBeaten_2 (List.Mem.tail _ (List.Mem.tail _ (List.Mem.head _))) ?_
      refine z_bipush (pc := 3) dX7_isBeaten_3 bp_16 ?_
      refine z_icmp_ge (pc := 5) (tgt := 78) dX7_isBeaten_5 (by decide) (by omega) (by omega) (by decide) (by decide) (fun hb1 => ?_) (fun hb1 => ?_)
      · skip
        refine z_iconst (pc := 78) dX7_isBeaten_78 ?_
        refine z_ireturn (pc := 79) dX7_isBeaten_79 rfl (Or.inr ⟨rfl, by omega⟩) ok (by decide) (by decide) ?_
        have hl := lea_no (h := (beB (H.2 124) (H.1 123) k)) (n := 16) (fun i hi => hno i (by omega))
        exact ⟨by rw [hl, if_neg (fun z => z rfl)], rfl⟩
      · skip
        refine x_aload_n (pc := 8) dX7_isBeaten_8 (List.Mem.head _) ?_
        refine z_getR (pc := 9) (k := 6) (r := 124) dX7_isBeaten_9 lf_X7_29 sh_119 rfl rf_119_6 ?_
        refine x_iload_n (pc := 12) dX7_isBeaten_12 (List.Mem.tail _ (List.Mem.tail _ (List.Mem.head _))) ?_
        have rd2 := ok.2 124 j
        refine z_lald (pc := 13) (j := j) (v := H.2 124 j) dX7_isBeaten_13 sh_124 rfl (by omega) (by decide) rfl ?_
        refine x_aload_n (pc := 14) dX7_isBeaten_14 (List.Mem.head _) ?_
        refine z_getR (pc := 15) (k := 6) (r := 124) dX7_isBeaten_15 lf_X7_29 sh_119 rfl rf_119_6 ?_
        refine x_iload_n (pc := 18) dX7_isBeaten_18 (List.Mem.tail _ (List.Mem.head _)) ?_
        have rd3 := ok.2 124 k
        refine z_lald (pc := 19) (j := k) (v := H.2 124 k) dX7_isBeaten_19 sh_124 rfl (by omega) (by decide) rfl ?_
        refine z_lcmp_lt (pc := 20) (tgt := 45) dX7_isBeaten_20 dX7_isBeaten_21 (by decide) (by omega) (by omega) (by omega) (by omega) (fun hb4 => ?_) (fun hb4 => ?_)
        · skip
          refine z_iconst (pc := 45) dX7_isBeaten_45 ?_
          refine x_goto (pc := 46) (tgt := 50) dX7_isBeaten_46 (by decide) ?_
          refine x_istore_n (pc := 50) dX7_isBeaten_50 (Nat.le_of_ble_eq_true rfl) ?_
          show Ev _ _ _ _ _ [(3, .int (zN (1))), (0, .ref 119), (1, .int (zN ((k : Int)))), (2, .int (zN ((j : Int))))] _ _
          refine x_iload_n (pc := 51) dX7_isBeaten_51 (List.Mem.head _) ?_
          refine z_if_eq (pc := 52) (tgt := 72) dX7_isBeaten_52 (by decide) (by decide) (by decide) (fun h => absurd h (by decide)) (fun _ => ?_)
          refine x_aload_n (pc := 55) dX7_isBeaten_55 (List.Mem.tail _ (List.Mem.head _)) ?_
          refine z_getR (pc := 56) (k := 5) (r := 123) dX7_isBeaten_56 lf_X7_26 sh_119 rfl rf_119_5 ?_
          refine x_iload_n (pc := 59) dX7_isBeaten_59 (List.Mem.tail _ (List.Mem.tail _ (List.Mem.tail _ (List.Mem.head _)))) ?_
          have rd6 := ok.1 123 j
          refine z_iald (pc := 60) (j := j) (v := H.1 123 j) dX7_isBeaten_60 sh_123 rfl (by omega) (by decide) rfl ?_
          refine x_aload_n (pc := 61) dX7_isBeaten_61 (List.Mem.tail _ (List.Mem.head _)) ?_
          refine z_getR (pc := 62) (k := 5) (r := 123) dX7_isBeaten_62 lf_X7_26 sh_119 rfl rf_119_5 ?_
          refine x_iload_n (pc := 65) dX7_isBeaten_65 (List.Mem.tail _ (List.Mem.tail _ (List.Mem.head _))) ?_
          have rd7 := ok.1 123 k
          refine z_iald (pc := 66) (j := k) (v := H.1 123 k) dX7_isBeaten_66 sh_123 rfl (by omega) (by decide) rfl ?_
          refine z_icmp_gt (pc := 67) (tgt := 72) dX7_isBeaten_67 (by decide) (by omega) (by omega) (by omega) (by omega) (fun hb8 => ?_) (fun hb8 => ?_)
          · skip
            refine z_iinc (pc := 72) dX7_isBeaten_72 (List.Mem.tail _ (List.Mem.tail _ (List.Mem.tail _ (List.Mem.head _)))) (Nat.le_of_ble_eq_true rfl) ?_
            show Ev _ _ _ _ _ [(2, .int (zN ((j : Int) + 1))), (3, .int (zN (1))), (0, .ref 119), (1, .int (zN ((k : Int))))] _ _
            refine x_goto (pc := 75) (tgt := 2) dX7_isBeaten_75 (by decide) ?_
            refine x_weaken (L1 := [(0, .ref 119), (1, .int (zN ((k : Int)))), (2, .int (zN ((((j + 1) : Nat) : Int))))]) (List.forall_mem_cons.mpr ⟨(List.Mem.tail _ (List.Mem.tail _ (List.Mem.head _))), (List.forall_mem_cons.mpr ⟨(List.Mem.tail _ (List.Mem.tail _ (List.Mem.tail _ (List.Mem.head _)))), (List.forall_mem_cons.mpr ⟨(mem_ci (by omega) (List.Mem.head _)), (fun _ h => absurd h List.not_mem_nil)⟩)⟩)⟩) ?_
            exact ih2 ((j + 1)) (by omega) (fun i h => if z : i = j then (by rw [z]; exact decide_eq_false (by omega)) else hno i (by omega)) (by omega)
          · skip
            refine z_iconst (pc := 70) dX7_isBeaten_70 ?_
            refine z_ireturn (pc := 71) dX7_isBeaten_71 rfl (Or.inr ⟨rfl, by omega⟩) ok (by decide) (by decide) ?_
            have hl := lea_is (h := (beB (H.2 124) (H.1 123) k)) (n := 16) (k := j) (by omega) (decide_eq_true (by omega)) hno
            exact ⟨by rw [hl, if_pos (by omega)], rfl⟩
        · skip
          refine x_aload_n (pc := 24) dX7_isBeaten_24 (List.Mem.head _) ?_
          refine z_getR (pc := 25) (k := 6) (r := 124) dX7_isBeaten_25 lf_X7_29 sh_119 rfl rf_119_6 ?_
          refine x_iload_n (pc := 28) dX7_isBeaten_28 (List.Mem.tail _ (List.Mem.tail _ (List.Mem.head _))) ?_
          have rd9 := ok.2 124 j
          refine z_lald (pc := 29) (j := j) (v := H.2 124 j) dX7_isBeaten_29 sh_124 rfl (by omega) (by decide) rfl ?_
          refine x_aload_n (pc := 30) dX7_isBeaten_30 (List.Mem.head _) ?_
          refine z_getR (pc := 31) (k := 6) (r := 124) dX7_isBeaten_31 lf_X7_29 sh_119 rfl rf_119_6 ?_
          refine x_iload_n (pc := 34) dX7_isBeaten_34 (List.Mem.tail _ (List.Mem.head _)) ?_
          have rd10 := ok.2 124 k
          refine z_lald (pc := 35) (j := k) (v := H.2 124 k) dX7_isBeaten_35 sh_124 rfl (by omega) (by decide) rfl ?_
          refine z_lcmp_ne (pc := 36) (tgt := 49) dX7_isBeaten_36 dX7_isBeaten_37 (by decide) (by omega) (by omega) (by omega) (by omega) (fun hb11 => ?_) (fun hb11 => ?_)
          · skip
            refine z_iconst (pc := 49) dX7_isBeaten_49 ?_
            refine x_istore_n (pc := 50) dX7_isBeaten_50 (Nat.le_of_ble_eq_true rfl) ?_
            show Ev _ _ _ _ _ [(3, .int (zN (0))), (0, .ref 119), (1, .int (zN ((k : Int)))), (2, .int (zN ((j : Int))))] _ _
            refine x_iload_n (pc := 51) dX7_isBeaten_51 (List.Mem.head _) ?_
            refine z_if_eq (pc := 52) (tgt := 72) dX7_isBeaten_52 (by decide) (by decide) (by decide) (fun _ => ?_) (fun h => absurd h (by decide))
            refine z_iinc (pc := 72) dX7_isBeaten_72 (List.Mem.tail _ (List.Mem.tail _ (List.Mem.tail _ (List.Mem.head _)))) (Nat.le_of_ble_eq_true rfl) ?_
            show Ev _ _ _ _ _ [(2, .int (zN ((j : Int) + 1))), (3, .int (zN (0))), (0, .ref 119), (1, .int (zN ((k : Int))))] _ _
            refine x_goto (pc := 75) (tgt := 2) dX7_isBeaten_75 (by decide) ?_
            refine x_weaken (L1 := [(0, .ref 119), (1, .int (zN ((k : Int)))), (2, .int (zN ((((j + 1) : Nat) : Int))))]) (List.forall_mem_cons.mpr ⟨(List.Mem.tail _ (List.Mem.tail _ (List.Mem.head _))), (List.forall_mem_cons.mpr ⟨(List.Mem.tail _ (List.Mem.tail _ (List.Mem.tail _ (List.Mem.head _)))), (List.forall_mem_cons.mpr ⟨(mem_ci (by omega) (List.Mem.head _)), (fun _ h => absurd h List.not_mem_nil)⟩)⟩)⟩) ?_
            exact ih2 ((j + 1)) (by omega) (fun i h => if z : i = j then (by rw [z]; exact decide_eq_false (by omega)) else hno i (by omega)) (by omega)
          · skip
            refine x_iload_n (pc := 40) dX7_isBeaten_40 (List.Mem.tail _ (List.Mem.tail _ (List.Mem.head _))) ?_
            refine x_iload_n (pc := 41) dX7_isBeaten_41 (List.Mem.tail _ (List.Mem.head _)) ?_
            refine z_icmp_ge (pc := 42) (tgt := 49) dX7_isBeaten_42 (by decide) (by omega) (by omega) (by omega) (by omega) (fun hb13 => ?_) (fun hb13 => ?_)
            · skip
              refine z_iconst (pc := 49) dX7_isBeaten_49 ?_
              refine x_istore_n (pc := 50) dX7_isBeaten_50 (Nat.le_of_ble_eq_true rfl) ?_
              show Ev _ _ _ _ _ [(3, .int (zN (0))), (0, .ref 119), (1, .int (zN ((k : Int)))), (2, .int (zN ((j : Int))))] _ _
              refine x_iload_n (pc := 51) dX7_isBeaten_51 (List.Mem.head _) ?_
              refine z_if_eq (pc := 52) (tgt := 72) dX7_isBeaten_52 (by decide) (by decide) (by decide) (fun _ => ?_) (fun h => absurd h (by decide))
              refine z_iinc (pc := 72) dX7_isBeaten_72 (List.Mem.tail _ (List.Mem.tail _ (List.Mem.tail _ (List.Mem.head _)))) (Nat.le_of_ble_eq_true rfl) ?_
              show Ev _ _ _ _ _ [(2, .int (zN ((j : Int) + 1))), (3, .int (zN (0))), (0, .ref 119), (1, .int (zN ((k : Int))))] _ _
              refine x_goto (pc := 75) (tgt := 2) dX7_isBeaten_75 (by decide) ?_
              refine x_weaken (L1 := [(0, .ref 119), (1, .int (zN ((k : Int)))), (2, .int (zN ((((j + 1) : Nat) : Int))))]) (List.forall_mem_cons.mpr ⟨(List.Mem.tail _ (List.Mem.tail _ (List.Mem.head _))), (List.forall_mem_cons.mpr ⟨(List.Mem.tail _ (List.Mem.tail _ (List.Mem.tail _ (List.Mem.head _)))), (List.forall_mem_cons.mpr ⟨(mem_ci (by omega) (List.Mem.head _)), (fun _ h => absurd h List.not_mem_nil)⟩)⟩)⟩) ?_
              exact ih2 ((j + 1)) (by omega) (fun i h => if z : i = j then (by rw [z]; exact decide_eq_false (by omega)) else hno i (by omega)) (by omega)
            · skip
              refine z_iconst (pc := 45) dX7_isBeaten_45 ?_
              refine x_goto (pc := 46) (tgt := 50) dX7_isBeaten_46 (by decide) ?_
              refine x_istore_n (pc := 50) dX7_isBeaten_50 (Nat.le_of_ble_eq_true rfl) ?_
              show Ev _ _ _ _ _ [(3, .int (zN (1))), (0, .ref 119), (1, .int (zN ((k : Int)))), (2, .int (zN ((j : Int))))] _ _
              refine x_iload_n (pc := 51) dX7_isBeaten_51 (List.Mem.head _) ?_
              refine z_if_eq (pc := 52) (tgt := 72) dX7_isBeaten_52 (by decide) (by decide) (by decide) (fun h => absurd h (by decide)) (fun _ => ?_)
              refine x_aload_n (pc := 55) dX7_isBeaten_55 (List.Mem.tail _ (List.Mem.head _)) ?_
              refine z_getR (pc := 56) (k := 5) (r := 123) dX7_isBeaten_56 lf_X7_26 sh_119 rfl rf_119_5 ?_
              refine x_iload_n (pc := 59) dX7_isBeaten_59 (List.Mem.tail _ (List.Mem.tail _ (List.Mem.tail _ (List.Mem.head _)))) ?_
              have rd16 := ok.1 123 j
              refine z_iald (pc := 60) (j := j) (v := H.1 123 j) dX7_isBeaten_60 sh_123 rfl (by omega) (by decide) rfl ?_
              refine x_aload_n (pc := 61) dX7_isBeaten_61 (List.Mem.tail _ (List.Mem.head _)) ?_
              refine z_getR (pc := 62) (k := 5) (r := 123) dX7_isBeaten_62 lf_X7_26 sh_119 rfl rf_119_5 ?_
              refine x_iload_n (pc := 65) dX7_isBeaten_65 (List.Mem.tail _ (List.Mem.tail _ (List.Mem.head _))) ?_
              have rd17 := ok.1 123 k
              refine z_iald (pc := 66) (j := k) (v := H.1 123 k) dX7_isBeaten_66 sh_123 rfl (by omega) (by decide) rfl ?_
              refine z_icmp_gt (pc := 67) (tgt := 72) dX7_isBeaten_67 (by decide) (by omega) (by omega) (by omega) (by omega) (fun hb18 => ?_) (fun hb18 => ?_)
              · skip
                refine z_iinc (pc := 72) dX7_isBeaten_72 (List.Mem.tail _ (List.Mem.tail _ (List.Mem.tail _ (List.Mem.head _)))) (Nat.le_of_ble_eq_true rfl) ?_
                show Ev _ _ _ _ _ [(2, .int (zN ((j : Int) + 1))), (3, .int (zN (1))), (0, .ref 119), (1, .int (zN ((k : Int))))] _ _
                refine x_goto (pc := 75) (tgt := 2) dX7_isBeaten_75 (by decide) ?_
                refine x_weaken (L1 := [(0, .ref 119), (1, .int (zN ((k : Int)))), (2, .int (zN ((((j + 1) : Nat) : Int))))]) (List.forall_mem_cons.mpr ⟨(List.Mem.tail _ (List.Mem.tail _ (List.Mem.head _))), (List.forall_mem_cons.mpr ⟨(List.Mem.tail _ (List.Mem.tail _ (List.Mem.tail _ (List.Mem.head _)))), (List.forall_mem_cons.mpr ⟨(mem_ci (by omega) (List.Mem.head _)), (fun _ h => absurd h List.not_mem_nil)⟩)⟩)⟩) ?_
                exact ih2 ((j + 1)) (by omega) (fun i h => if z : i = j then (by rw [z]; exact decide_eq_false (by omega)) else hno i (by omega)) (by omega)
              · skip
                refine z_iconst (pc := 70) dX7_isBeaten_70 ?_
                refine z_ireturn (pc := 71) dX7_isBeaten_71 rfl (Or.inr ⟨rfl, by omega⟩) ok (by decide) (by decide) ?_
                have hl := lea_is (h := (beB (H.2 124) (H.1 123) k)) (n := 16) (k := j) (by omega) (decide_eq_true (by omega)) hno
                exact ⟨by rw [hl, if_pos (by omega)], rfl⟩
  refine x_weaken (L1 := [(0, .ref 119), (1, .int (zN ((k : Int)))), (2, .int (zN (((0 : Nat) : Int))))]) (List.forall_mem_cons.mpr ⟨(List.Mem.tail _ (List.Mem.head _)), (List.forall_mem_cons.mpr ⟨(List.Mem.tail _ (List.Mem.tail _ (List.Mem.head _))), (List.forall_mem_cons.mpr ⟨(mem_ci (by omega) (List.Mem.head _)), (fun _ h => absurd h List.not_mem_nil)⟩)⟩)⟩) ?_
  exact lp2 (16 - 0 + 1) (0) (by omega) (fun i h => absurd h (Nat.not_lt_zero _)) (Nat.lt_succ_self _)
