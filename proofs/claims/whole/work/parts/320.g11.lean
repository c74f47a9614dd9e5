/-! GROUP G11: by how many a driver stops, in the class. -/

theorem c_X4_percentFor {d : Nat} {H : ZH} (ok : okZ H) {s : Nat} {q N : Nat → Int} {c : Nat} (hc : (c : Int) < q 1) (hs : isSc s) (hsc : H.1 104 1 = (s : Int)) (ws : WFS q) (rs : RepSc H s q) (wn : WFN q N) (rd : RepRd H q N) (rl : RepLw H q) (wl : WFL q) : EvC zX (d + 3) mX4_percentFor [.ref 104, .int (zN ((c : Int)))] (eh H) (zPi (fun (rz : Int) (Hz : ZH) => rz = (tsp q N (H.1 104 3) c (q 40).toNat 0) ∧ Hz = H)) := by
  show _ ∧ Ev zX mX4_percentFor (EvC zX (d + 2)) (zPi (fun (rz : Int) (Hz : ZH) => rz = (tsp q N (H.1 104 3) c (q 40).toNat 0) ∧ Hz = H)) 0 [(0, .ref 104), (1, .int (zN ((c : Int))))] [] (eh H)
  refine ⟨Nat.le_of_ble_eq_true rfl, ?_⟩
  have hsr := isSc_r hs
  have wsx := ws
  obtain ⟨ws0, ws1, wsC, ws34, ws35, ws36, ws37, ws38, ws39⟩ := wsx
  have rsx := rs
  obtain ⟨rs0, rs1, rsC, rs34, rs35, rs36, rs37, rs38, rs39⟩ := rsx
  have wnx := wn
  obtain ⟨wnC, wn32, wn33, wn34, wn35, wn36, wn37, wn38, wn39⟩ := wnx
  have rdx := rd
  obtain ⟨rdC, rd10, rd11, rd12, rd13, rd14, rd15, rd16, rd17⟩ := rdx
  have wk_c := wsC c (by omega)
  have vk_c := wnC c (by omega)
  have sk_c := rsC c (by omega)
  have dk_c := rdC c (by omega)
  have wl40 := wl.1
  have rl0 := rl.1
  have sk3 := ok.1 104 3
  refine z_iconst (pc := 0) dX4_percentFor_0 ?_
  refine x_istore_n (pc := 1) dX4_percentFor_1 (Nat.le_of_ble_eq_true rfl) ?_
  show Ev _ _ _ _ _ [(2, .int (zN (0))), (0, .ref 104), (1, .int (zN ((c : Int))))] _ _
  refine z_iconst (pc := 2) dX4_percentFor_2 ?_
  refine x_istore_n (pc := 3) dX4_percentFor_3 (Nat.le_of_ble_eq_true rfl) ?_
  show Ev _ _ _ _ _ [(3, .int (zN (0))), (2, .int (zN (0))), (0, .ref 104), (1, .int (zN ((c : Int))))] _ _
  have lp4 : ∀ (nF : Nat) (p : Nat) (l : Nat), ((l : Int) ≤ q 40) → ((l : Int) < q 40 → (p : Int) = q (53 + l)) → (tsp q N (H.1 104 3) c (q 40).toNat 0 = tsp q N (H.1 104 3) c ((q 40).toNat - l) l) → (q 40).toNat - l < nF → Ev zX mX4_percentFor (EvC zX (d + 2)) (zPi (fun (rz : Int) (Hz : ZH) => rz = (tsp q N (H.1 104 3) c (q 40).toNat 0) ∧ Hz = H)) 4 [(0, .ref 104), (1, .int (zN ((c : Int)))), (2, .int (zN ((p : Int)))), (3, .int (zN ((l : Int))))] [] (eh H) := by
    intro nF
    induction nF with
    | zero => intro p l hl hp hz hm; exact absurd hm (Nat.not_lt_zero _)
    | succ nF ih4 =>
      intro p l hl hp hz hm
      refine x_iload_n (pc := 4) dX4_percentFor_4 (List.Mem.tail _ (List.Mem.tail _ (List.Mem.tail _ (List.Mem.head _)))) ?_
      refine x_aload_n (pc := 5) dX4_percentFor_5 (List.Mem.head _) ?_
      refine z_getR (pc := 6) (k := 2) (r := 59) dX4_percentFor_6 lf_X4_46 sh_104 rfl rf_104_2 ?_
      refine z_getI (pc := 9) (k := 0) (v := (q 40)) dX4_percentFor_9 lf_X4_121 sh_59 rfl (by rw [rl0]) ?_
      refine z_icmp_ge (pc := 12) (tgt := 137) dX4_percentFor_12 (by decide) (by omega) (by omega) (by omega) (by omega) (fun hb1 => ?_) (fun hb1 => ?_)
      · skip
        refine z_iconst (pc := 137) dX4_percentFor_137 ?_
        refine z_ireturn (pc := 138) dX4_percentFor_138 rfl (Or.inl rfl) ok (by decide) (by decide) ?_
        exact ⟨by rw [hz, show (q 40).toNat - l = 0 by omega]; rfl, rfl⟩
      · skip
        have hpe := hp (by omega)
        have fe : (q (53 + l)).toNat = p := by omega
        have lk := rl.2 l (by omega)
        obtain ⟨wlS, wlF, wlP, wlD, wlN⟩ := wl.2 l (by omega)
        rw [fe] at wlD wlN
        refine z_iconst (pc := 15) dX4_percentFor_15 ?_
        refine x_istore (pc := 16) dX4_percentFor_16 (Nat.le_of_ble_eq_true rfl) ?_
        show Ev _ _ _ _ _ [(4, .int (zN (0))), (0, .ref 104), (1, .int (zN ((c : Int)))), (2, .int (zN ((p : Int)))), (3, .int (zN ((l : Int))))] _ _
        have lp18 : ∀ (nF : Nat) (n : Nat), (n ≤ (q (65 + l) - q (53 + l)).toNat) → (q (65 + l) - q (53 + l)).toNat - n < nF → Ev zX mX4_percentFor (EvC zX (d + 2)) (zPi (fun (rz : Int) (Hz : ZH) => rz = (tsp q N (H.1 104 3) c (q 40).toNat 0) ∧ Hz = H)) 18 [(0, .ref 104), (1, .int (zN ((c : Int)))), (2, .int (zN (((p + n : Nat) : Int)))), (3, .int (zN ((l : Int)))), (4, .int (zN (((bst (rrun q N c p n) : Nat) : Int))))] [] (eh H) := by
          intro nF
          induction nF with
          | zero => intro n hn hm; exact absurd hm (Nat.not_lt_zero _)
          | succ nF ih18 =>
            intro n hn hm
            have hlen : (((rrun q N c p n).length : Nat) : Int) = rdep q p n := rrun_len (fun m hm => ⟨(wlN m (by omega)).2.1, (wlN m (by omega)).2.2.1⟩)
            refine x_iload_n (pc := 18) dX4_percentFor_18 (List.Mem.tail _ (List.Mem.tail _ (List.Mem.head _))) ?_
            refine x_aload_n (pc := 19) dX4_percentFor_19 (List.Mem.head _) ?_
            refine z_getR (pc := 20) (k := 2) (r := 59) dX4_percentFor_20 lf_X4_46 sh_104 rfl rf_104_2 ?_
            refine z_getR (pc := 23) (k := 2) (r := 61) dX4_percentFor_23 lf_X4_126 sh_59 rfl rf_59_2 ?_
            refine x_iload_n (pc := 26) dX4_percentFor_26 (List.Mem.tail _ (List.Mem.tail _ (List.Mem.tail _ (List.Mem.head _)))) ?_
            refine z_iald (pc := 27) (j := l) (v := (q (65 + l))) dX4_percentFor_27 sh_61 rfl (by omega) (by decide) (by rw [lk.2.1]) ?_
            refine z_icmp_ge (pc := 28) (tgt := 106) dX4_percentFor_28 (by decide) (by omega) (by omega) (by omega) (by omega) (fun hb2 => ?_) (fun hb2 => ?_)
            · skip
              have en : n = (q (65 + l) - q (53 + l)).toNat := by omega
              obtain ⟨b, t, est⟩ := len1 (st := (rrun q N c p n)) (by rw [hlen, en]; omega)
              have ets : tso q N l c = b := by unfold tso; rw [← en, fe, est]
              have hb2 : bst (rrun q N c p n) % 2 = (if b then 1 else 0) := by rw [est]; exact (bst_half b t).2
              refine x_iload_n (pc := 106) dX4_percentFor_106 (List.Mem.tail _ (List.Mem.tail _ (List.Mem.tail _ (List.Mem.head _)))) ?_
              refine x_aload_n (pc := 107) dX4_percentFor_107 (List.Mem.head _) ?_
              have rd3 := ok.1 104 3
              refine z_getI (pc := 108) (k := 3) (v := H.1 104 3) dX4_percentFor_108 lf_X4_18 sh_104 rfl rfl ?_
              refine z_icmp_eq (pc := 111) (tgt := 131) dX4_percentFor_111 (by decide) (by omega) (by omega) (by omega) (by omega) (fun hb4 => ?_) (fun hb4 => ?_)
              · skip
                refine z_iinc (pc := 131) dX4_percentFor_131 (List.Mem.tail _ (List.Mem.tail _ (List.Mem.tail _ (List.Mem.head _)))) (Nat.le_of_ble_eq_true rfl) ?_
                show Ev _ _ _ _ _ [(3, .int (zN ((l : Int) + 1))), (0, .ref 104), (1, .int (zN ((c : Int)))), (2, .int (zN (((p + n : Nat) : Int)))), (4, .int (zN (((bst (rrun q N c p n) : Nat) : Int))))] _ _
                refine x_goto (pc := 134) (tgt := 4) dX4_percentFor_134 (by decide) ?_
                refine x_weaken (L1 := [(0, .ref 104), (1, .int (zN ((c : Int)))), (2, .int (zN ((((p + n) : Nat) : Int)))), (3, .int (zN ((((l + 1) : Nat) : Int))))]) (List.forall_mem_cons.mpr ⟨(List.Mem.tail _ (List.Mem.head _)), (List.forall_mem_cons.mpr ⟨(List.Mem.tail _ (List.Mem.tail _ (List.Mem.head _))), (List.forall_mem_cons.mpr ⟨(mem_ci (by omega) (List.Mem.tail _ (List.Mem.tail _ (List.Mem.tail _ (List.Mem.head _))))), (List.forall_mem_cons.mpr ⟨(mem_ci (by omega) (List.Mem.head _)), (fun _ h => absurd h List.not_mem_nil)⟩)⟩)⟩)⟩) ?_
                exact ih4 ((p + n)) ((l + 1)) (by first | assumption | omega) (fun hz => by have := (wl.2 (l + 1) hz).2.2.1; rw [if_neg (by omega), show l + 1 - 1 = l by omega] at this; omega) (by rw [hz, show (q 40).toNat - l = ((q 40).toNat - (l + 1)) + 1 by omega]; exact if_neg (fun q => by first | exact q.1 (by omega) | (rw [hTf] at q; exact absurd q.2 (by decide)))) (by omega)
              · skip
                refine x_iload (pc := 114) dX4_percentFor_114 (List.Mem.tail _ (List.Mem.tail _ (List.Mem.tail _ (List.Mem.tail _ (List.Mem.head _))))) ?_
                refine z_iconst (pc := 116) dX4_percentFor_116 ?_
                refine z_iand1 (pc := 117) dX4_percentFor_117 ?_
                refine z_if_eq (pc := 118) (tgt := 131) dX4_percentFor_118 (by decide) (by omega) (by omega) (fun hb5 => ?_) (fun hb5 => ?_)
                · skip
                  have hTf : tso q N l c = false := by
                    rw [ets]
                    cases b
                    · rfl
                    · exfalso
                      rw [if_pos rfl] at hb2
                      omega
                  refine z_iinc (pc := 131) dX4_percentFor_131 (List.Mem.tail _ (List.Mem.tail _ (List.Mem.tail _ (List.Mem.head _)))) (Nat.le_of_ble_eq_true rfl) ?_
                  show Ev _ _ _ _ _ [(3, .int (zN ((l : Int) + 1))), (0, .ref 104), (1, .int (zN ((c : Int)))), (2, .int (zN (((p + n : Nat) : Int)))), (4, .int (zN (((bst (rrun q N c p n) : Nat) : Int))))] _ _
                  refine x_goto (pc := 134) (tgt := 4) dX4_percentFor_134 (by decide) ?_
                  refine x_weaken (L1 := [(0, .ref 104), (1, .int (zN ((c : Int)))), (2, .int (zN ((((p + n) : Nat) : Int)))), (3, .int (zN ((((l + 1) : Nat) : Int))))]) (List.forall_mem_cons.mpr ⟨(List.Mem.tail _ (List.Mem.head _)), (List.forall_mem_cons.mpr ⟨(List.Mem.tail _ (List.Mem.tail _ (List.Mem.head _))), (List.forall_mem_cons.mpr ⟨(mem_ci (by omega) (List.Mem.tail _ (List.Mem.tail _ (List.Mem.tail _ (List.Mem.head _))))), (List.forall_mem_cons.mpr ⟨(mem_ci (by omega) (List.Mem.head _)), (fun _ h => absurd h List.not_mem_nil)⟩)⟩)⟩)⟩) ?_
                  exact ih4 ((p + n)) ((l + 1)) (by first | assumption | omega) (fun hz => by have := (wl.2 (l + 1) hz).2.2.1; rw [if_neg (by omega), show l + 1 - 1 = l by omega] at this; omega) (by rw [hz, show (q 40).toNat - l = ((q 40).toNat - (l + 1)) + 1 by omega]; exact if_neg (fun q => by first | exact q.1 (by omega) | (rw [hTf] at q; exact absurd q.2 (by decide)))) (by omega)
                · skip
                  have hTt : tso q N l c = true := by
                    rw [ets]
                    cases b
                    · exfalso
                      rw [if_neg (by decide)] at hb2
                      omega
                    · rfl
                  refine x_aload_n (pc := 121) dX4_percentFor_121 (List.Mem.head _) ?_
                  refine z_getR (pc := 122) (k := 2) (r := 59) dX4_percentFor_122 lf_X4_46 sh_104 rfl rf_104_2 ?_
                  refine z_getR (pc := 125) (k := 1) (r := 60) dX4_percentFor_125 lf_X4_140 sh_59 rfl rf_59_1 ?_
                  refine x_iload_n (pc := 128) dX4_percentFor_128 (List.Mem.tail _ (List.Mem.tail _ (List.Mem.tail _ (List.Mem.head _)))) ?_
                  refine z_iald (pc := 129) (j := l) (v := (q (41 + l))) dX4_percentFor_129 sh_60 rfl (by omega) (by decide) (by rw [lk.1]) ?_
                  refine z_ireturn (pc := 130) dX4_percentFor_130 rfl (Or.inl rfl) ok (by omega) (by omega) ?_
                  exact ⟨by rw [hz, show (q 40).toNat - l = ((q 40).toNat - (l + 1)) + 1 by omega]; exact (if_pos ⟨by omega, hTt⟩).symm, rfl⟩
            · skip
              obtain ⟨wn1, wn2, wn3, wn4, wn5⟩ := wlN n (by omega)
              have lkw := lk.2.2 (p + n) (by omega)
              obtain ⟨z, hz0⟩ : ∃ z : Int, z = (wordOf (q (77 + 2 * (p + n))) : Int) * 1000 + q (78 + 2 * (p + n)) := ⟨_, rfl⟩
              rw [← hz0] at lkw
              have ww := wordOf_le (q (77 + 2 * (p + n)))
              have hbd : bst (rrun q N c p n) < 1073741824 := Nat.lt_of_lt_of_le (bst_bd (rrun q N c p n)) (show 2 ^ (rrun q N c p n).length ≤ 2 ^ 30 from Nat.pow_le_pow_right (by decide) (by omega))
              have hst := bst_step (N := N) (c := c) (st := (rrun q N c p n)) wn4 (fun h => by have := wn2 h; omega) (fun h => by have := wn3 h; omega)
              have em : z % 1000 = q (78 + 2 * (p + n)) := by omega
              refine x_aload_n (pc := 31) dX4_percentFor_31 (List.Mem.head _) ?_
              refine z_getR (pc := 32) (k := 2) (r := 59) dX4_percentFor_32 lf_X4_46 sh_104 rfl rf_104_2 ?_
              refine z_getR (pc := 35) (k := 3) (r := 62) dX4_percentFor_35 lf_X4_129 sh_59 rfl rf_59_3 ?_
              refine x_iload_n (pc := 38) dX4_percentFor_38 (List.Mem.tail _ (List.Mem.tail _ (List.Mem.head _))) ?_
              refine z_iald (pc := 39) (j := (p + n)) (v := z) dX4_percentFor_39 sh_62 (by omega) (by omega) (by decide) (by rw [lkw]) ?_
              refine z_sipush (pc := 40) dX4_percentFor_40 sp_1000 ?_
              refine z_idivP (pc := 43) dX4_percentFor_43 (by omega) (by omega) (by omega) (by omega) ?_
              refine x_istore (pc := 44) dX4_percentFor_44 (Nat.le_of_ble_eq_true rfl) ?_
              show Ev _ _ _ _ _ [(5, .int (zN ((z / 1000)))), (0, .ref 104), (1, .int (zN ((c : Int)))), (2, .int (zN (((p + n : Nat) : Int)))), (3, .int (zN ((l : Int)))), (4, .int (zN (((bst (rrun q N c p n) : Nat) : Int))))] _ _
              refine x_iload (pc := 46) dX4_percentFor_46 (List.Mem.head _) ?_
              refine z_bipush (pc := 48) dX4_percentFor_48 bp_16 ?_
              refine z_icmp_lt (pc := 50) (tgt := 65) dX4_percentFor_50 (by decide) (by omega) (by omega) (by decide) (by decide) (fun hb6 => ?_) (fun hb6 => ?_)
              · skip
                refine x_iload (pc := 65) dX4_percentFor_65 (List.Mem.tail _ (List.Mem.tail _ (List.Mem.tail _ (List.Mem.tail _ (List.Mem.tail _ (List.Mem.head _)))))) ?_
                refine z_iconst (pc := 67) dX4_percentFor_67 ?_
                refine z_ishl (pc := 68) (k := 1) dX4_percentFor_68 rfl (by omega) ?_
                refine x_aload_n (pc := 69) dX4_percentFor_69 (List.Mem.tail _ (List.Mem.head _)) ?_
                refine x_iload (pc := 70) dX4_percentFor_70 (List.Mem.head _) ?_
                refine x_aload_n (pc := 72) dX4_percentFor_72 (List.Mem.tail _ (List.Mem.head _)) ?_
                refine z_getR (pc := 73) (k := 2) (r := 59) dX4_percentFor_73 lf_X4_46 sh_104 rfl rf_104_2 ?_
                refine z_getR (pc := 76) (k := 3) (r := 62) dX4_percentFor_76 lf_X4_129 sh_59 rfl rf_59_3 ?_
                refine x_iload_n (pc := 79) dX4_percentFor_79 (List.Mem.tail _ (List.Mem.tail _ (List.Mem.tail _ (List.Mem.head _)))) ?_
                refine z_iald (pc := 80) (j := (p + n)) (v := z) dX4_percentFor_80 sh_62 (by omega) (by omega) (by decide) (by rw [lkw]) ?_
                refine z_sipush (pc := 81) dX4_percentFor_81 sp_1000 ?_
                refine z_iremP (pc := 84) dX4_percentFor_84 (by omega) (by omega) (by omega) (by omega) ?_
                refine x_iload_n (pc := 85) dX4_percentFor_85 (List.Mem.tail _ (List.Mem.tail _ (List.Mem.head _))) ?_
                refine z_callVbp (pc := 86) (i := mX4_isFact) (S := [.int (zN ((((bst (rrun q N c p n) : Nat) : Int) * 2 ^ (1))))]) [.int (zN ((z / 1000))), .int (zN ((z % 1000))), .int (zN ((c : Int)))] dX4_percentFor_86 ml_X4_136 ok_X4_isFact rfl sh_104 rfl (Or.inr rfl) (Nat.le_of_ble_eq_true rfl) (by have qz := c_X4_isFact (d := d) (s := s) (q := q) (N := N) (w := (wordOf (q (77 + 2 * (p + n))))) (c := c) (hw := (by omega)) (hc := (by omega)) (n := ((z % 1000))) (n1 := (by omega)) (n2 := (by omega)) (ok := ok) (hs := (by first | assumption | omega)) (hsc := (by first | assumption | omega)) (ws := (by first | assumption | omega)) (rs := (by first | assumption | omega)) (wn := (by first | assumption | omega)) (rd := (by first | assumption | omega)); rw [show (((wordOf (q (77 + 2 * (p + n)))) : Nat) : Int) = (z / 1000) by omega] at qz; exact qz) (fun hc9 ok8 => ?_) (fun hc9 ok8 => ?_)
                · skip
                  have hft := hc9
                  rw [em] at hft
                  have hJ : bst (rrun q N c p n) * 2 ^ 1 ||| 1 = bst (rrun q N c p (n + 1)) := by rw [show rrun q N c p (n + 1) = rstep q N c (p + n) (rrun q N c p n) from rfl, hst, if_neg (by omega), if_pos hft]
                  refine z_if_eq (pc := 89) (tgt := 96) dX4_percentFor_89 (by decide) (by decide) (by decide) (fun h => absurd h (by decide)) (fun _ => ?_)
                  refine z_iconst (pc := 92) dX4_percentFor_92 ?_
                  refine x_goto (pc := 93) (tgt := 97) dX4_percentFor_93 (by decide) ?_
                  refine z_ior (pc := 97) (m := ((bst (rrun q N c p n)) * 2 ^ (1))) (n := 1) dX4_percentFor_97 (by omega) rfl ?_
                  refine x_istore (pc := 98) dX4_percentFor_98 (Nat.le_of_ble_eq_true rfl) ?_
                  show Ev _ _ _ _ _ [(4, .int (zN ((((((bst (rrun q N c p n)) * 2 ^ (1))) ||| (1) : Nat) : Int)))), (5, .int (zN ((z / 1000)))), (0, .ref 104), (1, .int (zN ((c : Int)))), (2, .int (zN (((p + n : Nat) : Int)))), (3, .int (zN ((l : Int))))] _ _
                  refine z_iinc (pc := 100) dX4_percentFor_100 (List.Mem.tail _ (List.Mem.tail _ (List.Mem.tail _ (List.Mem.tail _ (List.Mem.head _))))) (Nat.le_of_ble_eq_true rfl) ?_
                  show Ev _ _ _ _ _ [(2, .int (zN (((p + n : Nat) : Int) + 1))), (4, .int (zN ((((((bst (rrun q N c p n)) * 2 ^ (1))) ||| (1) : Nat) : Int)))), (5, .int (zN ((z / 1000)))), (0, .ref 104), (1, .int (zN ((c : Int)))), (3, .int (zN ((l : Int))))] _ _
                  refine x_goto (pc := 103) (tgt := 18) dX4_percentFor_103 (by decide) ?_
                  refine x_weaken (L1 := [(0, .ref 104), (1, .int (zN ((c : Int)))), (2, .int (zN (((p + (n + 1) : Nat) : Int)))), (3, .int (zN ((l : Int)))), (4, .int (zN (((bst (rrun q N c p (n + 1)) : Nat) : Int))))]) (List.forall_mem_cons.mpr ⟨(List.Mem.tail _ (List.Mem.tail _ (List.Mem.tail _ (List.Mem.head _)))), (List.forall_mem_cons.mpr ⟨(List.Mem.tail _ (List.Mem.tail _ (List.Mem.tail _ (List.Mem.tail _ (List.Mem.head _))))), (List.forall_mem_cons.mpr ⟨(mem_ci (by omega) (List.Mem.head _)), (List.forall_mem_cons.mpr ⟨(List.Mem.tail _ (List.Mem.tail _ (List.Mem.tail _ (List.Mem.tail _ (List.Mem.tail _ (List.Mem.head _)))))), (List.forall_mem_cons.mpr ⟨(mem_ci (congrArg (fun x : Nat => (x : Int)) hJ.symm) (List.Mem.tail _ (List.Mem.head _))), (fun _ h => absurd h List.not_mem_nil)⟩)⟩)⟩)⟩)⟩) ?_
                  exact ih18 ((n + 1)) (by omega) (by omega)
                · skip
                  have hft := hc9
                  rw [em] at hft
                  have hJ : bst (rrun q N c p n) * 2 ^ 1 ||| 0 = bst (rrun q N c p (n + 1)) := by rw [show rrun q N c p (n + 1) = rstep q N c (p + n) (rrun q N c p n) from rfl, hst, if_neg (by omega), if_neg hft]
                  refine z_if_eq (pc := 89) (tgt := 96) dX4_percentFor_89 (by decide) (by decide) (by decide) (fun _ => ?_) (fun h => absurd h (by decide))
                  refine z_iconst (pc := 96) dX4_percentFor_96 ?_
                  refine z_ior (pc := 97) (m := ((bst (rrun q N c p n)) * 2 ^ (1))) (n := 0) dX4_percentFor_97 (by omega) rfl ?_
                  refine x_istore (pc := 98) dX4_percentFor_98 (Nat.le_of_ble_eq_true rfl) ?_
                  show Ev _ _ _ _ _ [(4, .int (zN ((((((bst (rrun q N c p n)) * 2 ^ (1))) ||| (0) : Nat) : Int)))), (5, .int (zN ((z / 1000)))), (0, .ref 104), (1, .int (zN ((c : Int)))), (2, .int (zN (((p + n : Nat) : Int)))), (3, .int (zN ((l : Int))))] _ _
                  refine z_iinc (pc := 100) dX4_percentFor_100 (List.Mem.tail _ (List.Mem.tail _ (List.Mem.tail _ (List.Mem.tail _ (List.Mem.head _))))) (Nat.le_of_ble_eq_true rfl) ?_
                  show Ev _ _ _ _ _ [(2, .int (zN (((p + n : Nat) : Int) + 1))), (4, .int (zN ((((((bst (rrun q N c p n)) * 2 ^ (1))) ||| (0) : Nat) : Int)))), (5, .int (zN ((z / 1000)))), (0, .ref 104), (1, .int (zN ((c : Int)))), (3, .int (zN ((l : Int))))] _ _
                  refine x_goto (pc := 103) (tgt := 18) dX4_percentFor_103 (by decide) ?_
                  refine x_weaken (L1 := [(0, .ref 104), (1, .int (zN ((c : Int)))), (2, .int (zN (((p + (n + 1) : Nat) : Int)))), (3, .int (zN ((l : Int)))), (4, .int (zN (((bst (rrun q N c p (n + 1)) : Nat) : Int))))]) (List.forall_mem_cons.mpr ⟨(List.Mem.tail _ (List.Mem.tail _ (List.Mem.tail _ (List.Mem.head _)))), (List.forall_mem_cons.mpr ⟨(List.Mem.tail _ (List.Mem.tail _ (List.Mem.tail _ (List.Mem.tail _ (List.Mem.head _))))), (List.forall_mem_cons.mpr ⟨(mem_ci (by omega) (List.Mem.head _)), (List.forall_mem_cons.mpr ⟨(List.Mem.tail _ (List.Mem.tail _ (List.Mem.tail _ (List.Mem.tail _ (List.Mem.tail _ (List.Mem.head _)))))), (List.forall_mem_cons.mpr ⟨(mem_ci (congrArg (fun x : Nat => (x : Int)) hJ.symm) (List.Mem.tail _ (List.Mem.head _))), (fun _ h => absurd h List.not_mem_nil)⟩)⟩)⟩)⟩)⟩) ?_
                  exact ih18 ((n + 1)) (by omega) (by omega)
              · skip
                have hw3 : wordOf (q (77 + 2 * (p + n))) = 16 ∨ wordOf (q (77 + 2 * (p + n))) = 17 ∨ wordOf (q (77 + 2 * (p + n))) = 18 := by omega
                refine x_iload (pc := 53) dX4_percentFor_53 (List.Mem.tail _ (List.Mem.tail _ (List.Mem.tail _ (List.Mem.tail _ (List.Mem.tail _ (List.Mem.head _)))))) ?_
                refine x_iload (pc := 55) dX4_percentFor_55 (List.Mem.head _) ?_
                refine z_callSip (pc := 57) (i := mX4_joined) (S := []) [.int (zN (((bst (rrun q N c p n) : Nat) : Int))), .int (zN ((z / 1000)))] dX4_percentFor_57 ml_X4_132 ok_X4_joined rfl (Or.inl rfl) (Nat.le_of_ble_eq_true rfl) (by have qz := c_X4_joined (d := d + 1) (v := (bst (rrun q N c p n))) (w := (wordOf (q (77 + 2 * (p + n))))) (hv := (by omega)) (hw := (by omega)) (ok := ok); rw [show (((wordOf (q (77 + 2 * (p + n)))) : Nat) : Int) = (z / 1000) by omega] at qz; exact qz) (fun r12a r12b ok13 => ?_)
                have hJ : wjoin (bst (rrun q N c p n)) (wordOf (q (77 + 2 * (p + n)))) = bst (rrun q N c p (n + 1)) := by rw [show rrun q N c p (n + 1) = rstep q N c (p + n) (rrun q N c p n) from rfl, hst, if_pos (by omega)]
                refine x_istore (pc := 60) dX4_percentFor_60 (Nat.le_of_ble_eq_true rfl) ?_
                show Ev _ _ _ _ _ [(4, .int (zN ((((wjoin (bst (rrun q N c p n)) (wordOf (q (77 + 2 * (p + n)))) : Nat) : Int))))), (5, .int (zN ((z / 1000)))), (0, .ref 104), (1, .int (zN ((c : Int)))), (2, .int (zN (((p + n : Nat) : Int)))), (3, .int (zN ((l : Int))))] _ _
                refine x_goto (pc := 62) (tgt := 100) dX4_percentFor_62 (by decide) ?_
                refine z_iinc (pc := 100) dX4_percentFor_100 (List.Mem.tail _ (List.Mem.tail _ (List.Mem.tail _ (List.Mem.tail _ (List.Mem.head _))))) (Nat.le_of_ble_eq_true rfl) ?_
                show Ev _ _ _ _ _ [(2, .int (zN (((p + n : Nat) : Int) + 1))), (4, .int (zN ((((wjoin (bst (rrun q N c p n)) (wordOf (q (77 + 2 * (p + n)))) : Nat) : Int))))), (5, .int (zN ((z / 1000)))), (0, .ref 104), (1, .int (zN ((c : Int)))), (3, .int (zN ((l : Int))))] _ _
                refine x_goto (pc := 103) (tgt := 18) dX4_percentFor_103 (by decide) ?_
                refine x_weaken (L1 := [(0, .ref 104), (1, .int (zN ((c : Int)))), (2, .int (zN (((p + (n + 1) : Nat) : Int)))), (3, .int (zN ((l : Int)))), (4, .int (zN (((bst (rrun q N c p (n + 1)) : Nat) : Int))))]) (List.forall_mem_cons.mpr ⟨(List.Mem.tail _ (List.Mem.tail _ (List.Mem.tail _ (List.Mem.head _)))), (List.forall_mem_cons.mpr ⟨(List.Mem.tail _ (List.Mem.tail _ (List.Mem.tail _ (List.Mem.tail _ (List.Mem.head _))))), (List.forall_mem_cons.mpr ⟨(mem_ci (by omega) (List.Mem.head _)), (List.forall_mem_cons.mpr ⟨(List.Mem.tail _ (List.Mem.tail _ (List.Mem.tail _ (List.Mem.tail _ (List.Mem.tail _ (List.Mem.head _)))))), (List.forall_mem_cons.mpr ⟨(mem_ci (congrArg (fun x : Nat => (x : Int)) hJ.symm) (List.Mem.tail _ (List.Mem.head _))), (fun _ h => absurd h List.not_mem_nil)⟩)⟩)⟩)⟩)⟩) ?_
                exact ih18 ((n + 1)) (by omega) (by omega)
        refine x_weaken (L1 := [(0, .ref 104), (1, .int (zN ((c : Int)))), (2, .int (zN (((p + 0 : Nat) : Int)))), (3, .int (zN ((l : Int)))), (4, .int (zN (((bst (rrun q N c p 0) : Nat) : Int))))]) (List.forall_mem_cons.mpr ⟨(List.Mem.tail _ (List.Mem.head _)), (List.forall_mem_cons.mpr ⟨(List.Mem.tail _ (List.Mem.tail _ (List.Mem.head _))), (List.forall_mem_cons.mpr ⟨(mem_ci (by omega) (List.Mem.tail _ (List.Mem.tail _ (List.Mem.tail _ (List.Mem.head _))))), (List.forall_mem_cons.mpr ⟨(List.Mem.tail _ (List.Mem.tail _ (List.Mem.tail _ (List.Mem.tail _ (List.Mem.head _))))), (List.forall_mem_cons.mpr ⟨(mem_ci (rfl) (List.Mem.head _)), (fun _ h => absurd h List.not_mem_nil)⟩)⟩)⟩)⟩)⟩) ?_
        exact lp18 ((q (65 + l) - q (53 + l)).toNat - 0 + 1) (0) (by omega) (Nat.lt_succ_self _)
  refine x_weaken (L1 := [(0, .ref 104), (1, .int (zN ((c : Int)))), (2, .int (zN (((0 : Nat) : Int)))), (3, .int (zN (((0 : Nat) : Int))))]) (List.forall_mem_cons.mpr ⟨(List.Mem.tail _ (List.Mem.tail _ (List.Mem.head _))), (List.forall_mem_cons.mpr ⟨(List.Mem.tail _ (List.Mem.tail _ (List.Mem.tail _ (List.Mem.head _)))), (List.forall_mem_cons.mpr ⟨(mem_ci (by omega) (List.Mem.tail _ (List.Mem.head _))), (List.forall_mem_cons.mpr ⟨(mem_ci (by omega) (List.Mem.head _)), (fun _ h => absurd h List.not_mem_nil)⟩)⟩)⟩)⟩) ?_
  exact lp4 ((q 40).toNat - 0 + 1) (0) (0) (by first | assumption | omega) (fun hz => by have := (wl.2 0 hz).2.2.1; rw [if_pos rfl] at this; omega) (rfl) (Nat.lt_succ_self _)
