/-! GROUP E4: clumps of the reference. -/

theorem c_X11_clumps {d : Nat} {H : ZH} (ok : okZ H) {row c g what : Int} (row1 : -2147483648 ≤ row) (row2 : row ≤ 2147483647) (c1 : -2147483648 ≤ c) (c2 : c ≤ 2147483647) (g1 : -2147483648 ≤ g) (g2 : g ≤ 2147483647) (what1 : -2147483648 ≤ what) (what2 : what ≤ 2147483647) (cm : cntOK H 1) (th : H.1 0 0 = 0) (rm : rmOK H) : EvC zX (d + 2) mX11_clumps [.ref 0, .int (zN (row)), .int (zN (c)), .int (zN (g)), .int (zN (what))] (eh H) (zPi (fun (r : Int) (H1 : ZH) => r = (S_clumps H row c g what).1 ∧ ∃ f, H1 = bumpM (S_clumps H row c g what).2 (wA H 16 f))) := by
  show _ ∧ Ev zX mX11_clumps (EvC zX (d + 1)) (zPi (fun (r : Int) (H1 : ZH) => r = (S_clumps H row c g what).1 ∧ ∃ f, H1 = bumpM (S_clumps H row c g what).2 (wA H 16 f))) 0 [(0, .ref 0), (1, .int (zN (row))), (2, .int (zN (c))), (3, .int (zN (g))), (4, .int (zN (what)))] [] (eh H)
  refine ⟨Nat.le_of_ble_eq_true rfl, ?_⟩
  refine x_aload_n (pc := 0) dX11_clumps_0 (List.Mem.head _) ?_
  refine z_iconst (pc := 1) dX11_clumps_1 ?_
  refine z_putI (pc := 2) (k := 0) dX11_clumps_2 lp_X11_1 sh_0 rfl ?_
  have ok1 := okI ok 0 0 (v := 0) (by decide) (by decide)
  rw [wI_same th]
  refine x_iload_n (pc := 5) dX11_clumps_5 (List.Mem.tail _ (List.Mem.head _)) ?_
  refine z_i2l (pc := 6) dX11_clumps_6 (by omega) (by omega) ?_
  refine z_lconst (pc := 7) 0 dX11_clumps_7 rfl ?_
  refine z_ldc2_w (pc := 8) 3 dX11_clumps_8 cl_X11_213 (by decide) ?_
  refine z_callSbp (pc := 11) (i := mX11_within) (S := []) [.long (zL (row)), .long (zL (0)), .long (zL (3))] dX11_clumps_11 ml_X11_152 ok_X11_within rfl (Or.inr rfl) (Nat.le_of_ble_eq_true rfl) (c_X11_within (d := d) (v := row) (lo := 0) (hi := 3) (v1 := (by omega)) (v2 := (by omega)) (lo1 := (by omega)) (lo2 := (by omega)) (hi1 := (by omega)) (hi2 := (by omega)) (ok := ok)) (fun hc4 ok3 => ?_) (fun hc4 ok3 => ?_)
  · skip
    refine z_if_eq (pc := 14) (tgt := 30) dX11_clumps_14 (by decide) (by decide) (by decide) (fun h => absurd h (by decide)) (fun _ => ?_)
    refine x_iload (pc := 17) dX11_clumps_17 (List.Mem.tail _ (List.Mem.tail _ (List.Mem.tail _ (List.Mem.tail _ (List.Mem.head _))))) ?_
    refine z_i2l (pc := 19) dX11_clumps_19 (by omega) (by omega) ?_
    refine z_lconst (pc := 20) 0 dX11_clumps_20 rfl ?_
    refine z_ldc2_w (pc := 21) 2 dX11_clumps_21 cl_X11_363 (by decide) ?_
    refine z_callSbp (pc := 24) (i := mX11_within) (S := []) [.long (zL (what)), .long (zL (0)), .long (zL (2))] dX11_clumps_24 ml_X11_152 ok_X11_within rfl (Or.inr rfl) (Nat.le_of_ble_eq_true rfl) (c_X11_within (d := d) (v := what) (lo := 0) (hi := 2) (v1 := (by omega)) (v2 := (by omega)) (lo1 := (by omega)) (lo2 := (by omega)) (hi1 := (by omega)) (hi2 := (by omega)) (ok := ok3)) (fun hc8 ok7 => ?_) (fun hc8 ok7 => ?_)
    · skip
      refine z_if_ne (pc := 27) (tgt := 37) dX11_clumps_27 (by decide) (by decide) (by decide) (fun _ => ?_) (fun h => absurd h (by decide))
      obtain ⟨⟨rmA, rmB⟩, rmC, rmD⟩ := rm row.toNat (by omega)
      refine x_aload_n (pc := 37) dX11_clumps_37 (List.Mem.head _) ?_
      refine z_getR (pc := 38) (k := 33) (r := 17) dX11_clumps_38 lf_X11_73 sh_0 rfl rf_0_33 ?_
      refine x_iload_n (pc := 41) dX11_clumps_41 (List.Mem.tail _ (List.Mem.head _)) ?_
      have rd10 := ok7.1 17 row.toNat
      refine z_iald (pc := 42) (j := row.toNat) (v := H.1 17 row.toNat) dX11_clumps_42 sh_17 (by omega) (by omega) (by decide) rfl ?_
      refine z_iconst (pc := 43) dX11_clumps_43 ?_
      refine z_icmp_ne (pc := 44) (tgt := 54) dX11_clumps_44 (by decide) (by omega) (by omega) (by decide) (by decide) (fun hb11 => ?_) (fun hb11 => ?_)
      · skip
        refine x_iload_n (pc := 54) dX11_clumps_54 (List.Mem.tail _ (List.Mem.tail _ (List.Mem.head _))) ?_
        refine z_i2l (pc := 55) dX11_clumps_55 (by omega) (by omega) ?_
        refine z_ldc2_w (pc := 56) 2 dX11_clumps_56 cl_X11_363 (by decide) ?_
        refine z_ldc2_w (pc := 59) 999 dX11_clumps_59 cl_X11_353 (by decide) ?_
        refine z_callSbp (pc := 62) (i := mX11_within) (S := []) [.long (zL (c)), .long (zL (2)), .long (zL (999))] dX11_clumps_62 ml_X11_152 ok_X11_within rfl (Or.inr rfl) (Nat.le_of_ble_eq_true rfl) (c_X11_within (d := d) (v := c) (lo := 2) (hi := 999) (v1 := (by omega)) (v2 := (by omega)) (lo1 := (by omega)) (lo2 := (by omega)) (hi1 := (by omega)) (hi2 := (by omega)) (ok := ok7)) (fun hc14 ok13 => ?_) (fun hc14 ok13 => ?_)
        · skip
          refine z_if_eq (pc := 65) (tgt := 81) dX11_clumps_65 (by decide) (by decide) (by decide) (fun h => absurd h (by decide)) (fun _ => ?_)
          refine x_iload_n (pc := 68) dX11_clumps_68 (List.Mem.tail _ (List.Mem.tail _ (List.Mem.tail _ (List.Mem.head _)))) ?_
          refine z_i2l (pc := 69) dX11_clumps_69 (by omega) (by omega) ?_
          refine z_lconst (pc := 70) 1 dX11_clumps_70 rfl ?_
          refine x_iload_n (pc := 71) dX11_clumps_71 (List.Mem.tail _ (List.Mem.tail _ (List.Mem.head _))) ?_
          refine z_iconst (pc := 72) dX11_clumps_72 ?_
          refine z_isub (pc := 73) dX11_clumps_73 ?_
          refine z_i2l (pc := 74) dX11_clumps_74 (by omega) (by omega) ?_
          refine z_callSbp (pc := 75) (i := mX11_within) (S := []) [.long (zL (g)), .long (zL (1)), .long (zL ((c - 1)))] dX11_clumps_75 ml_X11_152 ok_X11_within rfl (Or.inr rfl) (Nat.le_of_ble_eq_true rfl) (c_X11_within (d := d) (v := g) (lo := 1) (hi := ((c - 1))) (v1 := (by omega)) (v2 := (by omega)) (lo1 := (by omega)) (lo2 := (by omega)) (hi1 := (by omega)) (hi2 := (by omega)) (ok := ok13)) (fun hc18 ok17 => ?_) (fun hc18 ok17 => ?_)
          · skip
            refine z_if_ne (pc := 78) (tgt := 88) dX11_clumps_78 (by decide) (by decide) (by decide) (fun _ => ?_) (fun h => absurd h (by decide))
            refine z_iconst (pc := 88) dX11_clumps_88 ?_
            refine x_istore (pc := 89) dX11_clumps_89 (Nat.le_of_ble_eq_true rfl) ?_
            show Ev _ _ _ _ _ [(5, .int (zN (0))), (0, .ref 0), (1, .int (zN (row))), (2, .int (zN (c))), (3, .int (zN (g))), (4, .int (zN (what)))] _ _
            have lp91 : ∀ (nF : Nat) (k0 : Nat), ((k0 : Int) ≤ H.1 18 row.toNat) → (∀ j, j < k0 → 0 ≤ rvM H row.toNat j ∧ rvM H row.toNat j ≤ 9999) → (H.1 18 row.toNat).toNat - k0 < nF → Ev zX mX11_clumps (EvC zX (d + 1)) (zPi (fun (r : Int) (H1 : ZH) => r = (S_clumps H row c g what).1 ∧ ∃ f, H1 = bumpM (S_clumps H row c g what).2 (wA H 16 f))) 91 [(0, .ref 0), (1, .int (zN (row))), (2, .int (zN (c))), (3, .int (zN (g))), (4, .int (zN (what))), (5, .int (zN ((k0 : Int))))] [] (eh H) := by
              intro nF
              induction nF with
              | zero => intro k0 hk0 ha hm; exact absurd hm (Nat.not_lt_zero _)
              | succ nF ih91 =>
                intro k0 hk0 ha hm
                refine x_iload (pc := 91) dX11_clumps_91 (List.Mem.tail _ (List.Mem.tail _ (List.Mem.tail _ (List.Mem.tail _ (List.Mem.tail _ (List.Mem.head _)))))) ?_
                refine x_aload_n (pc := 93) dX11_clumps_93 (List.Mem.head _) ?_
                refine z_getR (pc := 94) (k := 34) (r := 18) dX11_clumps_94 lf_X11_76 sh_0 rfl rf_0_34 ?_
                refine x_iload_n (pc := 97) dX11_clumps_97 (List.Mem.tail _ (List.Mem.head _)) ?_
                have rd20 := ok17.1 18 row.toNat
                refine z_iald (pc := 98) (j := row.toNat) (v := H.1 18 row.toNat) dX11_clumps_98 sh_18 (by omega) (by omega) (by decide) rfl ?_
                refine z_icmp_ge (pc := 99) (tgt := 137) dX11_clumps_99 (by decide) (by omega) (by omega) (by omega) (by omega) (fun hb21 => ?_) (fun hb21 => ?_)
                · skip
                  have hw : zwi (rvM H row.toNat) 9999 (H.1 18 row.toNat).toNat = true := zwi_t.mpr (fun j hj => ha j (by omega))
                  have hall := zwi_t.mp hw
                  refine z_iconst (pc := 137) dX11_clumps_137 ?_
                  refine x_istore (pc := 138) dX11_clumps_138 (Nat.le_of_ble_eq_true rfl) ?_
                  show Ev _ _ _ _ _ [(5, .int (zN (0))), (0, .ref 0), (1, .int (zN (row))), (2, .int (zN (c))), (3, .int (zN (g))), (4, .int (zN (what)))] _ _
                  refine z_iconst (pc := 140) dX11_clumps_140 ?_
                  refine x_istore (pc := 141) dX11_clumps_141 (Nat.le_of_ble_eq_true rfl) ?_
                  show Ev _ _ _ _ _ [(6, .int (zN (0))), (5, .int (zN (0))), (0, .ref 0), (1, .int (zN (row))), (2, .int (zN (c))), (3, .int (zN (g))), (4, .int (zN (what)))] _ _
                  have lp143 : ∀ (nF : Nat) (k : Nat), okZ (wA H 16 (fun j => if j < k then (cgo (rvM H row.toNat) c g) j else H.1 16 j)) → ((k : Int) ≤ H.1 18 row.toNat) → (H.1 18 row.toNat).toNat - k < nF → Ev zX mX11_clumps (EvC zX (d + 1)) (zPi (fun (r : Int) (H1 : ZH) => r = (S_clumps H row c g what).1 ∧ ∃ f, H1 = bumpM (S_clumps H row c g what).2 (wA H 16 f))) 143 [(0, .ref 0), (1, .int (zN (row))), (2, .int (zN (c))), (3, .int (zN (g))), (4, .int (zN (what))), (5, .int (zN (cws (rvM H row.toNat) c g k))), (6, .int (zN ((k : Int))))] [] (eh (wA H 16 (fun j => if j < k then (cgo (rvM H row.toNat) c g) j else H.1 16 j))) := by
                    intro nF
                    induction nF with
                    | zero => intro k okl143 hk hm; exact absurd hm (Nat.not_lt_zero _)
                    | succ nF ih143 =>
                      intro k okl143 hk hm
                      have wb := cws_bd (f := (rvM H row.toNat)) (c := c) (g := g) (n := k) (fun j hj => hall j (by omega)) (by omega) (by omega)
                      refine x_iload (pc := 143) dX11_clumps_143 (List.Mem.tail _ (List.Mem.tail _ (List.Mem.tail _ (List.Mem.tail _ (List.Mem.tail _ (List.Mem.tail _ (List.Mem.head _))))))) ?_
                      refine x_aload_n (pc := 145) dX11_clumps_145 (List.Mem.head _) ?_
                      refine z_getR (pc := 146) (k := 34) (r := 18) dX11_clumps_146 lf_X11_76 sh_0 rfl rf_0_34 ?_
                      refine x_iload_n (pc := 149) dX11_clumps_149 (List.Mem.tail _ (List.Mem.head _)) ?_
                      have rd22 := ok.1 18 row.toNat
                      refine z_iald (pc := 150) (j := row.toNat) (v := H.1 18 row.toNat) dX11_clumps_150 sh_18 (by omega) (by omega) (by decide) (by rw [wA1c (by omega)]) ?_
                      refine z_icmp_ge (pc := 151) (tgt := 219) dX11_clumps_151 (by decide) (by omega) (by omega) (by omega) (by omega) (fun hb23 => ?_) (fun hb23 => ?_)
                      · skip
                        have ek : k = (H.1 18 row.toNat).toNat := by omega
                        refine z_iconst (pc := 219) dX11_clumps_219 ?_
                        refine x_istore (pc := 220) dX11_clumps_220 (Nat.le_of_ble_eq_true rfl) ?_
                        show Ev _ _ _ _ _ [(6, .int (zN (0))), (0, .ref 0), (1, .int (zN (row))), (2, .int (zN (c))), (3, .int (zN (g))), (4, .int (zN (what))), (5, .int (zN (cws (rvM H row.toNat) c g k)))] _ _
                        refine z_iconst (pc := 222) dX11_clumps_222 ?_
                        refine x_istore (pc := 223) dX11_clumps_223 (Nat.le_of_ble_eq_true rfl) ?_
                        show Ev _ _ _ _ _ [(7, .int (zN (0))), (6, .int (zN (0))), (0, .ref 0), (1, .int (zN (row))), (2, .int (zN (c))), (3, .int (zN (g))), (4, .int (zN (what))), (5, .int (zN (cws (rvM H row.toNat) c g k)))] _ _
                        refine z_iconst (pc := 225) dX11_clumps_225 ?_
                        refine x_istore (pc := 226) dX11_clumps_226 (Nat.le_of_ble_eq_true rfl) ?_
                        show Ev _ _ _ _ _ [(8, .int (zN (0))), (7, .int (zN (0))), (6, .int (zN (0))), (0, .ref 0), (1, .int (zN (row))), (2, .int (zN (c))), (3, .int (zN (g))), (4, .int (zN (what))), (5, .int (zN (cws (rvM H row.toNat) c g k)))] _ _
                        have lp228 : ∀ (nF : Nat) (q : Nat), ((q : Int) ≤ H.1 18 row.toNat) → (H.1 18 row.toNat).toNat - q < nF → Ev zX mX11_clumps (EvC zX (d + 1)) (zPi (fun (r : Int) (H1 : ZH) => r = (S_clumps H row c g what).1 ∧ ∃ f, H1 = bumpM (S_clumps H row c g what).2 (wA H 16 f))) 228 [(0, .ref 0), (1, .int (zN (row))), (2, .int (zN (c))), (3, .int (zN (g))), (4, .int (zN (what))), (5, .int (zN (cws (rvM H row.toNat) c g k))), (6, .int (zN (cmx (cgo (rvM H row.toNat) c g) (H.1 18 row.toNat).toNat q))), (7, .int (zN (cdf (cgo (rvM H row.toNat) c g) q))), (8, .int (zN ((q : Int))))] [] (eh (wA H 16 (fun j => if j < k then (cgo (rvM H row.toNat) c g) j else H.1 16 j))) := by
                          intro nF
                          induction nF with
                          | zero => intro q hq hm; exact absurd hm (Nat.not_lt_zero _)
                          | succ nF ih228 =>
                            intro q hq hm
                            have mb := cmx_bd (cgo (rvM H row.toNat) c g) (H.1 18 row.toNat).toNat q
                            have db := cdf_bd (cgo (rvM H row.toNat) c g) q
                            refine x_iload (pc := 228) dX11_clumps_228 (List.Mem.tail _ (List.Mem.tail _ (List.Mem.tail _ (List.Mem.tail _ (List.Mem.tail _ (List.Mem.tail _ (List.Mem.tail _ (List.Mem.tail _ (List.Mem.head _))))))))) ?_
                            refine x_aload_n (pc := 230) dX11_clumps_230 (List.Mem.head _) ?_
                            refine z_getR (pc := 231) (k := 34) (r := 18) dX11_clumps_231 lf_X11_76 sh_0 rfl rf_0_34 ?_
                            refine x_iload_n (pc := 234) dX11_clumps_234 (List.Mem.tail _ (List.Mem.head _)) ?_
                            have rd24 := ok.1 18 row.toNat
                            refine z_iald (pc := 235) (j := row.toNat) (v := H.1 18 row.toNat) dX11_clumps_235 sh_18 (by omega) (by omega) (by decide) (by rw [wA1c (by omega)]) ?_
                            refine z_icmp_ge (pc := 236) (tgt := 344) dX11_clumps_236 (by decide) (by omega) (by omega) (by omega) (by omega) (fun hb25 => ?_) (fun hb25 => ?_)
                            · skip
                              refine x_iload (pc := 344) dX11_clumps_344 (List.Mem.tail _ (List.Mem.tail _ (List.Mem.tail _ (List.Mem.tail _ (List.Mem.head _))))) ?_
                              refine z_if_ne (pc := 346) (tgt := 354) dX11_clumps_346 (by decide) (by omega) (by omega) (fun hb26 => ?_) (fun hb26 => ?_)
                              · skip
                                refine x_iload (pc := 354) dX11_clumps_354 (List.Mem.tail _ (List.Mem.tail _ (List.Mem.tail _ (List.Mem.tail _ (List.Mem.head _))))) ?_
                                refine z_iconst (pc := 356) dX11_clumps_356 ?_
                                refine z_icmp_ne (pc := 357) (tgt := 365) dX11_clumps_357 (by decide) (by omega) (by omega) (by decide) (by decide) (fun hb27 => ?_) (fun hb27 => ?_)
                                · skip
                                  refine x_iload (pc := 365) dX11_clumps_365 (List.Mem.tail _ (List.Mem.tail _ (List.Mem.tail _ (List.Mem.tail _ (List.Mem.tail _ (List.Mem.tail _ (List.Mem.tail _ (List.Mem.head _)))))))) ?_
                                  refine z_ireturn (pc := 367) dX11_clumps_367 rfl (Or.inl rfl) okl143 (by omega) (by omega) ?_
                                  have e : S_clumps H row c g what = ((if what = 0 then cws (rvM H row.toNat) c g (H.1 18 row.toNat).toNat else if what = 1 then cmx (cgo (rvM H row.toNat) c g) (H.1 18 row.toNat).toNat (H.1 18 row.toNat).toNat else cdf (cgo (rvM H row.toNat) c g) (H.1 18 row.toNat).toNat), 6) := by unfold S_clumps; rw [if_pos (by omega), if_pos (by omega)]; exact if_pos ⟨by omega, hw⟩
                                  rw [e]
                                  refine ⟨?_, _, rfl⟩
                                  try rw [ek]
                                  have eq : q = (H.1 18 row.toNat).toNat := by omega
                                  try rw [eq]
                                  first | rw [if_pos (by omega)] | rw [if_neg (by omega), if_pos (by omega)] | rw [if_neg (by omega), if_neg (by omega)]
                                · skip
                                  refine x_iload (pc := 360) dX11_clumps_360 (List.Mem.tail _ (List.Mem.tail _ (List.Mem.tail _ (List.Mem.tail _ (List.Mem.tail _ (List.Mem.tail _ (List.Mem.head _))))))) ?_
                                  refine x_goto (pc := 362) (tgt := 367) dX11_clumps_362 (by decide) ?_
                                  refine z_ireturn (pc := 367) dX11_clumps_367 rfl (Or.inl rfl) okl143 (by omega) (by omega) ?_
                                  have e : S_clumps H row c g what = ((if what = 0 then cws (rvM H row.toNat) c g (H.1 18 row.toNat).toNat else if what = 1 then cmx (cgo (rvM H row.toNat) c g) (H.1 18 row.toNat).toNat (H.1 18 row.toNat).toNat else cdf (cgo (rvM H row.toNat) c g) (H.1 18 row.toNat).toNat), 6) := by unfold S_clumps; rw [if_pos (by omega), if_pos (by omega)]; exact if_pos ⟨by omega, hw⟩
                                  rw [e]
                                  refine ⟨?_, _, rfl⟩
                                  try rw [ek]
                                  have eq : q = (H.1 18 row.toNat).toNat := by omega
                                  try rw [eq]
                                  first | rw [if_pos (by omega)] | rw [if_neg (by omega), if_pos (by omega)] | rw [if_neg (by omega), if_neg (by omega)]
                              · skip
                                refine x_iload (pc := 349) dX11_clumps_349 (List.Mem.tail _ (List.Mem.tail _ (List.Mem.tail _ (List.Mem.tail _ (List.Mem.tail _ (List.Mem.head _)))))) ?_
                                refine x_goto (pc := 351) (tgt := 367) dX11_clumps_351 (by decide) ?_
                                refine z_ireturn (pc := 367) dX11_clumps_367 rfl (Or.inl rfl) okl143 (by omega) (by omega) ?_
                                have e : S_clumps H row c g what = ((if what = 0 then cws (rvM H row.toNat) c g (H.1 18 row.toNat).toNat else if what = 1 then cmx (cgo (rvM H row.toNat) c g) (H.1 18 row.toNat).toNat (H.1 18 row.toNat).toNat else cdf (cgo (rvM H row.toNat) c g) (H.1 18 row.toNat).toNat), 6) := by unfold S_clumps; rw [if_pos (by omega), if_pos (by omega)]; exact if_pos ⟨by omega, hw⟩
                                rw [e]
                                refine ⟨?_, _, rfl⟩
                                try rw [ek]
                                have eq : q = (H.1 18 row.toNat).toNat := by omega
                                try rw [eq]
                                first | rw [if_pos (by omega)] | rw [if_neg (by omega), if_pos (by omega)] | rw [if_neg (by omega), if_neg (by omega)]
                            · skip
                              refine z_iconst (pc := 239) dX11_clumps_239 ?_
                              refine x_istore (pc := 240) dX11_clumps_240 (Nat.le_of_ble_eq_true rfl) ?_
                              show Ev _ _ _ _ _ [(9, .int (zN (0))), (0, .ref 0), (1, .int (zN (row))), (2, .int (zN (c))), (3, .int (zN (g))), (4, .int (zN (what))), (5, .int (zN (cws (rvM H row.toNat) c g k))), (6, .int (zN (cmx (cgo (rvM H row.toNat) c g) (H.1 18 row.toNat).toNat q))), (7, .int (zN (cdf (cgo (rvM H row.toNat) c g) q))), (8, .int (zN ((q : Int))))] _ _
                              refine z_iconst (pc := 242) dX11_clumps_242 ?_
                              refine x_istore (pc := 243) dX11_clumps_243 (Nat.le_of_ble_eq_true rfl) ?_
                              show Ev _ _ _ _ _ [(10, .int (zN (1))), (9, .int (zN (0))), (0, .ref 0), (1, .int (zN (row))), (2, .int (zN (c))), (3, .int (zN (g))), (4, .int (zN (what))), (5, .int (zN (cws (rvM H row.toNat) c g k))), (6, .int (zN (cmx (cgo (rvM H row.toNat) c g) (H.1 18 row.toNat).toNat q))), (7, .int (zN (cdf (cgo (rvM H row.toNat) c g) q))), (8, .int (zN ((q : Int))))] _ _
                              refine z_iconst (pc := 245) dX11_clumps_245 ?_
                              refine x_istore (pc := 246) dX11_clumps_246 (Nat.le_of_ble_eq_true rfl) ?_
                              show Ev _ _ _ _ _ [(11, .int (zN (0))), (10, .int (zN (1))), (9, .int (zN (0))), (0, .ref 0), (1, .int (zN (row))), (2, .int (zN (c))), (3, .int (zN (g))), (4, .int (zN (what))), (5, .int (zN (cws (rvM H row.toNat) c g k))), (6, .int (zN (cmx (cgo (rvM H row.toNat) c g) (H.1 18 row.toNat).toNat q))), (7, .int (zN (cdf (cgo (rvM H row.toNat) c g) q))), (8, .int (zN ((q : Int))))] _ _
                              have lp248 : ∀ (nF : Nat) (i : Nat), ((i : Int) ≤ H.1 18 row.toNat) → (H.1 18 row.toNat).toNat - i < nF → Ev zX mX11_clumps (EvC zX (d + 1)) (zPi (fun (r : Int) (H1 : ZH) => r = (S_clumps H row c g what).1 ∧ ∃ f, H1 = bumpM (S_clumps H row c g what).2 (wA H 16 f))) 248 [(0, .ref 0), (1, .int (zN (row))), (2, .int (zN (c))), (3, .int (zN (g))), (4, .int (zN (what))), (5, .int (zN (cws (rvM H row.toNat) c g k))), (6, .int (zN (cmx (cgo (rvM H row.toNat) c g) (H.1 18 row.toNat).toNat q))), (7, .int (zN (cdf (cgo (rvM H row.toNat) c g) q))), (8, .int (zN ((q : Int)))), (9, .int (zN (ceq (cgo (rvM H row.toNat) c g) ((cgo (rvM H row.toNat) c g) q) i))), (10, .int (zN ((if cfst (cgo (rvM H row.toNat) c g) q i = true then 1 else 0)))), (11, .int (zN ((i : Int))))] [] (eh (wA H 16 (fun j => if j < k then (cgo (rvM H row.toNat) c g) j else H.1 16 j))) := by
                                intro nF
                                induction nF with
                                | zero => intro i hi hm; exact absurd hm (Nat.not_lt_zero _)
                                | succ nF ih248 =>
                                  intro i hi hm
                                  have eb := ceq_bd (cgo (rvM H row.toNat) c g) ((cgo (rvM H row.toNat) c g) q) i
                                  have nb : 0 ≤ (if cfst (cgo (rvM H row.toNat) c g) q i = true then 1 else 0) ∧ (if cfst (cgo (rvM H row.toNat) c g) q i = true then 1 else 0) ≤ 1 := by split <;> omega
                                  refine x_iload (pc := 248) dX11_clumps_248 (List.Mem.tail _ (List.Mem.tail _ (List.Mem.tail _ (List.Mem.tail _ (List.Mem.tail _ (List.Mem.tail _ (List.Mem.tail _ (List.Mem.tail _ (List.Mem.tail _ (List.Mem.tail _ (List.Mem.tail _ (List.Mem.head _)))))))))))) ?_
                                  refine x_aload_n (pc := 250) dX11_clumps_250 (List.Mem.head _) ?_
                                  refine z_getR (pc := 251) (k := 34) (r := 18) dX11_clumps_251 lf_X11_76 sh_0 rfl rf_0_34 ?_
                                  refine x_iload_n (pc := 254) dX11_clumps_254 (List.Mem.tail _ (List.Mem.head _)) ?_
                                  have rd28 := ok.1 18 row.toNat
                                  refine z_iald (pc := 255) (j := row.toNat) (v := H.1 18 row.toNat) dX11_clumps_255 sh_18 (by omega) (by omega) (by decide) (by rw [wA1c (by omega)]) ?_
                                  refine z_icmp_ge (pc := 256) (tgt := 307) dX11_clumps_256 (by decide) (by omega) (by omega) (by omega) (by omega) (fun hb29 => ?_) (fun hb29 => ?_)
                                  · skip
                                    have ei : i = (H.1 18 row.toNat).toNat := by omega
                                    refine x_iload (pc := 307) dX11_clumps_307 (List.Mem.tail _ (List.Mem.tail _ (List.Mem.tail _ (List.Mem.tail _ (List.Mem.tail _ (List.Mem.tail _ (List.Mem.tail _ (List.Mem.tail _ (List.Mem.tail _ (List.Mem.head _)))))))))) ?_
                                    refine x_iload (pc := 309) dX11_clumps_309 (List.Mem.tail _ (List.Mem.tail _ (List.Mem.tail _ (List.Mem.tail _ (List.Mem.tail _ (List.Mem.tail _ (List.Mem.head _))))))) ?_
                                    refine z_icmp_le (pc := 311) (tgt := 319) dX11_clumps_311 (by decide) (by omega) (by omega) (by omega) (by omega) (fun hb30 => ?_) (fun hb30 => ?_)
                                    · skip
                                      refine x_iload (pc := 319) dX11_clumps_319 (List.Mem.tail _ (List.Mem.tail _ (List.Mem.tail _ (List.Mem.tail _ (List.Mem.tail _ (List.Mem.tail _ (List.Mem.head _))))))) ?_
                                      refine x_istore (pc := 321) dX11_clumps_321 (Nat.le_of_ble_eq_true rfl) ?_
                                      show Ev _ _ _ _ _ [(6, .int (zN (cmx (cgo (rvM H row.toNat) c g) (H.1 18 row.toNat).toNat q))), (0, .ref 0), (1, .int (zN (row))), (2, .int (zN (c))), (3, .int (zN (g))), (4, .int (zN (what))), (5, .int (zN (cws (rvM H row.toNat) c g k))), (7, .int (zN (cdf (cgo (rvM H row.toNat) c g) q))), (8, .int (zN ((q : Int)))), (9, .int (zN (ceq (cgo (rvM H row.toNat) c g) ((cgo (rvM H row.toNat) c g) q) i))), (10, .int (zN ((if cfst (cgo (rvM H row.toNat) c g) q i = true then 1 else 0)))), (11, .int (zN ((i : Int))))] _ _
                                      refine x_iload (pc := 323) dX11_clumps_323 (List.Mem.tail _ (List.Mem.tail _ (List.Mem.tail _ (List.Mem.tail _ (List.Mem.tail _ (List.Mem.tail _ (List.Mem.tail _ (List.Mem.head _)))))))) ?_
                                      refine x_iload (pc := 325) dX11_clumps_325 (List.Mem.tail _ (List.Mem.tail _ (List.Mem.tail _ (List.Mem.tail _ (List.Mem.tail _ (List.Mem.tail _ (List.Mem.tail _ (List.Mem.tail _ (List.Mem.tail _ (List.Mem.tail _ (List.Mem.head _))))))))))) ?_
                                      refine z_if_eq (pc := 327) (tgt := 334) dX11_clumps_327 (by decide) (by omega) (by omega) (fun hb31 => ?_) (fun hb31 => ?_)
                                      · skip
                                        have hd0 := ite01_0 hb31
                                        rw [ei, cfst_all (N := (H.1 18 row.toNat).toNat) (by omega)] at hd0
                                        refine z_iconst (pc := 334) dX11_clumps_334 ?_
                                        refine z_iadd (pc := 335) dX11_clumps_335 ?_
                                        refine x_istore (pc := 336) dX11_clumps_336 (Nat.le_of_ble_eq_true rfl) ?_
                                        show Ev _ _ _ _ _ [(7, .int (zN ((cdf (cgo (rvM H row.toNat) c g) q + 0)))), (6, .int (zN (cmx (cgo (rvM H row.toNat) c g) (H.1 18 row.toNat).toNat q))), (0, .ref 0), (1, .int (zN (row))), (2, .int (zN (c))), (3, .int (zN (g))), (4, .int (zN (what))), (5, .int (zN (cws (rvM H row.toNat) c g k))), (8, .int (zN ((q : Int)))), (9, .int (zN (ceq (cgo (rvM H row.toNat) c g) ((cgo (rvM H row.toNat) c g) q) i))), (10, .int (zN ((if cfst (cgo (rvM H row.toNat) c g) q i = true then 1 else 0)))), (11, .int (zN ((i : Int))))] _ _
                                        refine z_iinc (pc := 338) dX11_clumps_338 (List.Mem.tail _ (List.Mem.tail _ (List.Mem.tail _ (List.Mem.tail _ (List.Mem.tail _ (List.Mem.tail _ (List.Mem.tail _ (List.Mem.tail _ (List.Mem.head _))))))))) (Nat.le_of_ble_eq_true rfl) ?_
                                        show Ev _ _ _ _ _ [(8, .int (zN ((q : Int) + 1))), (7, .int (zN ((cdf (cgo (rvM H row.toNat) c g) q + 0)))), (6, .int (zN (cmx (cgo (rvM H row.toNat) c g) (H.1 18 row.toNat).toNat q))), (0, .ref 0), (1, .int (zN (row))), (2, .int (zN (c))), (3, .int (zN (g))), (4, .int (zN (what))), (5, .int (zN (cws (rvM H row.toNat) c g k))), (9, .int (zN (ceq (cgo (rvM H row.toNat) c g) ((cgo (rvM H row.toNat) c g) q) i))), (10, .int (zN ((if cfst (cgo (rvM H row.toNat) c g) q i = true then 1 else 0)))), (11, .int (zN ((i : Int))))] _ _
                                        refine x_goto (pc := 341) (tgt := 228) dX11_clumps_341 (by decide) ?_
                                        refine x_weaken (L1 := [(0, .ref 0), (1, .int (zN (row))), (2, .int (zN (c))), (3, .int (zN (g))), (4, .int (zN (what))), (5, .int (zN (cws (rvM H row.toNat) c g k))), (6, .int (zN (cmx (cgo (rvM H row.toNat) c g) (H.1 18 row.toNat).toNat (q + 1)))), (7, .int (zN (cdf (cgo (rvM H row.toNat) c g) (q + 1)))), (8, .int (zN ((((q + 1) : Nat) : Int))))]) (List.forall_mem_cons.mpr ⟨(List.Mem.tail _ (List.Mem.tail _ (List.Mem.tail _ (List.Mem.head _)))), (List.forall_mem_cons.mpr ⟨(List.Mem.tail _ (List.Mem.tail _ (List.Mem.tail _ (List.Mem.tail _ (List.Mem.head _))))), (List.forall_mem_cons.mpr ⟨(List.Mem.tail _ (List.Mem.tail _ (List.Mem.tail _ (List.Mem.tail _ (List.Mem.tail _ (List.Mem.head _)))))), (List.forall_mem_cons.mpr ⟨(List.Mem.tail _ (List.Mem.tail _ (List.Mem.tail _ (List.Mem.tail _ (List.Mem.tail _ (List.Mem.tail _ (List.Mem.head _))))))), (List.forall_mem_cons.mpr ⟨(List.Mem.tail _ (List.Mem.tail _ (List.Mem.tail _ (List.Mem.tail _ (List.Mem.tail _ (List.Mem.tail _ (List.Mem.tail _ (List.Mem.head _)))))))), (List.forall_mem_cons.mpr ⟨(List.Mem.tail _ (List.Mem.tail _ (List.Mem.tail _ (List.Mem.tail _ (List.Mem.tail _ (List.Mem.tail _ (List.Mem.tail _ (List.Mem.tail _ (List.Mem.head _))))))))), (List.forall_mem_cons.mpr ⟨(mem_ci (by show (if cmx (cgo (rvM H row.toNat) c g) (H.1 18 row.toNat).toNat q < ceq (cgo (rvM H row.toNat) c g) ((cgo (rvM H row.toNat) c g) q) (H.1 18 row.toNat).toNat then ceq (cgo (rvM H row.toNat) c g) ((cgo (rvM H row.toNat) c g) q) (H.1 18 row.toNat).toNat else cmx (cgo (rvM H row.toNat) c g) (H.1 18 row.toNat).toNat q) = _; rw [← ei]; first | exact if_pos (by rw [← ei] at *; omega) | exact if_neg (by rw [← ei] at *; omega)) (List.Mem.tail _ (List.Mem.tail _ (List.Mem.head _)))), (List.forall_mem_cons.mpr ⟨(mem_ci (by show cdf (cgo (rvM H row.toNat) c g) q + (if cnew (cgo (rvM H row.toNat) c g) q q = true then 1 else 0) = _; rw [hd0]; rfl) (List.Mem.tail _ (List.Mem.head _))), (List.forall_mem_cons.mpr ⟨(mem_ci (by omega) (List.Mem.head _)), (fun _ h => absurd h List.not_mem_nil)⟩)⟩)⟩)⟩)⟩)⟩)⟩)⟩)⟩) ?_
                                        exact ih228 ((q + 1)) (by first | assumption | omega) (by omega)
                                      · skip
                                        have hd0 := ite01_1 hb31
                                        rw [ei, cfst_all (N := (H.1 18 row.toNat).toNat) (by omega)] at hd0
                                        refine z_iconst (pc := 330) dX11_clumps_330 ?_
                                        refine x_goto (pc := 331) (tgt := 335) dX11_clumps_331 (by decide) ?_
                                        refine z_iadd (pc := 335) dX11_clumps_335 ?_
                                        refine x_istore (pc := 336) dX11_clumps_336 (Nat.le_of_ble_eq_true rfl) ?_
                                        show Ev _ _ _ _ _ [(7, .int (zN ((cdf (cgo (rvM H row.toNat) c g) q + 1)))), (6, .int (zN (cmx (cgo (rvM H row.toNat) c g) (H.1 18 row.toNat).toNat q))), (0, .ref 0), (1, .int (zN (row))), (2, .int (zN (c))), (3, .int (zN (g))), (4, .int (zN (what))), (5, .int (zN (cws (rvM H row.toNat) c g k))), (8, .int (zN ((q : Int)))), (9, .int (zN (ceq (cgo (rvM H row.toNat) c g) ((cgo (rvM H row.toNat) c g) q) i))), (10, .int (zN ((if cfst (cgo (rvM H row.toNat) c g) q i = true then 1 else 0)))), (11, .int (zN ((i : Int))))] _ _
                                        refine z_iinc (pc := 338) dX11_clumps_338 (List.Mem.tail _ (List.Mem.tail _ (List.Mem.tail _ (List.Mem.tail _ (List.Mem.tail _ (List.Mem.tail _ (List.Mem.tail _ (List.Mem.tail _ (List.Mem.head _))))))))) (Nat.le_of_ble_eq_true rfl) ?_
                                        show Ev _ _ _ _ _ [(8, .int (zN ((q : Int) + 1))), (7, .int (zN ((cdf (cgo (rvM H row.toNat) c g) q + 1)))), (6, .int (zN (cmx (cgo (rvM H row.toNat) c g) (H.1 18 row.toNat).toNat q))), (0, .ref 0), (1, .int (zN (row))), (2, .int (zN (c))), (3, .int (zN (g))), (4, .int (zN (what))), (5, .int (zN (cws (rvM H row.toNat) c g k))), (9, .int (zN (ceq (cgo (rvM H row.toNat) c g) ((cgo (rvM H row.toNat) c g) q) i))), (10, .int (zN ((if cfst (cgo (rvM H row.toNat) c g) q i = true then 1 else 0)))), (11, .int (zN ((i : Int))))] _ _
                                        refine x_goto (pc := 341) (tgt := 228) dX11_clumps_341 (by decide) ?_
                                        refine x_weaken (L1 := [(0, .ref 0), (1, .int (zN (row))), (2, .int (zN (c))), (3, .int (zN (g))), (4, .int (zN (what))), (5, .int (zN (cws (rvM H row.toNat) c g k))), (6, .int (zN (cmx (cgo (rvM H row.toNat) c g) (H.1 18 row.toNat).toNat (q + 1)))), (7, .int (zN (cdf (cgo (rvM H row.toNat) c g) (q + 1)))), (8, .int (zN ((((q + 1) : Nat) : Int))))]) (List.forall_mem_cons.mpr ⟨(List.Mem.tail _ (List.Mem.tail _ (List.Mem.tail _ (List.Mem.head _)))), (List.forall_mem_cons.mpr ⟨(List.Mem.tail _ (List.Mem.tail _ (List.Mem.tail _ (List.Mem.tail _ (List.Mem.head _))))), (List.forall_mem_cons.mpr ⟨(List.Mem.tail _ (List.Mem.tail _ (List.Mem.tail _ (List.Mem.tail _ (List.Mem.tail _ (List.Mem.head _)))))), (List.forall_mem_cons.mpr ⟨(List.Mem.tail _ (List.Mem.tail _ (List.Mem.tail _ (List.Mem.tail _ (List.Mem.tail _ (List.Mem.tail _ (List.Mem.head _))))))), (List.forall_mem_cons.mpr ⟨(List.Mem.tail _ (List.Mem.tail _ (List.Mem.tail _ (List.Mem.tail _ (List.Mem.tail _ (List.Mem.tail _ (List.Mem.tail _ (List.Mem.head _)))))))), (List.forall_mem_cons.mpr ⟨(List.Mem.tail _ (List.Mem.tail _ (List.Mem.tail _ (List.Mem.tail _ (List.Mem.tail _ (List.Mem.tail _ (List.Mem.tail _ (List.Mem.tail _ (List.Mem.head _))))))))), (List.forall_mem_cons.mpr ⟨(mem_ci (by show (if cmx (cgo (rvM H row.toNat) c g) (H.1 18 row.toNat).toNat q < ceq (cgo (rvM H row.toNat) c g) ((cgo (rvM H row.toNat) c g) q) (H.1 18 row.toNat).toNat then ceq (cgo (rvM H row.toNat) c g) ((cgo (rvM H row.toNat) c g) q) (H.1 18 row.toNat).toNat else cmx (cgo (rvM H row.toNat) c g) (H.1 18 row.toNat).toNat q) = _; rw [← ei]; first | exact if_pos (by rw [← ei] at *; omega) | exact if_neg (by rw [← ei] at *; omega)) (List.Mem.tail _ (List.Mem.tail _ (List.Mem.head _)))), (List.forall_mem_cons.mpr ⟨(mem_ci (by show cdf (cgo (rvM H row.toNat) c g) q + (if cnew (cgo (rvM H row.toNat) c g) q q = true then 1 else 0) = _; rw [hd0]; rfl) (List.Mem.tail _ (List.Mem.head _))), (List.forall_mem_cons.mpr ⟨(mem_ci (by omega) (List.Mem.head _)), (fun _ h => absurd h List.not_mem_nil)⟩)⟩)⟩)⟩)⟩)⟩)⟩)⟩)⟩) ?_
                                        exact ih228 ((q + 1)) (by first | assumption | omega) (by omega)
                                    · skip
                                      refine x_iload (pc := 314) dX11_clumps_314 (List.Mem.tail _ (List.Mem.tail _ (List.Mem.tail _ (List.Mem.tail _ (List.Mem.tail _ (List.Mem.tail _ (List.Mem.tail _ (List.Mem.tail _ (List.Mem.tail _ (List.Mem.head _)))))))))) ?_
                                      refine x_goto (pc := 316) (tgt := 321) dX11_clumps_316 (by decide) ?_
                                      refine x_istore (pc := 321) dX11_clumps_321 (Nat.le_of_ble_eq_true rfl) ?_
                                      show Ev _ _ _ _ _ [(6, .int (zN (ceq (cgo (rvM H row.toNat) c g) ((cgo (rvM H row.toNat) c g) q) i))), (0, .ref 0), (1, .int (zN (row))), (2, .int (zN (c))), (3, .int (zN (g))), (4, .int (zN (what))), (5, .int (zN (cws (rvM H row.toNat) c g k))), (7, .int (zN (cdf (cgo (rvM H row.toNat) c g) q))), (8, .int (zN ((q : Int)))), (9, .int (zN (ceq (cgo (rvM H row.toNat) c g) ((cgo (rvM H row.toNat) c g) q) i))), (10, .int (zN ((if cfst (cgo (rvM H row.toNat) c g) q i = true then 1 else 0)))), (11, .int (zN ((i : Int))))] _ _
                                      refine x_iload (pc := 323) dX11_clumps_323 (List.Mem.tail _ (List.Mem.tail _ (List.Mem.tail _ (List.Mem.tail _ (List.Mem.tail _ (List.Mem.tail _ (List.Mem.tail _ (List.Mem.head _)))))))) ?_
                                      refine x_iload (pc := 325) dX11_clumps_325 (List.Mem.tail _ (List.Mem.tail _ (List.Mem.tail _ (List.Mem.tail _ (List.Mem.tail _ (List.Mem.tail _ (List.Mem.tail _ (List.Mem.tail _ (List.Mem.tail _ (List.Mem.tail _ (List.Mem.head _))))))))))) ?_
                                      refine z_if_eq (pc := 327) (tgt := 334) dX11_clumps_327 (by decide) (by omega) (by omega) (fun hb32 => ?_) (fun hb32 => ?_)
                                      · skip
                                        have hd0 := ite01_0 hb32
                                        rw [ei, cfst_all (N := (H.1 18 row.toNat).toNat) (by omega)] at hd0
                                        refine z_iconst (pc := 334) dX11_clumps_334 ?_
                                        refine z_iadd (pc := 335) dX11_clumps_335 ?_
                                        refine x_istore (pc := 336) dX11_clumps_336 (Nat.le_of_ble_eq_true rfl) ?_
                                        show Ev _ _ _ _ _ [(7, .int (zN ((cdf (cgo (rvM H row.toNat) c g) q + 0)))), (6, .int (zN (ceq (cgo (rvM H row.toNat) c g) ((cgo (rvM H row.toNat) c g) q) i))), (0, .ref 0), (1, .int (zN (row))), (2, .int (zN (c))), (3, .int (zN (g))), (4, .int (zN (what))), (5, .int (zN (cws (rvM H row.toNat) c g k))), (8, .int (zN ((q : Int)))), (9, .int (zN (ceq (cgo (rvM H row.toNat) c g) ((cgo (rvM H row.toNat) c g) q) i))), (10, .int (zN ((if cfst (cgo (rvM H row.toNat) c g) q i = true then 1 else 0)))), (11, .int (zN ((i : Int))))] _ _
                                        refine z_iinc (pc := 338) dX11_clumps_338 (List.Mem.tail _ (List.Mem.tail _ (List.Mem.tail _ (List.Mem.tail _ (List.Mem.tail _ (List.Mem.tail _ (List.Mem.tail _ (List.Mem.tail _ (List.Mem.head _))))))))) (Nat.le_of_ble_eq_true rfl) ?_
                                        show Ev _ _ _ _ _ [(8, .int (zN ((q : Int) + 1))), (7, .int (zN ((cdf (cgo (rvM H row.toNat) c g) q + 0)))), (6, .int (zN (ceq (cgo (rvM H row.toNat) c g) ((cgo (rvM H row.toNat) c g) q) i))), (0, .ref 0), (1, .int (zN (row))), (2, .int (zN (c))), (3, .int (zN (g))), (4, .int (zN (what))), (5, .int (zN (cws (rvM H row.toNat) c g k))), (9, .int (zN (ceq (cgo (rvM H row.toNat) c g) ((cgo (rvM H row.toNat) c g) q) i))), (10, .int (zN ((if cfst (cgo (rvM H row.toNat) c g) q i = true then 1 else 0)))), (11, .int (zN ((i : Int))))] _ _
                                        refine x_goto (pc := 341) (tgt := 228) dX11_clumps_341 (by decide) ?_
                                        refine x_weaken (L1 := [(0, .ref 0), (1, .int (zN (row))), (2, .int (zN (c))), (3, .int (zN (g))), (4, .int (zN (what))), (5, .int (zN (cws (rvM H row.toNat) c g k))), (6, .int (zN (cmx (cgo (rvM H row.toNat) c g) (H.1 18 row.toNat).toNat (q + 1)))), (7, .int (zN (cdf (cgo (rvM H row.toNat) c g) (q + 1)))), (8, .int (zN ((((q + 1) : Nat) : Int))))]) (List.forall_mem_cons.mpr ⟨(List.Mem.tail _ (List.Mem.tail _ (List.Mem.tail _ (List.Mem.head _)))), (List.forall_mem_cons.mpr ⟨(List.Mem.tail _ (List.Mem.tail _ (List.Mem.tail _ (List.Mem.tail _ (List.Mem.head _))))), (List.forall_mem_cons.mpr ⟨(List.Mem.tail _ (List.Mem.tail _ (List.Mem.tail _ (List.Mem.tail _ (List.Mem.tail _ (List.Mem.head _)))))), (List.forall_mem_cons.mpr ⟨(List.Mem.tail _ (List.Mem.tail _ (List.Mem.tail _ (List.Mem.tail _ (List.Mem.tail _ (List.Mem.tail _ (List.Mem.head _))))))), (List.forall_mem_cons.mpr ⟨(List.Mem.tail _ (List.Mem.tail _ (List.Mem.tail _ (List.Mem.tail _ (List.Mem.tail _ (List.Mem.tail _ (List.Mem.tail _ (List.Mem.head _)))))))), (List.forall_mem_cons.mpr ⟨(List.Mem.tail _ (List.Mem.tail _ (List.Mem.tail _ (List.Mem.tail _ (List.Mem.tail _ (List.Mem.tail _ (List.Mem.tail _ (List.Mem.tail _ (List.Mem.head _))))))))), (List.forall_mem_cons.mpr ⟨(mem_ci (by show (if cmx (cgo (rvM H row.toNat) c g) (H.1 18 row.toNat).toNat q < ceq (cgo (rvM H row.toNat) c g) ((cgo (rvM H row.toNat) c g) q) (H.1 18 row.toNat).toNat then ceq (cgo (rvM H row.toNat) c g) ((cgo (rvM H row.toNat) c g) q) (H.1 18 row.toNat).toNat else cmx (cgo (rvM H row.toNat) c g) (H.1 18 row.toNat).toNat q) = _; rw [← ei]; first | exact if_pos (by rw [← ei] at *; omega) | exact if_neg (by rw [← ei] at *; omega)) (List.Mem.tail _ (List.Mem.tail _ (List.Mem.head _)))), (List.forall_mem_cons.mpr ⟨(mem_ci (by show cdf (cgo (rvM H row.toNat) c g) q + (if cnew (cgo (rvM H row.toNat) c g) q q = true then 1 else 0) = _; rw [hd0]; rfl) (List.Mem.tail _ (List.Mem.head _))), (List.forall_mem_cons.mpr ⟨(mem_ci (by omega) (List.Mem.head _)), (fun _ h => absurd h List.not_mem_nil)⟩)⟩)⟩)⟩)⟩)⟩)⟩)⟩)⟩) ?_
                                        exact ih228 ((q + 1)) (by first | assumption | omega) (by omega)
                                      · skip
                                        have hd0 := ite01_1 hb32
                                        rw [ei, cfst_all (N := (H.1 18 row.toNat).toNat) (by omega)] at hd0
                                        refine z_iconst (pc := 330) dX11_clumps_330 ?_
                                        refine x_goto (pc := 331) (tgt := 335) dX11_clumps_331 (by decide) ?_
                                        refine z_iadd (pc := 335) dX11_clumps_335 ?_
                                        refine x_istore (pc := 336) dX11_clumps_336 (Nat.le_of_ble_eq_true rfl) ?_
                                        show Ev _ _ _ _ _ [(7, .int (zN ((cdf (cgo (rvM H row.toNat) c g) q + 1)))), (6, .int (zN (ceq (cgo (rvM H row.toNat) c g) ((cgo (rvM H row.toNat) c g) q) i))), (0, .ref 0), (1, .int (zN (row))), (2, .int (zN (c))), (3, .int (zN (g))), (4, .int (zN (what))), (5, .int (zN (cws (rvM H row.toNat) c g k))), (8, .int (zN ((q : Int)))), (9, .int (zN (ceq (cgo (rvM H row.toNat) c g) ((cgo (rvM H row.toNat) c g) q) i))), (10, .int (zN ((if cfst (cgo (rvM H row.toNat) c g) q i = true then 1 else 0)))), (11, .int (zN ((i : Int))))] _ _
                                        refine z_iinc (pc := 338) dX11_clumps_338 (List.Mem.tail _ (List.Mem.tail _ (List.Mem.tail _ (List.Mem.tail _ (List.Mem.tail _ (List.Mem.tail _ (List.Mem.tail _ (List.Mem.tail _ (List.Mem.head _))))))))) (Nat.le_of_ble_eq_true rfl) ?_
                                        show Ev _ _ _ _ _ [(8, .int (zN ((q : Int) + 1))), (7, .int (zN ((cdf (cgo (rvM H row.toNat) c g) q + 1)))), (6, .int (zN (ceq (cgo (rvM H row.toNat) c g) ((cgo (rvM H row.toNat) c g) q) i))), (0, .ref 0), (1, .int (zN (row))), (2, .int (zN (c))), (3, .int (zN (g))), (4, .int (zN (what))), (5, .int (zN (cws (rvM H row.toNat) c g k))), (9, .int (zN (ceq (cgo (rvM H row.toNat) c g) ((cgo (rvM H row.toNat) c g) q) i))), (10, .int (zN ((if cfst (cgo (rvM H row.toNat) c g) q i = true then 1 else 0)))), (11, .int (zN ((i : Int))))] _ _
                                        refine x_goto (pc := 341) (tgt := 228) dX11_clumps_341 (by decide) ?_
                                        refine x_weaken (L1 := [(0, .ref 0), (1, .int (zN (row))), (2, .int (zN (c))), (3, .int (zN (g))), (4, .int (zN (what))), (5, .int (zN (cws (rvM H row.toNat) c g k))), (6, .int (zN (cmx (cgo (rvM H row.toNat) c g) (H.1 18 row.toNat).toNat (q + 1)))), (7, .int (zN (cdf (cgo (rvM H row.toNat) c g) (q + 1)))), (8, .int (zN ((((q + 1) : Nat) : Int))))]) (List.forall_mem_cons.mpr ⟨(List.Mem.tail _ (List.Mem.tail _ (List.Mem.tail _ (List.Mem.head _)))), (List.forall_mem_cons.mpr ⟨(List.Mem.tail _ (List.Mem.tail _ (List.Mem.tail _ (List.Mem.tail _ (List.Mem.head _))))), (List.forall_mem_cons.mpr ⟨(List.Mem.tail _ (List.Mem.tail _ (List.Mem.tail _ (List.Mem.tail _ (List.Mem.tail _ (List.Mem.head _)))))), (List.forall_mem_cons.mpr ⟨(List.Mem.tail _ (List.Mem.tail _ (List.Mem.tail _ (List.Mem.tail _ (List.Mem.tail _ (List.Mem.tail _ (List.Mem.head _))))))), (List.forall_mem_cons.mpr ⟨(List.Mem.tail _ (List.Mem.tail _ (List.Mem.tail _ (List.Mem.tail _ (List.Mem.tail _ (List.Mem.tail _ (List.Mem.tail _ (List.Mem.head _)))))))), (List.forall_mem_cons.mpr ⟨(List.Mem.tail _ (List.Mem.tail _ (List.Mem.tail _ (List.Mem.tail _ (List.Mem.tail _ (List.Mem.tail _ (List.Mem.tail _ (List.Mem.tail _ (List.Mem.head _))))))))), (List.forall_mem_cons.mpr ⟨(mem_ci (by show (if cmx (cgo (rvM H row.toNat) c g) (H.1 18 row.toNat).toNat q < ceq (cgo (rvM H row.toNat) c g) ((cgo (rvM H row.toNat) c g) q) (H.1 18 row.toNat).toNat then ceq (cgo (rvM H row.toNat) c g) ((cgo (rvM H row.toNat) c g) q) (H.1 18 row.toNat).toNat else cmx (cgo (rvM H row.toNat) c g) (H.1 18 row.toNat).toNat q) = _; rw [← ei]; first | exact if_pos (by rw [← ei] at *; omega) | exact if_neg (by rw [← ei] at *; omega)) (List.Mem.tail _ (List.Mem.tail _ (List.Mem.head _)))), (List.forall_mem_cons.mpr ⟨(mem_ci (by show cdf (cgo (rvM H row.toNat) c g) q + (if cnew (cgo (rvM H row.toNat) c g) q q = true then 1 else 0) = _; rw [hd0]; rfl) (List.Mem.tail _ (List.Mem.head _))), (List.forall_mem_cons.mpr ⟨(mem_ci (by omega) (List.Mem.head _)), (fun _ h => absurd h List.not_mem_nil)⟩)⟩)⟩)⟩)⟩)⟩)⟩)⟩)⟩) ?_
                                        exact ih228 ((q + 1)) (by first | assumption | omega) (by omega)
                                  · skip
                                    have hli := hall i (by omega)
                                    have hlq := hall q (by omega)
                                    have gbi := cgo_bd (f := (rvM H row.toNat)) (c := c) (g := g) (k := i) (hall i (by omega)).1 (hall i (by omega)).2 (by omega) (by omega)
                                    have gbq := cgo_bd (f := (rvM H row.toNat)) (c := c) (g := g) (k := q) (hall q (by omega)).1 (hall q (by omega)).2 (by omega) (by omega)
                                    refine x_aload_n (pc := 259) dX11_clumps_259 (List.Mem.head _) ?_
                                    refine z_getR (pc := 260) (k := 32) (r := 16) dX11_clumps_260 lf_X11_70 sh_0 rfl rf_0_32 ?_
                                    refine x_iload (pc := 263) dX11_clumps_263 (List.Mem.tail _ (List.Mem.tail _ (List.Mem.tail _ (List.Mem.tail _ (List.Mem.tail _ (List.Mem.tail _ (List.Mem.tail _ (List.Mem.tail _ (List.Mem.tail _ (List.Mem.tail _ (List.Mem.tail _ (List.Mem.head _)))))))))))) ?_
                                    refine z_iald (pc := 265) (j := i) (v := ((cgo (rvM H row.toNat) c g) i)) dX11_clumps_265 sh_16 rfl (by omega) (by decide) (by rw [wA1]; exact if_pos (by omega)) ?_
                                    refine x_aload_n (pc := 266) dX11_clumps_266 (List.Mem.head _) ?_
                                    refine z_getR (pc := 267) (k := 32) (r := 16) dX11_clumps_267 lf_X11_70 sh_0 rfl rf_0_32 ?_
                                    refine x_iload (pc := 270) dX11_clumps_270 (List.Mem.tail _ (List.Mem.tail _ (List.Mem.tail _ (List.Mem.tail _ (List.Mem.tail _ (List.Mem.tail _ (List.Mem.tail _ (List.Mem.tail _ (List.Mem.head _))))))))) ?_
                                    refine z_iald (pc := 272) (j := q) (v := ((cgo (rvM H row.toNat) c g) q)) dX11_clumps_272 sh_16 rfl (by omega) (by decide) (by rw [wA1]; exact if_pos (by omega)) ?_
                                    refine z_icmp_eq (pc := 273) (tgt := 279) dX11_clumps_273 (by decide) (by omega) (by omega) (by omega) (by omega) (fun hb33 => ?_) (fun hb33 => ?_)
                                    · skip
                                      refine z_iinc (pc := 279) dX11_clumps_279 (List.Mem.tail _ (List.Mem.tail _ (List.Mem.tail _ (List.Mem.tail _ (List.Mem.tail _ (List.Mem.tail _ (List.Mem.tail _ (List.Mem.tail _ (List.Mem.tail _ (List.Mem.head _)))))))))) (Nat.le_of_ble_eq_true rfl) ?_
                                      show Ev _ _ _ _ _ [(9, .int (zN (ceq (cgo (rvM H row.toNat) c g) ((cgo (rvM H row.toNat) c g) q) i + 1))), (0, .ref 0), (1, .int (zN (row))), (2, .int (zN (c))), (3, .int (zN (g))), (4, .int (zN (what))), (5, .int (zN (cws (rvM H row.toNat) c g k))), (6, .int (zN (cmx (cgo (rvM H row.toNat) c g) (H.1 18 row.toNat).toNat q))), (7, .int (zN (cdf (cgo (rvM H row.toNat) c g) q))), (8, .int (zN ((q : Int)))), (10, .int (zN ((if cfst (cgo (rvM H row.toNat) c g) q i = true then 1 else 0)))), (11, .int (zN ((i : Int))))] _ _
                                      refine x_iload (pc := 282) dX11_clumps_282 (List.Mem.tail _ (List.Mem.tail _ (List.Mem.tail _ (List.Mem.tail _ (List.Mem.tail _ (List.Mem.tail _ (List.Mem.tail _ (List.Mem.tail _ (List.Mem.tail _ (List.Mem.tail _ (List.Mem.head _))))))))))) ?_
                                      refine z_if_eq (pc := 284) (tgt := 298) dX11_clumps_284 (by decide) (by omega) (by omega) (fun hb34 => ?_) (fun hb34 => ?_)
                                      · skip
                                        have hc0 := ite01_0 hb34
                                        refine z_iconst (pc := 298) dX11_clumps_298 ?_
                                        refine x_istore (pc := 299) dX11_clumps_299 (Nat.le_of_ble_eq_true rfl) ?_
                                        show Ev _ _ _ _ _ [(10, .int (zN (0))), (9, .int (zN (ceq (cgo (rvM H row.toNat) c g) ((cgo (rvM H row.toNat) c g) q) i + 1))), (0, .ref 0), (1, .int (zN (row))), (2, .int (zN (c))), (3, .int (zN (g))), (4, .int (zN (what))), (5, .int (zN (cws (rvM H row.toNat) c g k))), (6, .int (zN (cmx (cgo (rvM H row.toNat) c g) (H.1 18 row.toNat).toNat q))), (7, .int (zN (cdf (cgo (rvM H row.toNat) c g) q))), (8, .int (zN ((q : Int)))), (11, .int (zN ((i : Int))))] _ _
                                        refine z_iinc (pc := 301) dX11_clumps_301 (List.Mem.tail _ (List.Mem.tail _ (List.Mem.tail _ (List.Mem.tail _ (List.Mem.tail _ (List.Mem.tail _ (List.Mem.tail _ (List.Mem.tail _ (List.Mem.tail _ (List.Mem.tail _ (List.Mem.tail _ (List.Mem.head _)))))))))))) (Nat.le_of_ble_eq_true rfl) ?_
                                        show Ev _ _ _ _ _ [(11, .int (zN ((i : Int) + 1))), (10, .int (zN (0))), (9, .int (zN (ceq (cgo (rvM H row.toNat) c g) ((cgo (rvM H row.toNat) c g) q) i + 1))), (0, .ref 0), (1, .int (zN (row))), (2, .int (zN (c))), (3, .int (zN (g))), (4, .int (zN (what))), (5, .int (zN (cws (rvM H row.toNat) c g k))), (6, .int (zN (cmx (cgo (rvM H row.toNat) c g) (H.1 18 row.toNat).toNat q))), (7, .int (zN (cdf (cgo (rvM H row.toNat) c g) q))), (8, .int (zN ((q : Int))))] _ _
                                        refine x_goto (pc := 304) (tgt := 248) dX11_clumps_304 (by decide) ?_
                                        refine x_weaken (L1 := [(0, .ref 0), (1, .int (zN (row))), (2, .int (zN (c))), (3, .int (zN (g))), (4, .int (zN (what))), (5, .int (zN (cws (rvM H row.toNat) c g k))), (6, .int (zN (cmx (cgo (rvM H row.toNat) c g) (H.1 18 row.toNat).toNat q))), (7, .int (zN (cdf (cgo (rvM H row.toNat) c g) q))), (8, .int (zN ((q : Int)))), (9, .int (zN (ceq (cgo (rvM H row.toNat) c g) ((cgo (rvM H row.toNat) c g) q) (i + 1)))), (10, .int (zN ((if cfst (cgo (rvM H row.toNat) c g) q (i + 1) = true then 1 else 0)))), (11, .int (zN ((((i + 1) : Nat) : Int))))]) (List.forall_mem_cons.mpr ⟨(List.Mem.tail _ (List.Mem.tail _ (List.Mem.tail _ (List.Mem.head _)))), (List.forall_mem_cons.mpr ⟨(List.Mem.tail _ (List.Mem.tail _ (List.Mem.tail _ (List.Mem.tail _ (List.Mem.head _))))), (List.forall_mem_cons.mpr ⟨(List.Mem.tail _ (List.Mem.tail _ (List.Mem.tail _ (List.Mem.tail _ (List.Mem.tail _ (List.Mem.head _)))))), (List.forall_mem_cons.mpr ⟨(List.Mem.tail _ (List.Mem.tail _ (List.Mem.tail _ (List.Mem.tail _ (List.Mem.tail _ (List.Mem.tail _ (List.Mem.head _))))))), (List.forall_mem_cons.mpr ⟨(List.Mem.tail _ (List.Mem.tail _ (List.Mem.tail _ (List.Mem.tail _ (List.Mem.tail _ (List.Mem.tail _ (List.Mem.tail _ (List.Mem.head _)))))))), (List.forall_mem_cons.mpr ⟨(List.Mem.tail _ (List.Mem.tail _ (List.Mem.tail _ (List.Mem.tail _ (List.Mem.tail _ (List.Mem.tail _ (List.Mem.tail _ (List.Mem.tail _ (List.Mem.head _))))))))), (List.forall_mem_cons.mpr ⟨(List.Mem.tail _ (List.Mem.tail _ (List.Mem.tail _ (List.Mem.tail _ (List.Mem.tail _ (List.Mem.tail _ (List.Mem.tail _ (List.Mem.tail _ (List.Mem.tail _ (List.Mem.head _)))))))))), (List.forall_mem_cons.mpr ⟨(List.Mem.tail _ (List.Mem.tail _ (List.Mem.tail _ (List.Mem.tail _ (List.Mem.tail _ (List.Mem.tail _ (List.Mem.tail _ (List.Mem.tail _ (List.Mem.tail _ (List.Mem.tail _ (List.Mem.head _))))))))))), (List.forall_mem_cons.mpr ⟨(List.Mem.tail _ (List.Mem.tail _ (List.Mem.tail _ (List.Mem.tail _ (List.Mem.tail _ (List.Mem.tail _ (List.Mem.tail _ (List.Mem.tail _ (List.Mem.tail _ (List.Mem.tail _ (List.Mem.tail _ (List.Mem.head _)))))))))))), (List.forall_mem_cons.mpr ⟨(mem_ci (by show ceq (cgo (rvM H row.toNat) c g) ((cgo (rvM H row.toNat) c g) q) i + (if (cgo (rvM H row.toNat) c g) i = (cgo (rvM H row.toNat) c g) q then 1 else 0) = _; first | rw [if_pos (by omega)] | (rw [if_neg (by omega)]; omega)) (List.Mem.tail _ (List.Mem.tail _ (List.Mem.head _)))), (List.forall_mem_cons.mpr ⟨(mem_ci (by show (if (cfst (cgo (rvM H row.toNat) c g) q i && decide ((cgo (rvM H row.toNat) c g) i = (cgo (rvM H row.toNat) c g) q → q ≤ i)) = true then 1 else 0) = _; first | (rw [hc0]; rfl) | (rw [hc1, decide_eq_true (show (cgo (rvM H row.toNat) c g) i = (cgo (rvM H row.toNat) c g) q → q ≤ i from fun _ => by omega)]; rfl) | (rw [hc1, decide_eq_false (show ¬ ((cgo (rvM H row.toNat) c g) i = (cgo (rvM H row.toNat) c g) q → q ≤ i) from fun w => by have := w (by omega); omega)]; rfl) | (rw [decide_eq_true (show (cgo (rvM H row.toNat) c g) i = (cgo (rvM H row.toNat) c g) q → q ≤ i from fun w => by omega), Bool.and_true])) (List.Mem.tail _ (List.Mem.head _))), (List.forall_mem_cons.mpr ⟨(mem_ci (by omega) (List.Mem.head _)), (fun _ h => absurd h List.not_mem_nil)⟩)⟩)⟩)⟩)⟩)⟩)⟩)⟩)⟩)⟩)⟩)⟩) ?_
                                        exact ih248 ((i + 1)) (by first | assumption | omega) (by omega)
                                      · skip
                                        have hc1 := ite01_1 hb34
                                        refine x_iload (pc := 287) dX11_clumps_287 (List.Mem.tail _ (List.Mem.tail _ (List.Mem.tail _ (List.Mem.tail _ (List.Mem.tail _ (List.Mem.tail _ (List.Mem.tail _ (List.Mem.tail _ (List.Mem.tail _ (List.Mem.tail _ (List.Mem.tail _ (List.Mem.head _)))))))))))) ?_
                                        refine x_iload (pc := 289) dX11_clumps_289 (List.Mem.tail _ (List.Mem.tail _ (List.Mem.tail _ (List.Mem.tail _ (List.Mem.tail _ (List.Mem.tail _ (List.Mem.tail _ (List.Mem.tail _ (List.Mem.tail _ (List.Mem.head _)))))))))) ?_
                                        refine z_icmp_lt (pc := 291) (tgt := 298) dX11_clumps_291 (by decide) (by omega) (by omega) (by omega) (by omega) (fun hb35 => ?_) (fun hb35 => ?_)
                                        · skip
                                          refine z_iconst (pc := 298) dX11_clumps_298 ?_
                                          refine x_istore (pc := 299) dX11_clumps_299 (Nat.le_of_ble_eq_true rfl) ?_
                                          show Ev _ _ _ _ _ [(10, .int (zN (0))), (9, .int (zN (ceq (cgo (rvM H row.toNat) c g) ((cgo (rvM H row.toNat) c g) q) i + 1))), (0, .ref 0), (1, .int (zN (row))), (2, .int (zN (c))), (3, .int (zN (g))), (4, .int (zN (what))), (5, .int (zN (cws (rvM H row.toNat) c g k))), (6, .int (zN (cmx (cgo (rvM H row.toNat) c g) (H.1 18 row.toNat).toNat q))), (7, .int (zN (cdf (cgo (rvM H row.toNat) c g) q))), (8, .int (zN ((q : Int)))), (11, .int (zN ((i : Int))))] _ _
                                          refine z_iinc (pc := 301) dX11_clumps_301 (List.Mem.tail _ (List.Mem.tail _ (List.Mem.tail _ (List.Mem.tail _ (List.Mem.tail _ (List.Mem.tail _ (List.Mem.tail _ (List.Mem.tail _ (List.Mem.tail _ (List.Mem.tail _ (List.Mem.tail _ (List.Mem.head _)))))))))))) (Nat.le_of_ble_eq_true rfl) ?_
                                          show Ev _ _ _ _ _ [(11, .int (zN ((i : Int) + 1))), (10, .int (zN (0))), (9, .int (zN (ceq (cgo (rvM H row.toNat) c g) ((cgo (rvM H row.toNat) c g) q) i + 1))), (0, .ref 0), (1, .int (zN (row))), (2, .int (zN (c))), (3, .int (zN (g))), (4, .int (zN (what))), (5, .int (zN (cws (rvM H row.toNat) c g k))), (6, .int (zN (cmx (cgo (rvM H row.toNat) c g) (H.1 18 row.toNat).toNat q))), (7, .int (zN (cdf (cgo (rvM H row.toNat) c g) q))), (8, .int (zN ((q : Int))))] _ _
                                          refine x_goto (pc := 304) (tgt := 248) dX11_clumps_304 (by decide) ?_
                                          refine x_weaken (L1 := [(0, .ref 0), (1, .int (zN (row))), (2, .int (zN (c))), (3, .int (zN (g))), (4, .int (zN (what))), (5, .int (zN (cws (rvM H row.toNat) c g k))), (6, .int (zN (cmx (cgo (rvM H row.toNat) c g) (H.1 18 row.toNat).toNat q))), (7, .int (zN (cdf (cgo (rvM H row.toNat) c g) q))), (8, .int (zN ((q : Int)))), (9, .int (zN (ceq (cgo (rvM H row.toNat) c g) ((cgo (rvM H row.toNat) c g) q) (i + 1)))), (10, .int (zN ((if cfst (cgo (rvM H row.toNat) c g) q (i + 1) = true then 1 else 0)))), (11, .int (zN ((((i + 1) : Nat) : Int))))]) (List.forall_mem_cons.mpr ⟨(List.Mem.tail _ (List.Mem.tail _ (List.Mem.tail _ (List.Mem.head _)))), (List.forall_mem_cons.mpr ⟨(List.Mem.tail _ (List.Mem.tail _ (List.Mem.tail _ (List.Mem.tail _ (List.Mem.head _))))), (List.forall_mem_cons.mpr ⟨(List.Mem.tail _ (List.Mem.tail _ (List.Mem.tail _ (List.Mem.tail _ (List.Mem.tail _ (List.Mem.head _)))))), (List.forall_mem_cons.mpr ⟨(List.Mem.tail _ (List.Mem.tail _ (List.Mem.tail _ (List.Mem.tail _ (List.Mem.tail _ (List.Mem.tail _ (List.Mem.head _))))))), (List.forall_mem_cons.mpr ⟨(List.Mem.tail _ (List.Mem.tail _ (List.Mem.tail _ (List.Mem.tail _ (List.Mem.tail _ (List.Mem.tail _ (List.Mem.tail _ (List.Mem.head _)))))))), (List.forall_mem_cons.mpr ⟨(List.Mem.tail _ (List.Mem.tail _ (List.Mem.tail _ (List.Mem.tail _ (List.Mem.tail _ (List.Mem.tail _ (List.Mem.tail _ (List.Mem.tail _ (List.Mem.head _))))))))), (List.forall_mem_cons.mpr ⟨(List.Mem.tail _ (List.Mem.tail _ (List.Mem.tail _ (List.Mem.tail _ (List.Mem.tail _ (List.Mem.tail _ (List.Mem.tail _ (List.Mem.tail _ (List.Mem.tail _ (List.Mem.head _)))))))))), (List.forall_mem_cons.mpr ⟨(List.Mem.tail _ (List.Mem.tail _ (List.Mem.tail _ (List.Mem.tail _ (List.Mem.tail _ (List.Mem.tail _ (List.Mem.tail _ (List.Mem.tail _ (List.Mem.tail _ (List.Mem.tail _ (List.Mem.head _))))))))))), (List.forall_mem_cons.mpr ⟨(List.Mem.tail _ (List.Mem.tail _ (List.Mem.tail _ (List.Mem.tail _ (List.Mem.tail _ (List.Mem.tail _ (List.Mem.tail _ (List.Mem.tail _ (List.Mem.tail _ (List.Mem.tail _ (List.Mem.tail _ (List.Mem.head _)))))))))))), (List.forall_mem_cons.mpr ⟨(mem_ci (by show ceq (cgo (rvM H row.toNat) c g) ((cgo (rvM H row.toNat) c g) q) i + (if (cgo (rvM H row.toNat) c g) i = (cgo (rvM H row.toNat) c g) q then 1 else 0) = _; first | rw [if_pos (by omega)] | (rw [if_neg (by omega)]; omega)) (List.Mem.tail _ (List.Mem.tail _ (List.Mem.head _)))), (List.forall_mem_cons.mpr ⟨(mem_ci (by show (if (cfst (cgo (rvM H row.toNat) c g) q i && decide ((cgo (rvM H row.toNat) c g) i = (cgo (rvM H row.toNat) c g) q → q ≤ i)) = true then 1 else 0) = _; first | (rw [hc0]; rfl) | (rw [hc1, decide_eq_true (show (cgo (rvM H row.toNat) c g) i = (cgo (rvM H row.toNat) c g) q → q ≤ i from fun _ => by omega)]; rfl) | (rw [hc1, decide_eq_false (show ¬ ((cgo (rvM H row.toNat) c g) i = (cgo (rvM H row.toNat) c g) q → q ≤ i) from fun w => by have := w (by omega); omega)]; rfl) | (rw [decide_eq_true (show (cgo (rvM H row.toNat) c g) i = (cgo (rvM H row.toNat) c g) q → q ≤ i from fun w => by omega), Bool.and_true])) (List.Mem.tail _ (List.Mem.head _))), (List.forall_mem_cons.mpr ⟨(mem_ci (by omega) (List.Mem.head _)), (fun _ h => absurd h List.not_mem_nil)⟩)⟩)⟩)⟩)⟩)⟩)⟩)⟩)⟩)⟩)⟩)⟩) ?_
                                          exact ih248 ((i + 1)) (by first | assumption | omega) (by omega)
                                        · skip
                                          refine z_iconst (pc := 294) dX11_clumps_294 ?_
                                          refine x_goto (pc := 295) (tgt := 299) dX11_clumps_295 (by decide) ?_
                                          refine x_istore (pc := 299) dX11_clumps_299 (Nat.le_of_ble_eq_true rfl) ?_
                                          show Ev _ _ _ _ _ [(10, .int (zN (1))), (9, .int (zN (ceq (cgo (rvM H row.toNat) c g) ((cgo (rvM H row.toNat) c g) q) i + 1))), (0, .ref 0), (1, .int (zN (row))), (2, .int (zN (c))), (3, .int (zN (g))), (4, .int (zN (what))), (5, .int (zN (cws (rvM H row.toNat) c g k))), (6, .int (zN (cmx (cgo (rvM H row.toNat) c g) (H.1 18 row.toNat).toNat q))), (7, .int (zN (cdf (cgo (rvM H row.toNat) c g) q))), (8, .int (zN ((q : Int)))), (11, .int (zN ((i : Int))))] _ _
                                          refine z_iinc (pc := 301) dX11_clumps_301 (List.Mem.tail _ (List.Mem.tail _ (List.Mem.tail _ (List.Mem.tail _ (List.Mem.tail _ (List.Mem.tail _ (List.Mem.tail _ (List.Mem.tail _ (List.Mem.tail _ (List.Mem.tail _ (List.Mem.tail _ (List.Mem.head _)))))))))))) (Nat.le_of_ble_eq_true rfl) ?_
                                          show Ev _ _ _ _ _ [(11, .int (zN ((i : Int) + 1))), (10, .int (zN (1))), (9, .int (zN (ceq (cgo (rvM H row.toNat) c g) ((cgo (rvM H row.toNat) c g) q) i + 1))), (0, .ref 0), (1, .int (zN (row))), (2, .int (zN (c))), (3, .int (zN (g))), (4, .int (zN (what))), (5, .int (zN (cws (rvM H row.toNat) c g k))), (6, .int (zN (cmx (cgo (rvM H row.toNat) c g) (H.1 18 row.toNat).toNat q))), (7, .int (zN (cdf (cgo (rvM H row.toNat) c g) q))), (8, .int (zN ((q : Int))))] _ _
                                          refine x_goto (pc := 304) (tgt := 248) dX11_clumps_304 (by decide) ?_
                                          refine x_weaken (L1 := [(0, .ref 0), (1, .int (zN (row))), (2, .int (zN (c))), (3, .int (zN (g))), (4, .int (zN (what))), (5, .int (zN (cws (rvM H row.toNat) c g k))), (6, .int (zN (cmx (cgo (rvM H row.toNat) c g) (H.1 18 row.toNat).toNat q))), (7, .int (zN (cdf (cgo (rvM H row.toNat) c g) q))), (8, .int (zN ((q : Int)))), (9, .int (zN (ceq (cgo (rvM H row.toNat) c g) ((cgo (rvM H row.toNat) c g) q) (i + 1)))), (10, .int (zN ((if cfst (cgo (rvM H row.toNat) c g) q (i + 1) = true then 1 else 0)))), (11, .int (zN ((((i + 1) : Nat) : Int))))]) (List.forall_mem_cons.mpr ⟨(List.Mem.tail _ (List.Mem.tail _ (List.Mem.tail _ (List.Mem.head _)))), (List.forall_mem_cons.mpr ⟨(List.Mem.tail _ (List.Mem.tail _ (List.Mem.tail _ (List.Mem.tail _ (List.Mem.head _))))), (List.forall_mem_cons.mpr ⟨(List.Mem.tail _ (List.Mem.tail _ (List.Mem.tail _ (List.Mem.tail _ (List.Mem.tail _ (List.Mem.head _)))))), (List.forall_mem_cons.mpr ⟨(List.Mem.tail _ (List.Mem.tail _ (List.Mem.tail _ (List.Mem.tail _ (List.Mem.tail _ (List.Mem.tail _ (List.Mem.head _))))))), (List.forall_mem_cons.mpr ⟨(List.Mem.tail _ (List.Mem.tail _ (List.Mem.tail _ (List.Mem.tail _ (List.Mem.tail _ (List.Mem.tail _ (List.Mem.tail _ (List.Mem.head _)))))))), (List.forall_mem_cons.mpr ⟨(List.Mem.tail _ (List.Mem.tail _ (List.Mem.tail _ (List.Mem.tail _ (List.Mem.tail _ (List.Mem.tail _ (List.Mem.tail _ (List.Mem.tail _ (List.Mem.head _))))))))), (List.forall_mem_cons.mpr ⟨(List.Mem.tail _ (List.Mem.tail _ (List.Mem.tail _ (List.Mem.tail _ (List.Mem.tail _ (List.Mem.tail _ (List.Mem.tail _ (List.Mem.tail _ (List.Mem.tail _ (List.Mem.head _)))))))))), (List.forall_mem_cons.mpr ⟨(List.Mem.tail _ (List.Mem.tail _ (List.Mem.tail _ (List.Mem.tail _ (List.Mem.tail _ (List.Mem.tail _ (List.Mem.tail _ (List.Mem.tail _ (List.Mem.tail _ (List.Mem.tail _ (List.Mem.head _))))))))))), (List.forall_mem_cons.mpr ⟨(List.Mem.tail _ (List.Mem.tail _ (List.Mem.tail _ (List.Mem.tail _ (List.Mem.tail _ (List.Mem.tail _ (List.Mem.tail _ (List.Mem.tail _ (List.Mem.tail _ (List.Mem.tail _ (List.Mem.tail _ (List.Mem.head _)))))))))))), (List.forall_mem_cons.mpr ⟨(mem_ci (by show ceq (cgo (rvM H row.toNat) c g) ((cgo (rvM H row.toNat) c g) q) i + (if (cgo (rvM H row.toNat) c g) i = (cgo (rvM H row.toNat) c g) q then 1 else 0) = _; first | rw [if_pos (by omega)] | (rw [if_neg (by omega)]; omega)) (List.Mem.tail _ (List.Mem.tail _ (List.Mem.head _)))), (List.forall_mem_cons.mpr ⟨(mem_ci (by show (if (cfst (cgo (rvM H row.toNat) c g) q i && decide ((cgo (rvM H row.toNat) c g) i = (cgo (rvM H row.toNat) c g) q → q ≤ i)) = true then 1 else 0) = _; first | (rw [hc0]; rfl) | (rw [hc1, decide_eq_true (show (cgo (rvM H row.toNat) c g) i = (cgo (rvM H row.toNat) c g) q → q ≤ i from fun _ => by omega)]; rfl) | (rw [hc1, decide_eq_false (show ¬ ((cgo (rvM H row.toNat) c g) i = (cgo (rvM H row.toNat) c g) q → q ≤ i) from fun w => by have := w (by omega); omega)]; rfl) | (rw [decide_eq_true (show (cgo (rvM H row.toNat) c g) i = (cgo (rvM H row.toNat) c g) q → q ≤ i from fun w => by omega), Bool.and_true])) (List.Mem.tail _ (List.Mem.head _))), (List.forall_mem_cons.mpr ⟨(mem_ci (by omega) (List.Mem.head _)), (fun _ h => absurd h List.not_mem_nil)⟩)⟩)⟩)⟩)⟩)⟩)⟩)⟩)⟩)⟩)⟩)⟩) ?_
                                          exact ih248 ((i + 1)) (by first | assumption | omega) (by omega)
                                    · skip
                                      refine x_goto (pc := 276) (tgt := 301) dX11_clumps_276 (by decide) ?_
                                      refine z_iinc (pc := 301) dX11_clumps_301 (List.Mem.tail _ (List.Mem.tail _ (List.Mem.tail _ (List.Mem.tail _ (List.Mem.tail _ (List.Mem.tail _ (List.Mem.tail _ (List.Mem.tail _ (List.Mem.tail _ (List.Mem.tail _ (List.Mem.tail _ (List.Mem.head _)))))))))))) (Nat.le_of_ble_eq_true rfl) ?_
                                      show Ev _ _ _ _ _ [(11, .int (zN ((i : Int) + 1))), (0, .ref 0), (1, .int (zN (row))), (2, .int (zN (c))), (3, .int (zN (g))), (4, .int (zN (what))), (5, .int (zN (cws (rvM H row.toNat) c g k))), (6, .int (zN (cmx (cgo (rvM H row.toNat) c g) (H.1 18 row.toNat).toNat q))), (7, .int (zN (cdf (cgo (rvM H row.toNat) c g) q))), (8, .int (zN ((q : Int)))), (9, .int (zN (ceq (cgo (rvM H row.toNat) c g) ((cgo (rvM H row.toNat) c g) q) i))), (10, .int (zN ((if cfst (cgo (rvM H row.toNat) c g) q i = true then 1 else 0))))] _ _
                                      refine x_goto (pc := 304) (tgt := 248) dX11_clumps_304 (by decide) ?_
                                      refine x_weaken (L1 := [(0, .ref 0), (1, .int (zN (row))), (2, .int (zN (c))), (3, .int (zN (g))), (4, .int (zN (what))), (5, .int (zN (cws (rvM H row.toNat) c g k))), (6, .int (zN (cmx (cgo (rvM H row.toNat) c g) (H.1 18 row.toNat).toNat q))), (7, .int (zN (cdf (cgo (rvM H row.toNat) c g) q))), (8, .int (zN ((q : Int)))), (9, .int (zN (ceq (cgo (rvM H row.toNat) c g) ((cgo (rvM H row.toNat) c g) q) (i + 1)))), (10, .int (zN ((if cfst (cgo (rvM H row.toNat) c g) q (i + 1) = true then 1 else 0)))), (11, .int (zN ((((i + 1) : Nat) : Int))))]) (List.forall_mem_cons.mpr ⟨(List.Mem.tail _ (List.Mem.head _)), (List.forall_mem_cons.mpr ⟨(List.Mem.tail _ (List.Mem.tail _ (List.Mem.head _))), (List.forall_mem_cons.mpr ⟨(List.Mem.tail _ (List.Mem.tail _ (List.Mem.tail _ (List.Mem.head _)))), (List.forall_mem_cons.mpr ⟨(List.Mem.tail _ (List.Mem.tail _ (List.Mem.tail _ (List.Mem.tail _ (List.Mem.head _))))), (List.forall_mem_cons.mpr ⟨(List.Mem.tail _ (List.Mem.tail _ (List.Mem.tail _ (List.Mem.tail _ (List.Mem.tail _ (List.Mem.head _)))))), (List.forall_mem_cons.mpr ⟨(List.Mem.tail _ (List.Mem.tail _ (List.Mem.tail _ (List.Mem.tail _ (List.Mem.tail _ (List.Mem.tail _ (List.Mem.head _))))))), (List.forall_mem_cons.mpr ⟨(List.Mem.tail _ (List.Mem.tail _ (List.Mem.tail _ (List.Mem.tail _ (List.Mem.tail _ (List.Mem.tail _ (List.Mem.tail _ (List.Mem.head _)))))))), (List.forall_mem_cons.mpr ⟨(List.Mem.tail _ (List.Mem.tail _ (List.Mem.tail _ (List.Mem.tail _ (List.Mem.tail _ (List.Mem.tail _ (List.Mem.tail _ (List.Mem.tail _ (List.Mem.head _))))))))), (List.forall_mem_cons.mpr ⟨(List.Mem.tail _ (List.Mem.tail _ (List.Mem.tail _ (List.Mem.tail _ (List.Mem.tail _ (List.Mem.tail _ (List.Mem.tail _ (List.Mem.tail _ (List.Mem.tail _ (List.Mem.head _)))))))))), (List.forall_mem_cons.mpr ⟨(mem_ci (by show ceq (cgo (rvM H row.toNat) c g) ((cgo (rvM H row.toNat) c g) q) i + (if (cgo (rvM H row.toNat) c g) i = (cgo (rvM H row.toNat) c g) q then 1 else 0) = _; first | rw [if_pos (by omega)] | (rw [if_neg (by omega)]; omega)) (List.Mem.tail _ (List.Mem.tail _ (List.Mem.tail _ (List.Mem.tail _ (List.Mem.tail _ (List.Mem.tail _ (List.Mem.tail _ (List.Mem.tail _ (List.Mem.tail _ (List.Mem.tail _ (List.Mem.head _)))))))))))), (List.forall_mem_cons.mpr ⟨(mem_ci (by show (if (cfst (cgo (rvM H row.toNat) c g) q i && decide ((cgo (rvM H row.toNat) c g) i = (cgo (rvM H row.toNat) c g) q → q ≤ i)) = true then 1 else 0) = _; first | (rw [hc0]; rfl) | (rw [hc1, decide_eq_true (show (cgo (rvM H row.toNat) c g) i = (cgo (rvM H row.toNat) c g) q → q ≤ i from fun _ => by omega)]; rfl) | (rw [hc1, decide_eq_false (show ¬ ((cgo (rvM H row.toNat) c g) i = (cgo (rvM H row.toNat) c g) q → q ≤ i) from fun w => by have := w (by omega); omega)]; rfl) | (rw [decide_eq_true (show (cgo (rvM H row.toNat) c g) i = (cgo (rvM H row.toNat) c g) q → q ≤ i from fun w => by omega), Bool.and_true])) (List.Mem.tail _ (List.Mem.tail _ (List.Mem.tail _ (List.Mem.tail _ (List.Mem.tail _ (List.Mem.tail _ (List.Mem.tail _ (List.Mem.tail _ (List.Mem.tail _ (List.Mem.tail _ (List.Mem.tail _ (List.Mem.head _))))))))))))), (List.forall_mem_cons.mpr ⟨(mem_ci (by omega) (List.Mem.head _)), (fun _ h => absurd h List.not_mem_nil)⟩)⟩)⟩)⟩)⟩)⟩)⟩)⟩)⟩)⟩)⟩)⟩) ?_
                                      exact ih248 ((i + 1)) (by first | assumption | omega) (by omega)
                              refine x_weaken (L1 := [(0, .ref 0), (1, .int (zN (row))), (2, .int (zN (c))), (3, .int (zN (g))), (4, .int (zN (what))), (5, .int (zN (cws (rvM H row.toNat) c g k))), (6, .int (zN (cmx (cgo (rvM H row.toNat) c g) (H.1 18 row.toNat).toNat q))), (7, .int (zN (cdf (cgo (rvM H row.toNat) c g) q))), (8, .int (zN ((q : Int)))), (9, .int (zN (ceq (cgo (rvM H row.toNat) c g) ((cgo (rvM H row.toNat) c g) q) 0))), (10, .int (zN ((if cfst (cgo (rvM H row.toNat) c g) q 0 = true then 1 else 0)))), (11, .int (zN (((0 : Nat) : Int))))]) (List.forall_mem_cons.mpr ⟨(List.Mem.tail _ (List.Mem.tail _ (List.Mem.tail _ (List.Mem.head _)))), (List.forall_mem_cons.mpr ⟨(List.Mem.tail _ (List.Mem.tail _ (List.Mem.tail _ (List.Mem.tail _ (List.Mem.head _))))), (List.forall_mem_cons.mpr ⟨(List.Mem.tail _ (List.Mem.tail _ (List.Mem.tail _ (List.Mem.tail _ (List.Mem.tail _ (List.Mem.head _)))))), (List.forall_mem_cons.mpr ⟨(List.Mem.tail _ (List.Mem.tail _ (List.Mem.tail _ (List.Mem.tail _ (List.Mem.tail _ (List.Mem.tail _ (List.Mem.head _))))))), (List.forall_mem_cons.mpr ⟨(List.Mem.tail _ (List.Mem.tail _ (List.Mem.tail _ (List.Mem.tail _ (List.Mem.tail _ (List.Mem.tail _ (List.Mem.tail _ (List.Mem.head _)))))))), (List.forall_mem_cons.mpr ⟨(List.Mem.tail _ (List.Mem.tail _ (List.Mem.tail _ (List.Mem.tail _ (List.Mem.tail _ (List.Mem.tail _ (List.Mem.tail _ (List.Mem.tail _ (List.Mem.head _))))))))), (List.forall_mem_cons.mpr ⟨(List.Mem.tail _ (List.Mem.tail _ (List.Mem.tail _ (List.Mem.tail _ (List.Mem.tail _ (List.Mem.tail _ (List.Mem.tail _ (List.Mem.tail _ (List.Mem.tail _ (List.Mem.head _)))))))))), (List.forall_mem_cons.mpr ⟨(List.Mem.tail _ (List.Mem.tail _ (List.Mem.tail _ (List.Mem.tail _ (List.Mem.tail _ (List.Mem.tail _ (List.Mem.tail _ (List.Mem.tail _ (List.Mem.tail _ (List.Mem.tail _ (List.Mem.head _))))))))))), (List.forall_mem_cons.mpr ⟨(List.Mem.tail _ (List.Mem.tail _ (List.Mem.tail _ (List.Mem.tail _ (List.Mem.tail _ (List.Mem.tail _ (List.Mem.tail _ (List.Mem.tail _ (List.Mem.tail _ (List.Mem.tail _ (List.Mem.tail _ (List.Mem.head _)))))))))))), (List.forall_mem_cons.mpr ⟨(mem_ci (rfl) (List.Mem.tail _ (List.Mem.tail _ (List.Mem.head _)))), (List.forall_mem_cons.mpr ⟨(mem_ci (rfl) (List.Mem.tail _ (List.Mem.head _))), (List.forall_mem_cons.mpr ⟨(mem_ci (by omega) (List.Mem.head _)), (fun _ h => absurd h List.not_mem_nil)⟩)⟩)⟩)⟩)⟩)⟩)⟩)⟩)⟩)⟩)⟩)⟩) ?_
                              exact lp248 ((H.1 18 row.toNat).toNat - 0 + 1) (0) (by first | assumption | omega) (Nat.lt_succ_self _)
                        refine x_weaken (L1 := [(0, .ref 0), (1, .int (zN (row))), (2, .int (zN (c))), (3, .int (zN (g))), (4, .int (zN (what))), (5, .int (zN (cws (rvM H row.toNat) c g k))), (6, .int (zN (cmx (cgo (rvM H row.toNat) c g) (H.1 18 row.toNat).toNat 0))), (7, .int (zN (cdf (cgo (rvM H row.toNat) c g) 0))), (8, .int (zN (((0 : Nat) : Int))))]) (List.forall_mem_cons.mpr ⟨(List.Mem.tail _ (List.Mem.tail _ (List.Mem.tail _ (List.Mem.head _)))), (List.forall_mem_cons.mpr ⟨(List.Mem.tail _ (List.Mem.tail _ (List.Mem.tail _ (List.Mem.tail _ (List.Mem.head _))))), (List.forall_mem_cons.mpr ⟨(List.Mem.tail _ (List.Mem.tail _ (List.Mem.tail _ (List.Mem.tail _ (List.Mem.tail _ (List.Mem.head _)))))), (List.forall_mem_cons.mpr ⟨(List.Mem.tail _ (List.Mem.tail _ (List.Mem.tail _ (List.Mem.tail _ (List.Mem.tail _ (List.Mem.tail _ (List.Mem.head _))))))), (List.forall_mem_cons.mpr ⟨(List.Mem.tail _ (List.Mem.tail _ (List.Mem.tail _ (List.Mem.tail _ (List.Mem.tail _ (List.Mem.tail _ (List.Mem.tail _ (List.Mem.head _)))))))), (List.forall_mem_cons.mpr ⟨(List.Mem.tail _ (List.Mem.tail _ (List.Mem.tail _ (List.Mem.tail _ (List.Mem.tail _ (List.Mem.tail _ (List.Mem.tail _ (List.Mem.tail _ (List.Mem.head _))))))))), (List.forall_mem_cons.mpr ⟨(mem_ci (rfl) (List.Mem.tail _ (List.Mem.tail _ (List.Mem.head _)))), (List.forall_mem_cons.mpr ⟨(mem_ci (rfl) (List.Mem.tail _ (List.Mem.head _))), (List.forall_mem_cons.mpr ⟨(mem_ci (by omega) (List.Mem.head _)), (fun _ h => absurd h List.not_mem_nil)⟩)⟩)⟩)⟩)⟩)⟩)⟩)⟩)⟩) ?_
                        exact lp228 ((H.1 18 row.toNat).toNat - 0 + 1) (0) (by first | assumption | omega) (Nat.lt_succ_self _)
                      · skip
                        have hk2 := hall k (by omega)
                        have gb := cgo_bd (f := (rvM H row.toNat)) (c := c) (g := g) (k := k) hk2.1 hk2.2 (by omega) (by omega)
                        refine x_aload_n (pc := 154) dX11_clumps_154 (List.Mem.head _) ?_
                        refine z_getR (pc := 155) (k := 35) (r := 19) dX11_clumps_155 lf_X11_79 sh_0 rfl rf_0_35 ?_
                        refine z_bipush (pc := 158) dX11_clumps_158 bp_40 ?_
                        refine x_iload_n (pc := 160) dX11_clumps_160 (List.Mem.tail _ (List.Mem.head _)) ?_
                        refine z_imul (pc := 161) dX11_clumps_161 ?_
                        refine x_iload (pc := 162) dX11_clumps_162 (List.Mem.tail _ (List.Mem.tail _ (List.Mem.tail _ (List.Mem.tail _ (List.Mem.tail _ (List.Mem.tail _ (List.Mem.head _))))))) ?_
                        refine z_iadd (pc := 164) dX11_clumps_164 ?_
                        refine z_lald (pc := 165) (j := 40 * row.toNat + k) (v := ((rvM H row.toNat) k)) dX11_clumps_165 sh_19 (by omega) (by omega) (by decide) (by rw [wA2]) ?_
                        refine z_l2i (pc := 166) dX11_clumps_166 ?_
                        refine x_istore (pc := 167) dX11_clumps_167 (Nat.le_of_ble_eq_true rfl) ?_
                        show Ev _ _ _ _ _ [(7, .int (zN ((((rvM H row.toNat) k))))), (0, .ref 0), (1, .int (zN (row))), (2, .int (zN (c))), (3, .int (zN (g))), (4, .int (zN (what))), (5, .int (zN (cws (rvM H row.toNat) c g k))), (6, .int (zN ((k : Int))))] _ _
                        refine x_aload_n (pc := 169) dX11_clumps_169 (List.Mem.tail _ (List.Mem.head _)) ?_
                        refine z_getR (pc := 170) (k := 32) (r := 16) dX11_clumps_170 lf_X11_70 sh_0 rfl rf_0_32 ?_
                        refine x_iload (pc := 173) dX11_clumps_173 (List.Mem.tail _ (List.Mem.tail _ (List.Mem.tail _ (List.Mem.tail _ (List.Mem.tail _ (List.Mem.tail _ (List.Mem.tail _ (List.Mem.head _)))))))) ?_
                        refine x_iload (pc := 175) dX11_clumps_175 (List.Mem.head _) ?_
                        refine x_iload_n (pc := 177) dX11_clumps_177 (List.Mem.tail _ (List.Mem.tail _ (List.Mem.tail _ (List.Mem.head _)))) ?_
                        refine z_iremP (pc := 178) dX11_clumps_178 (by omega) (by omega) (by omega) (by omega) ?_
                        refine x_iload_n (pc := 179) dX11_clumps_179 (List.Mem.tail _ (List.Mem.tail _ (List.Mem.tail _ (List.Mem.tail _ (List.Mem.head _))))) ?_
                        refine z_icmp_ge (pc := 180) (tgt := 188) dX11_clumps_180 (by decide) (by omega) (by omega) (by omega) (by omega) (fun hb36 => ?_) (fun hb36 => ?_)
                        · skip
                          refine x_iload (pc := 188) dX11_clumps_188 (List.Mem.head _) ?_
                          refine x_iload_n (pc := 190) dX11_clumps_190 (List.Mem.tail _ (List.Mem.tail _ (List.Mem.tail _ (List.Mem.head _)))) ?_
                          refine z_iadd (pc := 191) dX11_clumps_191 ?_
                          refine x_iload (pc := 192) dX11_clumps_192 (List.Mem.head _) ?_
                          refine x_iload_n (pc := 194) dX11_clumps_194 (List.Mem.tail _ (List.Mem.tail _ (List.Mem.tail _ (List.Mem.head _)))) ?_
                          refine z_iremP (pc := 195) dX11_clumps_195 (by omega) (by omega) (by omega) (by omega) ?_
                          refine z_isub (pc := 196) dX11_clumps_196 ?_
                          refine z_iast (pc := 197) (j := k) (v := (((((rvM H row.toNat) k)) + c) - ((((rvM H row.toNat) k)) % c))) dX11_clumps_197 sh_16 rfl (by omega) (by decide) ?_
                          have ok37 := okI okl143 16 k (v := (((((rvM H row.toNat) k)) + c) - ((((rvM H row.toNat) k)) % c))) (by omega) (by omega)
                          refine x_iload (pc := 198) dX11_clumps_198 (List.Mem.tail _ (List.Mem.tail _ (List.Mem.tail _ (List.Mem.tail _ (List.Mem.tail _ (List.Mem.tail _ (List.Mem.head _))))))) ?_
                          refine x_aload_n (pc := 200) dX11_clumps_200 (List.Mem.tail _ (List.Mem.head _)) ?_
                          refine z_getR (pc := 201) (k := 32) (r := 16) dX11_clumps_201 lf_X11_70 sh_0 rfl rf_0_32 ?_
                          refine x_iload (pc := 204) dX11_clumps_204 (List.Mem.tail _ (List.Mem.tail _ (List.Mem.tail _ (List.Mem.tail _ (List.Mem.tail _ (List.Mem.tail _ (List.Mem.tail _ (List.Mem.head _)))))))) ?_
                          refine z_iald (pc := 206) (j := k) (v := (((((rvM H row.toNat) k)) + c) - ((((rvM H row.toNat) k)) % c))) dX11_clumps_206 sh_16 rfl (by omega) (by decide) (wI1 _ _ _ _) ?_
                          refine x_iload (pc := 207) dX11_clumps_207 (List.Mem.head _) ?_
                          refine z_isub (pc := 209) dX11_clumps_209 ?_
                          refine z_iadd (pc := 210) dX11_clumps_210 ?_
                          refine x_istore (pc := 211) dX11_clumps_211 (Nat.le_of_ble_eq_true rfl) ?_
                          show Ev _ _ _ _ _ [(5, .int (zN ((cws (rvM H row.toNat) c g k + (((((((rvM H row.toNat) k)) + c) - ((((rvM H row.toNat) k)) % c))) - (((rvM H row.toNat) k))))))), (7, .int (zN ((((rvM H row.toNat) k))))), (0, .ref 0), (1, .int (zN (row))), (2, .int (zN (c))), (3, .int (zN (g))), (4, .int (zN (what))), (6, .int (zN ((k : Int))))] _ _
                          refine z_iinc (pc := 213) dX11_clumps_213 (List.Mem.tail _ (List.Mem.tail _ (List.Mem.tail _ (List.Mem.tail _ (List.Mem.tail _ (List.Mem.tail _ (List.Mem.tail _ (List.Mem.head _)))))))) (Nat.le_of_ble_eq_true rfl) ?_
                          show Ev _ _ _ _ _ [(6, .int (zN ((k : Int) + 1))), (5, .int (zN ((cws (rvM H row.toNat) c g k + (((((((rvM H row.toNat) k)) + c) - ((((rvM H row.toNat) k)) % c))) - (((rvM H row.toNat) k))))))), (7, .int (zN ((((rvM H row.toNat) k))))), (0, .ref 0), (1, .int (zN (row))), (2, .int (zN (c))), (3, .int (zN (g))), (4, .int (zN (what)))] _ _
                          refine x_goto (pc := 216) (tgt := 143) dX11_clumps_216 (by decide) ?_
                          refine x_weaken (L1 := [(0, .ref 0), (1, .int (zN (row))), (2, .int (zN (c))), (3, .int (zN (g))), (4, .int (zN (what))), (5, .int (zN (cws (rvM H row.toNat) c g (k + 1)))), (6, .int (zN ((((k + 1) : Nat) : Int))))]) (List.forall_mem_cons.mpr ⟨(List.Mem.tail _ (List.Mem.tail _ (List.Mem.tail _ (List.Mem.head _)))), (List.forall_mem_cons.mpr ⟨(List.Mem.tail _ (List.Mem.tail _ (List.Mem.tail _ (List.Mem.tail _ (List.Mem.head _))))), (List.forall_mem_cons.mpr ⟨(List.Mem.tail _ (List.Mem.tail _ (List.Mem.tail _ (List.Mem.tail _ (List.Mem.tail _ (List.Mem.head _)))))), (List.forall_mem_cons.mpr ⟨(List.Mem.tail _ (List.Mem.tail _ (List.Mem.tail _ (List.Mem.tail _ (List.Mem.tail _ (List.Mem.tail _ (List.Mem.head _))))))), (List.forall_mem_cons.mpr ⟨(List.Mem.tail _ (List.Mem.tail _ (List.Mem.tail _ (List.Mem.tail _ (List.Mem.tail _ (List.Mem.tail _ (List.Mem.tail _ (List.Mem.head _)))))))), (List.forall_mem_cons.mpr ⟨(mem_ci (by show cws (rvM H row.toNat) c g k + ((cgo (rvM H row.toNat) c g) k - (rvM H row.toNat) k) = _; unfold cgo; first | (rw [if_pos (by omega)]) | (rw [if_neg (by omega)])) (List.Mem.tail _ (List.Mem.head _))), (List.forall_mem_cons.mpr ⟨(mem_ci (by omega) (List.Mem.head _)), (fun _ h => absurd h List.not_mem_nil)⟩)⟩)⟩)⟩)⟩)⟩)⟩) ?_
                          have he38 : (wI (wA H 16 (fun j => if j < k then (cgo (rvM H row.toNat) c g) j else H.1 16 j)) 16 k ((((((rvM H row.toNat) k)) + c) - ((((rvM H row.toNat) k)) % c)))) = (wA H 16 (fun j => if j < (k + 1) then (cgo (rvM H row.toNat) c g) j else H.1 16 j)) := wA_step H 16 (cgo (rvM H row.toNat) c g) k _ (by unfold cgo; first | rw [if_pos (by omega)] | rw [if_neg (by omega)])
                          refine Ev_heq he38 ?_
                          have ok39 : okZ (wA H 16 (fun j => if j < (k + 1) then (cgo (rvM H row.toNat) c g) j else H.1 16 j)) := by rw [← he38]; exact ok37
                          exact ih143 ((k + 1)) ok39 (by first | assumption | omega) (by omega)
                        · skip
                          refine x_iload (pc := 183) dX11_clumps_183 (List.Mem.head _) ?_
                          refine x_goto (pc := 185) (tgt := 197) dX11_clumps_185 (by decide) ?_
                          refine z_iast (pc := 197) (j := k) (v := (((rvM H row.toNat) k))) dX11_clumps_197 sh_16 rfl (by omega) (by decide) ?_
                          have ok40 := okI okl143 16 k (v := (((rvM H row.toNat) k))) (by omega) (by omega)
                          refine x_iload (pc := 198) dX11_clumps_198 (List.Mem.tail _ (List.Mem.tail _ (List.Mem.tail _ (List.Mem.tail _ (List.Mem.tail _ (List.Mem.tail _ (List.Mem.head _))))))) ?_
                          refine x_aload_n (pc := 200) dX11_clumps_200 (List.Mem.tail _ (List.Mem.head _)) ?_
                          refine z_getR (pc := 201) (k := 32) (r := 16) dX11_clumps_201 lf_X11_70 sh_0 rfl rf_0_32 ?_
                          refine x_iload (pc := 204) dX11_clumps_204 (List.Mem.tail _ (List.Mem.tail _ (List.Mem.tail _ (List.Mem.tail _ (List.Mem.tail _ (List.Mem.tail _ (List.Mem.tail _ (List.Mem.head _)))))))) ?_
                          refine z_iald (pc := 206) (j := k) (v := (((rvM H row.toNat) k))) dX11_clumps_206 sh_16 rfl (by omega) (by decide) (wI1 _ _ _ _) ?_
                          refine x_iload (pc := 207) dX11_clumps_207 (List.Mem.head _) ?_
                          refine z_isub (pc := 209) dX11_clumps_209 ?_
                          refine z_iadd (pc := 210) dX11_clumps_210 ?_
                          refine x_istore (pc := 211) dX11_clumps_211 (Nat.le_of_ble_eq_true rfl) ?_
                          show Ev _ _ _ _ _ [(5, .int (zN ((cws (rvM H row.toNat) c g k + (((((rvM H row.toNat) k))) - (((rvM H row.toNat) k))))))), (7, .int (zN ((((rvM H row.toNat) k))))), (0, .ref 0), (1, .int (zN (row))), (2, .int (zN (c))), (3, .int (zN (g))), (4, .int (zN (what))), (6, .int (zN ((k : Int))))] _ _
                          refine z_iinc (pc := 213) dX11_clumps_213 (List.Mem.tail _ (List.Mem.tail _ (List.Mem.tail _ (List.Mem.tail _ (List.Mem.tail _ (List.Mem.tail _ (List.Mem.tail _ (List.Mem.head _)))))))) (Nat.le_of_ble_eq_true rfl) ?_
                          show Ev _ _ _ _ _ [(6, .int (zN ((k : Int) + 1))), (5, .int (zN ((cws (rvM H row.toNat) c g k + (((((rvM H row.toNat) k))) - (((rvM H row.toNat) k))))))), (7, .int (zN ((((rvM H row.toNat) k))))), (0, .ref 0), (1, .int (zN (row))), (2, .int (zN (c))), (3, .int (zN (g))), (4, .int (zN (what)))] _ _
                          refine x_goto (pc := 216) (tgt := 143) dX11_clumps_216 (by decide) ?_
                          refine x_weaken (L1 := [(0, .ref 0), (1, .int (zN (row))), (2, .int (zN (c))), (3, .int (zN (g))), (4, .int (zN (what))), (5, .int (zN (cws (rvM H row.toNat) c g (k + 1)))), (6, .int (zN ((((k + 1) : Nat) : Int))))]) (List.forall_mem_cons.mpr ⟨(List.Mem.tail _ (List.Mem.tail _ (List.Mem.tail _ (List.Mem.head _)))), (List.forall_mem_cons.mpr ⟨(List.Mem.tail _ (List.Mem.tail _ (List.Mem.tail _ (List.Mem.tail _ (List.Mem.head _))))), (List.forall_mem_cons.mpr ⟨(List.Mem.tail _ (List.Mem.tail _ (List.Mem.tail _ (List.Mem.tail _ (List.Mem.tail _ (List.Mem.head _)))))), (List.forall_mem_cons.mpr ⟨(List.Mem.tail _ (List.Mem.tail _ (List.Mem.tail _ (List.Mem.tail _ (List.Mem.tail _ (List.Mem.tail _ (List.Mem.head _))))))), (List.forall_mem_cons.mpr ⟨(List.Mem.tail _ (List.Mem.tail _ (List.Mem.tail _ (List.Mem.tail _ (List.Mem.tail _ (List.Mem.tail _ (List.Mem.tail _ (List.Mem.head _)))))))), (List.forall_mem_cons.mpr ⟨(mem_ci (by show cws (rvM H row.toNat) c g k + ((cgo (rvM H row.toNat) c g) k - (rvM H row.toNat) k) = _; unfold cgo; first | (rw [if_pos (by omega)]) | (rw [if_neg (by omega)])) (List.Mem.tail _ (List.Mem.head _))), (List.forall_mem_cons.mpr ⟨(mem_ci (by omega) (List.Mem.head _)), (fun _ h => absurd h List.not_mem_nil)⟩)⟩)⟩)⟩)⟩)⟩)⟩) ?_
                          have he41 : (wI (wA H 16 (fun j => if j < k then (cgo (rvM H row.toNat) c g) j else H.1 16 j)) 16 k ((((rvM H row.toNat) k)))) = (wA H 16 (fun j => if j < (k + 1) then (cgo (rvM H row.toNat) c g) j else H.1 16 j)) := wA_step H 16 (cgo (rvM H row.toNat) c g) k _ (by unfold cgo; first | rw [if_pos (by omega)] | rw [if_neg (by omega)])
                          refine Ev_heq he41 ?_
                          have ok42 : okZ (wA H 16 (fun j => if j < (k + 1) then (cgo (rvM H row.toNat) c g) j else H.1 16 j)) := by rw [← he41]; exact ok40
                          exact ih143 ((k + 1)) ok42 (by first | assumption | omega) (by omega)
                  refine x_weaken (L1 := [(0, .ref 0), (1, .int (zN (row))), (2, .int (zN (c))), (3, .int (zN (g))), (4, .int (zN (what))), (5, .int (zN (cws (rvM H row.toNat) c g 0))), (6, .int (zN (((0 : Nat) : Int))))]) (List.forall_mem_cons.mpr ⟨(List.Mem.tail _ (List.Mem.tail _ (List.Mem.head _))), (List.forall_mem_cons.mpr ⟨(List.Mem.tail _ (List.Mem.tail _ (List.Mem.tail _ (List.Mem.head _)))), (List.forall_mem_cons.mpr ⟨(List.Mem.tail _ (List.Mem.tail _ (List.Mem.tail _ (List.Mem.tail _ (List.Mem.head _))))), (List.forall_mem_cons.mpr ⟨(List.Mem.tail _ (List.Mem.tail _ (List.Mem.tail _ (List.Mem.tail _ (List.Mem.tail _ (List.Mem.head _)))))), (List.forall_mem_cons.mpr ⟨(List.Mem.tail _ (List.Mem.tail _ (List.Mem.tail _ (List.Mem.tail _ (List.Mem.tail _ (List.Mem.tail _ (List.Mem.head _))))))), (List.forall_mem_cons.mpr ⟨(mem_ci (rfl) (List.Mem.tail _ (List.Mem.head _))), (List.forall_mem_cons.mpr ⟨(mem_ci (by omega) (List.Mem.head _)), (fun _ h => absurd h List.not_mem_nil)⟩)⟩)⟩)⟩)⟩)⟩)⟩) ?_
                  have he43 : H = (wA H 16 (fun j => if j < 0 then (cgo (rvM H row.toNat) c g) j else H.1 16 j)) := wA_zero H 16 (cgo (rvM H row.toNat) c g)
                  refine Ev_heq he43 ?_
                  have ok44 : okZ (wA H 16 (fun j => if j < 0 then (cgo (rvM H row.toNat) c g) j else H.1 16 j)) := by rw [← he43]; exact ok17
                  exact lp143 ((H.1 18 row.toNat).toNat - 0 + 1) (0) ok44 (by first | assumption | omega) (Nat.lt_succ_self _)
                · skip
                  refine x_aload_n (pc := 102) dX11_clumps_102 (List.Mem.head _) ?_
                  refine z_getR (pc := 103) (k := 35) (r := 19) dX11_clumps_103 lf_X11_79 sh_0 rfl rf_0_35 ?_
                  refine z_bipush (pc := 106) dX11_clumps_106 bp_40 ?_
                  refine x_iload_n (pc := 108) dX11_clumps_108 (List.Mem.tail _ (List.Mem.head _)) ?_
                  refine z_imul (pc := 109) dX11_clumps_109 ?_
                  refine x_iload (pc := 110) dX11_clumps_110 (List.Mem.tail _ (List.Mem.tail _ (List.Mem.tail _ (List.Mem.tail _ (List.Mem.tail _ (List.Mem.head _)))))) ?_
                  refine z_iadd (pc := 112) dX11_clumps_112 ?_
                  have rd45 := ok17.2 19 (40 * row.toNat + k0)
                  refine z_lald (pc := 113) (j := 40 * row.toNat + k0) (v := H.2 19 (40 * row.toNat + k0)) dX11_clumps_113 sh_19 (by omega) (by omega) (by decide) rfl ?_
                  refine z_lconst (pc := 114) 0 dX11_clumps_114 rfl ?_
                  refine z_ldc2_w (pc := 115) 9999 dX11_clumps_115 cl_X11_365 (by decide) ?_
                  refine z_callSbp (pc := 118) (i := mX11_within) (S := []) [.long (zL ((H.2 19 (40 * row.toNat + k0)))), .long (zL (0)), .long (zL (9999))] dX11_clumps_118 ml_X11_152 ok_X11_within rfl (Or.inr rfl) (Nat.le_of_ble_eq_true rfl) (c_X11_within (d := d) (v := ((H.2 19 (40 * row.toNat + k0)))) (lo := 0) (hi := 9999) (v1 := (by omega)) (v2 := (by omega)) (lo1 := (by omega)) (lo2 := (by omega)) (hi1 := (by omega)) (hi2 := (by omega)) (ok := ok17)) (fun hc48 ok47 => ?_) (fun hc48 ok47 => ?_)
                  · skip
                    refine z_if_ne (pc := 121) (tgt := 131) dX11_clumps_121 (by decide) (by decide) (by decide) (fun _ => ?_) (fun h => absurd h (by decide))
                    refine z_iinc (pc := 131) dX11_clumps_131 (List.Mem.tail _ (List.Mem.tail _ (List.Mem.tail _ (List.Mem.tail _ (List.Mem.tail _ (List.Mem.head _)))))) (Nat.le_of_ble_eq_true rfl) ?_
                    show Ev _ _ _ _ _ [(5, .int (zN ((k0 : Int) + 1))), (0, .ref 0), (1, .int (zN (row))), (2, .int (zN (c))), (3, .int (zN (g))), (4, .int (zN (what)))] _ _
                    refine x_goto (pc := 134) (tgt := 91) dX11_clumps_134 (by decide) ?_
                    refine x_weaken (L1 := [(0, .ref 0), (1, .int (zN (row))), (2, .int (zN (c))), (3, .int (zN (g))), (4, .int (zN (what))), (5, .int (zN ((((k0 + 1) : Nat) : Int))))]) (List.forall_mem_cons.mpr ⟨(List.Mem.tail _ (List.Mem.head _)), (List.forall_mem_cons.mpr ⟨(List.Mem.tail _ (List.Mem.tail _ (List.Mem.head _))), (List.forall_mem_cons.mpr ⟨(List.Mem.tail _ (List.Mem.tail _ (List.Mem.tail _ (List.Mem.head _)))), (List.forall_mem_cons.mpr ⟨(List.Mem.tail _ (List.Mem.tail _ (List.Mem.tail _ (List.Mem.tail _ (List.Mem.head _))))), (List.forall_mem_cons.mpr ⟨(List.Mem.tail _ (List.Mem.tail _ (List.Mem.tail _ (List.Mem.tail _ (List.Mem.tail _ (List.Mem.head _)))))), (List.forall_mem_cons.mpr ⟨(mem_ci (by omega) (List.Mem.head _)), (fun _ h => absurd h List.not_mem_nil)⟩)⟩)⟩)⟩)⟩)⟩) ?_
                    exact ih91 ((k0 + 1)) (by first | assumption | omega) (lt_s ha (show 0 ≤ H.2 19 (40 * row.toNat + k0) ∧ H.2 19 (40 * row.toNat + k0) ≤ 9999 by omega)) (by omega)
                  · skip
                    refine z_if_ne (pc := 121) (tgt := 131) dX11_clumps_121 (by decide) (by decide) (by decide) (fun h => absurd h (by decide)) (fun _ => ?_)
                    refine x_aload_n (pc := 124) dX11_clumps_124 (List.Mem.head _) ?_
                    refine z_bipush (pc := 125) dX11_clumps_125 bp_m3 ?_
                    refine z_callVip (pc := 127) (i := mX11_no) (S := []) [.int (zN ((-3)))] dX11_clumps_127 ml_X11_89 ok_X11_no rfl sh_0 rfl (Or.inl rfl) (Nat.le_of_ble_eq_true rfl) (c_X11_no (d := d) (code := ((-3))) (code1 := (by omega)) (code2 := (by omega)) (ok := ok47) (cn := (by first | assumption | omega))) (fun r51a r51b ok52 => ?_)
                    show Ev _ _ _ _ _ _ _ (eh (wI H 1 ((refIx ((-3)))) (H.1 1 (refIx ((-3))) + 1)))
                    refine z_ireturn (pc := 130) dX11_clumps_130 rfl (Or.inl rfl) ok52 (by omega) (by omega) ?_
                    have hbad : zwi (rvM H row.toNat) 9999 (H.1 18 row.toNat).toNat = false := zwi_f (k := k0) (by omega) (show ¬ (0 ≤ H.2 19 (40 * row.toNat + k0) ∧ H.2 19 (40 * row.toNat + k0) ≤ 9999) by omega)
                    have e : S_clumps H row c g what = (-3, 1) := by unfold S_clumps; rw [if_pos (by omega), if_pos (by omega)]; exact if_neg (fun q => by rw [hbad] at q; exact absurd q.2 (by decide))
                    rw [e]
                    exact ⟨rfl, H.1 16, by rw [wA_self]; rfl⟩
            refine x_weaken (L1 := [(0, .ref 0), (1, .int (zN (row))), (2, .int (zN (c))), (3, .int (zN (g))), (4, .int (zN (what))), (5, .int (zN (((0 : Nat) : Int))))]) (List.forall_mem_cons.mpr ⟨(List.Mem.tail _ (List.Mem.head _)), (List.forall_mem_cons.mpr ⟨(List.Mem.tail _ (List.Mem.tail _ (List.Mem.head _))), (List.forall_mem_cons.mpr ⟨(List.Mem.tail _ (List.Mem.tail _ (List.Mem.tail _ (List.Mem.head _)))), (List.forall_mem_cons.mpr ⟨(List.Mem.tail _ (List.Mem.tail _ (List.Mem.tail _ (List.Mem.tail _ (List.Mem.head _))))), (List.forall_mem_cons.mpr ⟨(List.Mem.tail _ (List.Mem.tail _ (List.Mem.tail _ (List.Mem.tail _ (List.Mem.tail _ (List.Mem.head _)))))), (List.forall_mem_cons.mpr ⟨(mem_ci (by omega) (List.Mem.head _)), (fun _ h => absurd h List.not_mem_nil)⟩)⟩)⟩)⟩)⟩)⟩) ?_
            exact lp91 ((H.1 18 row.toNat).toNat - 0 + 1) (0) (by first | assumption | omega) (fun j h => absurd h (Nat.not_lt_zero _)) (Nat.lt_succ_self _)
          · skip
            refine z_if_ne (pc := 78) (tgt := 88) dX11_clumps_78 (by decide) (by decide) (by decide) (fun h => absurd h (by decide)) (fun _ => ?_)
            refine x_aload_n (pc := 81) dX11_clumps_81 (List.Mem.head _) ?_
            refine z_bipush (pc := 82) dX11_clumps_82 bp_m3 ?_
            refine z_callVip (pc := 84) (i := mX11_no) (S := []) [.int (zN ((-3)))] dX11_clumps_84 ml_X11_89 ok_X11_no rfl sh_0 rfl (Or.inl rfl) (Nat.le_of_ble_eq_true rfl) (c_X11_no (d := d) (code := ((-3))) (code1 := (by omega)) (code2 := (by omega)) (ok := ok17) (cn := (by first | assumption | omega))) (fun r54a r54b ok55 => ?_)
            show Ev _ _ _ _ _ _ _ (eh (wI H 1 ((refIx ((-3)))) (H.1 1 (refIx ((-3))) + 1)))
            refine z_ireturn (pc := 87) dX11_clumps_87 rfl (Or.inl rfl) ok55 (by omega) (by omega) ?_
            have e : S_clumps H row c g what = (-3, 1) := by unfold S_clumps; rw [if_pos (by omega), if_pos (by omega)]; exact if_neg (fun q => by omega)
            rw [e]
            exact ⟨rfl, H.1 16, by rw [wA_self]; rfl⟩
        · skip
          refine z_if_eq (pc := 65) (tgt := 81) dX11_clumps_65 (by decide) (by decide) (by decide) (fun _ => ?_) (fun h => absurd h (by decide))
          refine x_aload_n (pc := 81) dX11_clumps_81 (List.Mem.head _) ?_
          refine z_bipush (pc := 82) dX11_clumps_82 bp_m3 ?_
          refine z_callVip (pc := 84) (i := mX11_no) (S := []) [.int (zN ((-3)))] dX11_clumps_84 ml_X11_89 ok_X11_no rfl sh_0 rfl (Or.inl rfl) (Nat.le_of_ble_eq_true rfl) (c_X11_no (d := d) (code := ((-3))) (code1 := (by omega)) (code2 := (by omega)) (ok := ok13) (cn := (by first | assumption | omega))) (fun r57a r57b ok58 => ?_)
          show Ev _ _ _ _ _ _ _ (eh (wI H 1 ((refIx ((-3)))) (H.1 1 (refIx ((-3))) + 1)))
          refine z_ireturn (pc := 87) dX11_clumps_87 rfl (Or.inl rfl) ok58 (by omega) (by omega) ?_
          have e : S_clumps H row c g what = (-3, 1) := by unfold S_clumps; rw [if_pos (by omega), if_pos (by omega)]; exact if_neg (fun q => by omega)
          rw [e]
          exact ⟨rfl, H.1 16, by rw [wA_self]; rfl⟩
      · skip
        refine x_aload_n (pc := 47) dX11_clumps_47 (List.Mem.head _) ?_
        refine z_bipush (pc := 48) dX11_clumps_48 bp_m6 ?_
        refine z_callVip (pc := 50) (i := mX11_no) (S := []) [.int (zN ((-6)))] dX11_clumps_50 ml_X11_89 ok_X11_no rfl sh_0 rfl (Or.inl rfl) (Nat.le_of_ble_eq_true rfl) (c_X11_no (d := d) (code := ((-6))) (code1 := (by omega)) (code2 := (by omega)) (ok := ok7) (cn := (by first | assumption | omega))) (fun r59a r59b ok60 => ?_)
        show Ev _ _ _ _ _ _ _ (eh (wI H 1 ((refIx ((-6)))) (H.1 1 (refIx ((-6))) + 1)))
        refine z_ireturn (pc := 53) dX11_clumps_53 rfl (Or.inl rfl) ok60 (by omega) (by omega) ?_
        have e : S_clumps H row c g what = (-6, 3) := by unfold S_clumps; rw [if_pos (by omega), if_neg (by omega)]
        rw [e]
        exact ⟨rfl, H.1 16, by rw [wA_self]; rfl⟩
    · skip
      refine z_if_ne (pc := 27) (tgt := 37) dX11_clumps_27 (by decide) (by decide) (by decide) (fun h => absurd h (by decide)) (fun _ => ?_)
      refine x_aload_n (pc := 30) dX11_clumps_30 (List.Mem.head _) ?_
      refine z_bipush (pc := 31) dX11_clumps_31 bp_m2 ?_
      refine z_callVip (pc := 33) (i := mX11_no) (S := []) [.int (zN ((-2)))] dX11_clumps_33 ml_X11_89 ok_X11_no rfl sh_0 rfl (Or.inl rfl) (Nat.le_of_ble_eq_true rfl) (c_X11_no (d := d) (code := ((-2))) (code1 := (by omega)) (code2 := (by omega)) (ok := ok7) (cn := (by first | assumption | omega))) (fun r62a r62b ok63 => ?_)
      show Ev _ _ _ _ _ _ _ (eh (wI H 1 ((refIx ((-2)))) (H.1 1 (refIx ((-2))) + 1)))
      refine z_ireturn (pc := 36) dX11_clumps_36 rfl (Or.inl rfl) ok63 (by omega) (by omega) ?_
      have e : S_clumps H row c g what = (-2, 0) := by unfold S_clumps; rw [if_neg (by omega)]
      rw [e]
      exact ⟨rfl, H.1 16, by rw [wA_self]; rfl⟩
  · skip
    refine z_if_eq (pc := 14) (tgt := 30) dX11_clumps_14 (by decide) (by decide) (by decide) (fun _ => ?_) (fun h => absurd h (by decide))
    refine x_aload_n (pc := 30) dX11_clumps_30 (List.Mem.head _) ?_
    refine z_bipush (pc := 31) dX11_clumps_31 bp_m2 ?_
    refine z_callVip (pc := 33) (i := mX11_no) (S := []) [.int (zN ((-2)))] dX11_clumps_33 ml_X11_89 ok_X11_no rfl sh_0 rfl (Or.inl rfl) (Nat.le_of_ble_eq_true rfl) (c_X11_no (d := d) (code := ((-2))) (code1 := (by omega)) (code2 := (by omega)) (ok := ok3) (cn := (by first | assumption | omega))) (fun r65a r65b ok66 => ?_)
    show Ev _ _ _ _ _ _ _ (eh (wI H 1 ((refIx ((-2)))) (H.1 1 (refIx ((-2))) + 1)))
    refine z_ireturn (pc := 36) dX11_clumps_36 rfl (Or.inl rfl) ok66 (by omega) (by omega) ?_
    have e : S_clumps H row c g what = (-2, 0) := by unfold S_clumps; rw [if_neg (by omega)]
    rw [e]
    exact ⟨rfl, H.1 16, by rw [wA_self]; rfl⟩


/-! SLIP -/
/-- the sum of differences, how many, of a row put further by d -/
def zab (x : Int) : Int := if 0 ≤ x then x else 0 - x
def zap (f : Nat → Int) (n : Nat) (g : Nat → Int) (m : Nat) (d : Int) : Nat → Int
  | 0 => 0
  | i + 1 => zap f n g m d i + (if 0 ≤ (i : Int) + d ∧ (i : Int) + d < m then zab (zfil f n i - zfil g m ((i : Int) + d).toNat) else 0)
def zshr (m : Nat) (d : Int) : Nat → Int
  | 0 => 0
  | i + 1 => zshr m d i + (if 0 ≤ (i : Int) + d ∧ (i : Int) + d < m then 1 else 0)
theorem zshr_bd (m : Nat) (d : Int) (i : Nat) : 0 ≤ zshr m d i ∧ zshr m d i ≤ i := by
  induction i with
  | zero => exact ⟨Int.le_refl _, Int.le_refl _⟩
  | succ i ih =>
    show 0 ≤ zshr m d i + (if 0 ≤ (i : Int) + d ∧ (i : Int) + d < m then 1 else 0) ∧ zshr m d i + (if 0 ≤ (i : Int) + d ∧ (i : Int) + d < m then 1 else 0) ≤ ((i + 1 : Nat) : Int)
    split <;> omega
theorem zab_bd {x y : Int} (h1 : -1 ≤ x) (h2 : x ≤ 1000000) (h3 : -1 ≤ y) (h4 : y ≤ 1000000) : 0 ≤ zab (x - y) ∧ zab (x - y) ≤ 1000001 := by unfold zab; split <;> omega
theorem zap_bd {f g : Nat → Int} {n m : Nat} {d : Int} (hf : ∀ k, k < n → f k ≤ 1000000) (hg : ∀ k, k < m → g k ≤ 1000000) (i : Nat) (hi : i ≤ n) : 0 ≤ zap f n g m d i ∧ zap f n g m d i ≤ 1000001 * (i : Int) := by
  induction i with
  | zero => exact ⟨Int.le_refl _, Int.le_refl _⟩
  | succ i ih =>
    have a := ih (by omega)
    show 0 ≤ zap f n g m d i + (if 0 ≤ (i : Int) + d ∧ (i : Int) + d < m then zab (zfil f n i - zfil g m ((i : Int) + d).toNat) else 0) ∧ zap f n g m d i + (if 0 ≤ (i : Int) + d ∧ (i : Int) + d < m then zab (zfil f n i - zfil g m ((i : Int) + d).toNat) else 0) ≤ 1000001 * ((i + 1 : Nat) : Int)
    split
    · have x := zfil_bd hf (i := i) (by omega)
      have y := zfil_bd hg (i := ((i : Int) + d).toNat) (by omega)
      have z := zab_bd x.1 x.2.1 y.1 y.2.1
      omega
    · omega
theorem zap_cg {f f' g g' : Nat → Int} {n m : Nat} {d : Int} (hf : ∀ k, k < n → f k = f' k) (hg : ∀ k, k < m → g k = g' k) (i : Nat) (hi : i ≤ n) : zap f n g m d i = zap f' n g' m d i := by
  induction i with
  | zero => rfl
  | succ i ih =>
    show zap f n g m d i + (if 0 ≤ (i : Int) + d ∧ (i : Int) + d < m then zab (zfil f n i - zfil g m ((i : Int) + d).toNat) else 0) = zap f' n g' m d i + (if 0 ≤ (i : Int) + d ∧ (i : Int) + d < m then zab (zfil f' n i - zfil g' m ((i : Int) + d).toNat) else 0)
    rw [ih (by omega)]
    split
    · rw [zfil_cg hf (by omega), zfil_cg hg (by omega)]
    · rfl
def zdk (k : Nat) : Int := if k % 2 = 1 then -(((k : Int) + 1) / 2) else (k : Int) / 2
def zsst (F : Int → Int × Int) (q : Int × Int × Int) (d : Int) : Int × Int × Int := if (F d).2 ≠ 0 ∧ (q.2.1 = 0 ∨ (F d).1 * q.2.1 < q.2.2 * (F d).2) then (d, (F d).2, (F d).1) else q
def zsl (F : Int → Int × Int) : Nat → Int × Int × Int
  | 0 => (-1, 0, 0)
  | k + 1 => zsst F (zsl F k) (zdk k)
theorem zsl_bd {F : Int → Int × Int} (h : ∀ d, (0 ≤ (F d).1 ∧ (F d).1 ≤ 40000040) ∧ (0 ≤ (F d).2 ∧ (F d).2 ≤ 40)) (k : Nat) (hk : k ≤ 7) : (-3 ≤ (zsl F k).1 ∧ (zsl F k).1 ≤ 3) ∧ (0 ≤ (zsl F k).2.1 ∧ (zsl F k).2.1 ≤ 40) ∧ (0 ≤ (zsl F k).2.2 ∧ (zsl F k).2.2 ≤ 40000040) := by
  induction k with
  | zero => exact ⟨⟨(show (-3 : Int) ≤ -1 by decide), (show (-1 : Int) ≤ 3 by decide)⟩, ⟨Int.le_refl _, (show (0 : Int) ≤ 40 by decide)⟩, Int.le_refl _, (show (0 : Int) ≤ 40000040 by decide)⟩
  | succ k ih =>
    have a := ih (by omega)
    have b := h (zdk k)
    have c : -3 ≤ zdk k ∧ zdk k ≤ 3 := by unfold zdk; split <;> omega
    show (-3 ≤ (zsst F (zsl F k) (zdk k)).1 ∧ (zsst F (zsl F k) (zdk k)).1 ≤ 3) ∧ (0 ≤ (zsst F (zsl F k) (zdk k)).2.1 ∧ (zsst F (zsl F k) (zdk k)).2.1 ≤ 40) ∧ (0 ≤ (zsst F (zsl F k) (zdk k)).2.2 ∧ (zsst F (zsl F k) (zdk k)).2.2 ≤ 40000040)
    unfold zsst
    split
    · exact ⟨c, b.2, b.1⟩
    · exact a
/-- once found, always found -/
theorem zsl_pos {F : Int → Int × Int} (h : ∀ d, 0 ≤ (F d).2) (h0 : (F 0).2 ≠ 0) (k : Nat) : 0 < (zsl F (k + 1)).2.1 := by
  induction k with
  | zero =>
    show 0 < (zsst F (-1, 0, 0) (zdk 0)).2.1
    unfold zsst
    have e : zdk 0 = 0 := rfl
    rw [e, if_pos ⟨h0, Or.inl rfl⟩]
    have := h 0
    show 0 < (F 0).2
    omega
  | succ k ih =>
    show 0 < (zsst F (zsl F (k + 1)) (zdk (k + 1))).2.1
    unfold zsst
    split
    · next q =>
      have := h (zdk (k + 1))
      show 0 < (F (zdk (k + 1))).2
      omega
    · exact ih
def okr (H : ZH) (r : Int) : Prop := (0 ≤ r ∧ r ≤ 3) ∧ H.1 17 r.toNat ≠ -1 ∧ zher (rvM H r.toNat) (H.1 18 r.toNat).toNat ≠ 0 ∧ zmuch (rvM H r.toNat) (H.1 18 r.toNat).toNat = false
def zsF (H : ZH) (row other : Int) (d : Int) : Int × Int := (zap (rvM H row.toNat) (H.1 18 row.toNat).toNat (rvM H other.toNat) (H.1 18 other.toNat).toNat d (H.1 18 row.toNat).toNat, zshr (H.1 18 other.toNat).toNat d (H.1 18 row.toNat).toNat)
/-- SLIP's end: r, the counter ix -/
def SlipIs (H : ZH) (row other r : Int) (ix : Nat) : Prop := (okr H row ∧ okr H other ∧ r = (zsl (zsF H row other) 7).1 ∧ ix = 6) ∨ (¬ (okr H row ∧ okr H other) ∧ r = -100 ∧ ix = 0)

theorem c_X5_hasCounts {d : Nat} {H : ZH} (ok : okZ H) {s : Nat} (hs : isRw s) (rw : rwOK H s) : EvC zX (d + 2) mX5_hasCounts [.ref s] (eh H) (zPi (fun (rz : Int) (Hz : ZH) => rz = (if H.1 s 0 = 1 ∧ zmuch (H.2 (s + 1)) (H.1 s 2).toNat = false ∧ 0 < H.1 s 2 ∧ zfil (H.2 (s + 1)) (H.1 s 2).toNat 0 ≠ -1 then 1 else 0) ∧ Hz = H)) := by
  show _ ∧ Ev zX mX5_hasCounts (EvC zX (d + 1)) (zPi (fun (rz : Int) (Hz : ZH) => rz = (if H.1 s 0 = 1 ∧ zmuch (H.2 (s + 1)) (H.1 s 2).toNat = false ∧ 0 < H.1 s 2 ∧ zfil (H.2 (s + 1)) (H.1 s 2).toNat 0 ≠ -1 then 1 else 0) ∧ Hz = H)) 0 [(0, .ref s)] [] (eh H)
  refine ⟨Nat.le_of_ble_eq_true rfl, ?_⟩
  have rwx := rw
  obtain ⟨rwA, rwB, rwC⟩ := rwx
  refine x_aload_n (pc := 0) dX5_hasCounts_0 (List.Mem.head _) ?_
  have rd1 := ok.1 s 0
  refine z_getI (pc := 1) (k := 0) (v := H.1 s 0) dX5_hasCounts_1 lf_X5_24 (sh_Rw0 hs) rfl rfl ?_
  refine z_if_eq (pc := 4) (tgt := 34) dX5_hasCounts_4 (by decide) (by omega) (by omega) (fun hb2 => ?_) (fun hb2 => ?_)
  · skip
    refine z_iconst (pc := 34) dX5_hasCounts_34 ?_
    refine z_ireturn (pc := 35) dX5_hasCounts_35 rfl (Or.inr ⟨rfl, by omega⟩) ok (by decide) (by decide) ?_
    refine ⟨?_, rfl⟩
    first | exact (if_pos ⟨by omega, hmf, by omega, by omega⟩).symm | exact (if_neg (fun q => by rw [hmt] at q; exact absurd q.2.1 (by decide))).symm | exact (if_neg (fun q => by have := q.1; have := q.2.2; omega)).symm
  · skip
    refine x_aload_n (pc := 7) dX5_hasCounts_7 (List.Mem.head _) ?_
    refine z_callVbp (pc := 8) (i := mX5_isBeyondCounts) (S := []) [] dX5_hasCounts_8 ml_X5_28 ok_X5_isBeyondCounts rfl (sh_Rw0 hs) rfl (Or.inr rfl) (Nat.le_of_ble_eq_true rfl) (c_X5_isBeyondCounts (d := d) (s := s) (hs := hs) (ok := ok) (rw := (by first | assumption | omega))) (fun hc5 ok4 => ?_) (fun hc5 ok4 => ?_)
    · skip
      have hmt := hc5
      refine z_if_ne (pc := 11) (tgt := 34) dX5_hasCounts_11 (by decide) (by decide) (by decide) (fun _ => ?_) (fun h => absurd h (by decide))
      refine z_iconst (pc := 34) dX5_hasCounts_34 ?_
      refine z_ireturn (pc := 35) dX5_hasCounts_35 rfl (Or.inr ⟨rfl, by omega⟩) ok4 (by decide) (by decide) ?_
      refine ⟨?_, rfl⟩
      first | exact (if_pos ⟨by omega, hmf, by omega, by omega⟩).symm | exact (if_neg (fun q => by rw [hmt] at q; exact absurd q.2.1 (by decide))).symm | exact (if_neg (fun q => by have := q.1; have := q.2.2; omega)).symm
    · skip
      have hmf := Bool.eq_false_iff.mpr hc5
      have hmb := zmuch_f.mp hmf
      refine z_if_ne (pc := 11) (tgt := 34) dX5_hasCounts_11 (by decide) (by decide) (by decide) (fun h => absurd h (by decide)) (fun _ => ?_)
      refine x_aload_n (pc := 14) dX5_hasCounts_14 (List.Mem.head _) ?_
      have rd8 := ok4.1 s 2
      refine z_getI (pc := 15) (k := 2) (v := H.1 s 2) dX5_hasCounts_15 lf_X5_19 (sh_Rw0 hs) rfl rfl ?_
      refine z_if_le (pc := 18) (tgt := 34) dX5_hasCounts_18 (by decide) (by omega) (by omega) (fun hb9 => ?_) (fun hb9 => ?_)
      · skip
        refine z_iconst (pc := 34) dX5_hasCounts_34 ?_
        refine z_ireturn (pc := 35) dX5_hasCounts_35 rfl (Or.inr ⟨rfl, by omega⟩) ok4 (by decide) (by decide) ?_
        refine ⟨?_, rfl⟩
        first | exact (if_pos ⟨by omega, hmf, by omega, by omega⟩).symm | exact (if_neg (fun q => by rw [hmt] at q; exact absurd q.2.1 (by decide))).symm | exact (if_neg (fun q => by have := q.1; have := q.2.2; omega)).symm
      · skip
        refine x_aload_n (pc := 21) dX5_hasCounts_21 (List.Mem.head _) ?_
        refine z_iconst (pc := 22) dX5_hasCounts_22 ?_
        refine z_callVip (pc := 23) (i := mX5_countAt) (S := []) [.int (zN (0))] dX5_hasCounts_23 ml_X5_32 ok_X5_countAt rfl (sh_Rw0 hs) rfl (Or.inl rfl) (Nat.le_of_ble_eq_true rfl) (c_X5_countAt (d := d) (s := s) (hs := hs) (i := 0) (hi := (by omega)) (ok := ok4) (rw := (by first | assumption | omega)) (hb := hmb)) (fun r10a r10b ok11 => ?_)
        refine z_iconst (pc := 26) dX5_hasCounts_26 ?_
        refine z_icmp_eq (pc := 27) (tgt := 34) dX5_hasCounts_27 (by decide) (by omega) (by omega) (by decide) (by decide) (fun hb12 => ?_) (fun hb12 => ?_)
        · skip
          refine z_iconst (pc := 34) dX5_hasCounts_34 ?_
          refine z_ireturn (pc := 35) dX5_hasCounts_35 rfl (Or.inr ⟨rfl, by omega⟩) ok11 (by decide) (by decide) ?_
          refine ⟨?_, rfl⟩
          first | exact (if_pos ⟨by omega, hmf, by omega, by omega⟩).symm | exact (if_neg (fun q => by rw [hmt] at q; exact absurd q.2.1 (by decide))).symm | exact (if_neg (fun q => by have := q.1; have := q.2.2; omega)).symm
        · skip
          refine z_iconst (pc := 30) dX5_hasCounts_30 ?_
          refine x_goto (pc := 31) (tgt := 35) dX5_hasCounts_31 (by decide) ?_
          refine z_ireturn (pc := 35) dX5_hasCounts_35 rfl (Or.inr ⟨rfl, by omega⟩) ok11 (by decide) (by decide) ?_
          refine ⟨?_, rfl⟩
          first | exact (if_pos ⟨by omega, hmf, by omega, by omega⟩).symm | exact (if_neg (fun q => by rw [hmt] at q; exact absurd q.2.1 (by decide))).symm | exact (if_neg (fun q => by have := q.1; have := q.2.2; omega)).symm

theorem c_X5_sharedWith {d : Nat} {H : ZH} (ok : okZ H) {s : Nat} (hs : isRw s) {o : Nat} (ho : isRw o) {b : Int} (b1 : -3 ≤ b) (b2 : b ≤ 3) (rw : rwOK H s) (rw2 : rwOK H o) : EvC zX (d + 1) mX5_sharedWith [.ref s, .ref o, .int (zN (b))] (eh H) (zPl (fun (rz : Int) (Hz : ZH) => rz = (zshr (H.1 o 2).toNat b (H.1 s 2).toNat) ∧ Hz = H)) := by
  show _ ∧ Ev zX mX5_sharedWith (EvC zX d) (zPl (fun (rz : Int) (Hz : ZH) => rz = (zshr (H.1 o 2).toNat b (H.1 s 2).toNat) ∧ Hz = H)) 0 [(0, .ref s), (1, .ref o), (2, .int (zN (b)))] [] (eh H)
  refine ⟨Nat.le_of_ble_eq_true rfl, ?_⟩
  obtain ⟨rwA, rwB, rwC⟩ := rw
  obtain ⟨rwD, rwE, rwF⟩ := rw2
  refine z_lconst (pc := 0) 0 dX5_sharedWith_0 rfl ?_
  refine x_lstore_n (pc := 1) dX5_sharedWith_1 (Nat.le_of_ble_eq_true rfl) ?_
  show Ev _ _ _ _ _ [(3, .long (zL (0))), (0, .ref s), (1, .ref o), (2, .int (zN (b)))] _ _
  refine z_iconst (pc := 2) dX5_sharedWith_2 ?_
  refine x_istore (pc := 3) dX5_sharedWith_3 (Nat.le_of_ble_eq_true rfl) ?_
  show Ev _ _ _ _ _ [(5, .int (zN (0))), (3, .long (zL (0))), (0, .ref s), (1, .ref o), (2, .int (zN (b)))] _ _
  have lp5 : ∀ (nF : Nat) (i : Nat), ((i : Int) ≤ H.1 s 2) → (H.1 s 2).toNat - i < nF → Ev zX mX5_sharedWith (EvC zX d) (zPl (fun (rz : Int) (Hz : ZH) => rz = (zshr (H.1 o 2).toNat b (H.1 s 2).toNat) ∧ Hz = H)) 5 [(0, .ref s), (1, .ref o), (2, .int (zN (b))), (3, .long (zL ((zshr (H.1 o 2).toNat b i)))), (5, .int (zN ((i : Int))))] [] (eh H) := by
    intro nF
    induction nF with
    | zero => intro i hi hm; exact absurd hm (Nat.not_lt_zero _)
    | succ nF ih5 =>
      intro i hi hm
      have zb := zshr_bd (H.1 o 2).toNat b i
      refine x_iload (pc := 5) dX5_sharedWith_5 (List.Mem.tail _ (List.Mem.tail _ (List.Mem.tail _ (List.Mem.tail _ (List.Mem.head _))))) ?_
      refine x_aload_n (pc := 7) dX5_sharedWith_7 (List.Mem.head _) ?_
      have rd1 := ok.1 s 2
      refine z_getI (pc := 8) (k := 2) (v := H.1 s 2) dX5_sharedWith_8 lf_X5_19 (sh_Rw0 hs) rfl rfl ?_
      refine z_icmp_ge (pc := 11) (tgt := 46) dX5_sharedWith_11 (by decide) (by omega) (by omega) (by omega) (by omega) (fun hb2 => ?_) (fun hb2 => ?_)
      · skip
        refine x_lload_n (pc := 46) dX5_sharedWith_46 (List.Mem.tail _ (List.Mem.tail _ (List.Mem.tail _ (List.Mem.head _)))) ?_
        refine z_lreturn (pc := 47) dX5_sharedWith_47 rfl ok (by omega) (by omega) ?_
        exact ⟨by rw [show i = (H.1 s 2).toNat by omega], rfl⟩
      · skip
        refine x_lload_n (pc := 14) dX5_sharedWith_14 (List.Mem.tail _ (List.Mem.tail _ (List.Mem.tail _ (List.Mem.head _)))) ?_
        refine x_iload (pc := 15) dX5_sharedWith_15 (List.Mem.tail _ (List.Mem.tail _ (List.Mem.tail _ (List.Mem.tail _ (List.Mem.head _))))) ?_
        refine x_iload_n (pc := 17) dX5_sharedWith_17 (List.Mem.tail _ (List.Mem.tail _ (List.Mem.head _))) ?_
        refine z_iadd (pc := 18) dX5_sharedWith_18 ?_
        refine z_if_lt (pc := 19) (tgt := 37) dX5_sharedWith_19 (by decide) (by omega) (by omega) (fun hb3 => ?_) (fun hb3 => ?_)
        · skip
          refine z_lconst (pc := 37) 0 dX5_sharedWith_37 rfl ?_
          refine z_ladd (pc := 38) dX5_sharedWith_38 ?_
          refine x_lstore_n (pc := 39) dX5_sharedWith_39 (Nat.le_of_ble_eq_true rfl) ?_
          show Ev _ _ _ _ _ [(3, .long (zL (((zshr (H.1 o 2).toNat b i) + 0)))), (0, .ref s), (1, .ref o), (2, .int (zN (b))), (5, .int (zN ((i : Int))))] _ _
          refine z_iinc (pc := 40) dX5_sharedWith_40 (List.Mem.tail _ (List.Mem.tail _ (List.Mem.tail _ (List.Mem.tail _ (List.Mem.head _))))) (Nat.le_of_ble_eq_true rfl) ?_
          show Ev _ _ _ _ _ [(5, .int (zN ((i : Int) + 1))), (3, .long (zL (((zshr (H.1 o 2).toNat b i) + 0)))), (0, .ref s), (1, .ref o), (2, .int (zN (b)))] _ _
          refine x_goto (pc := 43) (tgt := 5) dX5_sharedWith_43 (by decide) ?_
          refine x_weaken (L1 := [(0, .ref s), (1, .ref o), (2, .int (zN (b))), (3, .long (zL ((zshr (H.1 o 2).toNat b (i + 1))))), (5, .int (zN ((((i + 1) : Nat) : Int))))]) (List.forall_mem_cons.mpr ⟨(List.Mem.tail _ (List.Mem.tail _ (List.Mem.head _))), (List.forall_mem_cons.mpr ⟨(List.Mem.tail _ (List.Mem.tail _ (List.Mem.tail _ (List.Mem.head _)))), (List.forall_mem_cons.mpr ⟨(List.Mem.tail _ (List.Mem.tail _ (List.Mem.tail _ (List.Mem.tail _ (List.Mem.head _))))), (List.forall_mem_cons.mpr ⟨(mem_cl (by show zshr (H.1 o 2).toNat b i + (if 0 ≤ (i : Int) + b ∧ (i : Int) + b < (H.1 o 2).toNat then 1 else 0) = _; first | rw [if_pos (by omega)] | rw [if_neg (by omega)]) (List.Mem.tail _ (List.Mem.head _))), (List.forall_mem_cons.mpr ⟨(mem_ci (by omega) (List.Mem.head _)), (fun _ h => absurd h List.not_mem_nil)⟩)⟩)⟩)⟩)⟩) ?_
          exact ih5 ((i + 1)) (by first | assumption | omega) (by omega)
        · skip
          refine x_iload (pc := 22) dX5_sharedWith_22 (List.Mem.tail _ (List.Mem.tail _ (List.Mem.tail _ (List.Mem.tail _ (List.Mem.head _))))) ?_
          refine x_iload_n (pc := 24) dX5_sharedWith_24 (List.Mem.tail _ (List.Mem.tail _ (List.Mem.head _))) ?_
          refine z_iadd (pc := 25) dX5_sharedWith_25 ?_
          refine x_aload_n (pc := 26) dX5_sharedWith_26 (List.Mem.tail _ (List.Mem.head _)) ?_
          have rd4 := ok.1 o 2
          refine z_getI (pc := 27) (k := 2) (v := H.1 o 2) dX5_sharedWith_27 lf_X5_19 (sh_Rw0 ho) rfl rfl ?_
          refine z_icmp_ge (pc := 30) (tgt := 37) dX5_sharedWith_30 (by decide) (by omega) (by omega) (by omega) (by omega) (fun hb5 => ?_) (fun hb5 => ?_)
          · skip
            refine z_lconst (pc := 37) 0 dX5_sharedWith_37 rfl ?_
            refine z_ladd (pc := 38) dX5_sharedWith_38 ?_
            refine x_lstore_n (pc := 39) dX5_sharedWith_39 (Nat.le_of_ble_eq_true rfl) ?_
            show Ev _ _ _ _ _ [(3, .long (zL (((zshr (H.1 o 2).toNat b i) + 0)))), (0, .ref s), (1, .ref o), (2, .int (zN (b))), (5, .int (zN ((i : Int))))] _ _
            refine z_iinc (pc := 40) dX5_sharedWith_40 (List.Mem.tail _ (List.Mem.tail _ (List.Mem.tail _ (List.Mem.tail _ (List.Mem.head _))))) (Nat.le_of_ble_eq_true rfl) ?_
            show Ev _ _ _ _ _ [(5, .int (zN ((i : Int) + 1))), (3, .long (zL (((zshr (H.1 o 2).toNat b i) + 0)))), (0, .ref s), (1, .ref o), (2, .int (zN (b)))] _ _
            refine x_goto (pc := 43) (tgt := 5) dX5_sharedWith_43 (by decide) ?_
            refine x_weaken (L1 := [(0, .ref s), (1, .ref o), (2, .int (zN (b))), (3, .long (zL ((zshr (H.1 o 2).toNat b (i + 1))))), (5, .int (zN ((((i + 1) : Nat) : Int))))]) (List.forall_mem_cons.mpr ⟨(List.Mem.tail _ (List.Mem.tail _ (List.Mem.head _))), (List.forall_mem_cons.mpr ⟨(List.Mem.tail _ (List.Mem.tail _ (List.Mem.tail _ (List.Mem.head _)))), (List.forall_mem_cons.mpr ⟨(List.Mem.tail _ (List.Mem.tail _ (List.Mem.tail _ (List.Mem.tail _ (List.Mem.head _))))), (List.forall_mem_cons.mpr ⟨(mem_cl (by show zshr (H.1 o 2).toNat b i + (if 0 ≤ (i : Int) + b ∧ (i : Int) + b < (H.1 o 2).toNat then 1 else 0) = _; first | rw [if_pos (by omega)] | rw [if_neg (by omega)]) (List.Mem.tail _ (List.Mem.head _))), (List.forall_mem_cons.mpr ⟨(mem_ci (by omega) (List.Mem.head _)), (fun _ h => absurd h List.not_mem_nil)⟩)⟩)⟩)⟩)⟩) ?_
            exact ih5 ((i + 1)) (by first | assumption | omega) (by omega)
          · skip
            refine z_lconst (pc := 33) 1 dX5_sharedWith_33 rfl ?_
            refine x_goto (pc := 34) (tgt := 38) dX5_sharedWith_34 (by decide) ?_
            refine z_ladd (pc := 38) dX5_sharedWith_38 ?_
            refine x_lstore_n (pc := 39) dX5_sharedWith_39 (Nat.le_of_ble_eq_true rfl) ?_
            show Ev _ _ _ _ _ [(3, .long (zL (((zshr (H.1 o 2).toNat b i) + 1)))), (0, .ref s), (1, .ref o), (2, .int (zN (b))), (5, .int (zN ((i : Int))))] _ _
            refine z_iinc (pc := 40) dX5_sharedWith_40 (List.Mem.tail _ (List.Mem.tail _ (List.Mem.tail _ (List.Mem.tail _ (List.Mem.head _))))) (Nat.le_of_ble_eq_true rfl) ?_
            show Ev _ _ _ _ _ [(5, .int (zN ((i : Int) + 1))), (3, .long (zL (((zshr (H.1 o 2).toNat b i) + 1)))), (0, .ref s), (1, .ref o), (2, .int (zN (b)))] _ _
            refine x_goto (pc := 43) (tgt := 5) dX5_sharedWith_43 (by decide) ?_
            refine x_weaken (L1 := [(0, .ref s), (1, .ref o), (2, .int (zN (b))), (3, .long (zL ((zshr (H.1 o 2).toNat b (i + 1))))), (5, .int (zN ((((i + 1) : Nat) : Int))))]) (List.forall_mem_cons.mpr ⟨(List.Mem.tail _ (List.Mem.tail _ (List.Mem.head _))), (List.forall_mem_cons.mpr ⟨(List.Mem.tail _ (List.Mem.tail _ (List.Mem.tail _ (List.Mem.head _)))), (List.forall_mem_cons.mpr ⟨(List.Mem.tail _ (List.Mem.tail _ (List.Mem.tail _ (List.Mem.tail _ (List.Mem.head _))))), (List.forall_mem_cons.mpr ⟨(mem_cl (by show zshr (H.1 o 2).toNat b i + (if 0 ≤ (i : Int) + b ∧ (i : Int) + b < (H.1 o 2).toNat then 1 else 0) = _; first | rw [if_pos (by omega)] | rw [if_neg (by omega)]) (List.Mem.tail _ (List.Mem.head _))), (List.forall_mem_cons.mpr ⟨(mem_ci (by omega) (List.Mem.head _)), (fun _ h => absurd h List.not_mem_nil)⟩)⟩)⟩)⟩)⟩) ?_
            exact ih5 ((i + 1)) (by first | assumption | omega) (by omega)
  refine x_weaken (L1 := [(0, .ref s), (1, .ref o), (2, .int (zN (b))), (3, .long (zL ((zshr (H.1 o 2).toNat b 0)))), (5, .int (zN (((0 : Nat) : Int))))]) (List.forall_mem_cons.mpr ⟨(List.Mem.tail _ (List.Mem.tail _ (List.Mem.head _))), (List.forall_mem_cons.mpr ⟨(List.Mem.tail _ (List.Mem.tail _ (List.Mem.tail _ (List.Mem.head _)))), (List.forall_mem_cons.mpr ⟨(List.Mem.tail _ (List.Mem.tail _ (List.Mem.tail _ (List.Mem.tail _ (List.Mem.head _))))), (List.forall_mem_cons.mpr ⟨(mem_cl (rfl) (List.Mem.tail _ (List.Mem.head _))), (List.forall_mem_cons.mpr ⟨(mem_ci (by omega) (List.Mem.head _)), (fun _ h => absurd h List.not_mem_nil)⟩)⟩)⟩)⟩)⟩) ?_
  exact lp5 ((H.1 s 2).toNat - 0 + 1) (0) (by first | assumption | omega) (Nat.lt_succ_self _)

theorem c_X5_apartFrom {d : Nat} {H : ZH} (ok : okZ H) {s : Nat} (hs : isRw s) {o : Nat} (ho : isRw o) {b : Int} (b1 : -3 ≤ b) (b2 : b ≤ 3) (rw : rwOK H s) (rw2 : rwOK H o) (hf : ∀ k, k < (H.1 s 2).toNat → H.2 (s + 1) k ≤ 1000000) (hg : ∀ k, k < (H.1 o 2).toNat → H.2 (o + 1) k ≤ 1000000) : EvC zX (d + 2) mX5_apartFrom [.ref s, .ref o, .int (zN (b))] (eh H) (zPl (fun (rz : Int) (Hz : ZH) => rz = (zap (H.2 (s + 1)) (H.1 s 2).toNat (H.2 (o + 1)) (H.1 o 2).toNat b (H.1 s 2).toNat) ∧ Hz = H)) := by
  show _ ∧ Ev zX mX5_apartFrom (EvC zX (d + 1)) (zPl (fun (rz : Int) (Hz : ZH) => rz = (zap (H.2 (s + 1)) (H.1 s 2).toNat (H.2 (o + 1)) (H.1 o 2).toNat b (H.1 s 2).toNat) ∧ Hz = H)) 0 [(0, .ref s), (1, .ref o), (2, .int (zN (b)))] [] (eh H)
  refine ⟨Nat.le_of_ble_eq_true rfl, ?_⟩
  have rwx := rw
  have rwy := rw2
  obtain ⟨rwA, rwB, rwC⟩ := rwx
  obtain ⟨rwD, rwE, rwF⟩ := rwy
  refine z_lconst (pc := 0) 0 dX5_apartFrom_0 rfl ?_
  refine x_lstore_n (pc := 1) dX5_apartFrom_1 (Nat.le_of_ble_eq_true rfl) ?_
  show Ev _ _ _ _ _ [(3, .long (zL (0))), (0, .ref s), (1, .ref o), (2, .int (zN (b)))] _ _
  refine z_iconst (pc := 2) dX5_apartFrom_2 ?_
  refine x_istore (pc := 3) dX5_apartFrom_3 (Nat.le_of_ble_eq_true rfl) ?_
  show Ev _ _ _ _ _ [(5, .int (zN (0))), (3, .long (zL (0))), (0, .ref s), (1, .ref o), (2, .int (zN (b)))] _ _
  have lp5 : ∀ (nF : Nat) (i : Nat), ((i : Int) ≤ H.1 s 2) → (H.1 s 2).toNat - i < nF → Ev zX mX5_apartFrom (EvC zX (d + 1)) (zPl (fun (rz : Int) (Hz : ZH) => rz = (zap (H.2 (s + 1)) (H.1 s 2).toNat (H.2 (o + 1)) (H.1 o 2).toNat b (H.1 s 2).toNat) ∧ Hz = H)) 5 [(0, .ref s), (1, .ref o), (2, .int (zN (b))), (3, .long (zL ((zap (H.2 (s + 1)) (H.1 s 2).toNat (H.2 (o + 1)) (H.1 o 2).toNat b i)))), (5, .int (zN ((i : Int))))] [] (eh H) := by
    intro nF
    induction nF with
    | zero => intro i hi hm; exact absurd hm (Nat.not_lt_zero _)
    | succ nF ih5 =>
      intro i hi hm
      have zb := zap_bd (d := b) hf hg i (by omega)
      refine x_iload (pc := 5) dX5_apartFrom_5 (List.Mem.tail _ (List.Mem.tail _ (List.Mem.tail _ (List.Mem.tail _ (List.Mem.head _))))) ?_
      refine x_aload_n (pc := 7) dX5_apartFrom_7 (List.Mem.head _) ?_
      have rd1 := ok.1 s 2
      refine z_getI (pc := 8) (k := 2) (v := H.1 s 2) dX5_apartFrom_8 lf_X5_19 (sh_Rw0 hs) rfl rfl ?_
      refine z_icmp_ge (pc := 11) (tgt := 60) dX5_apartFrom_11 (by decide) (by omega) (by omega) (by omega) (by omega) (fun hb2 => ?_) (fun hb2 => ?_)
      · skip
        refine x_lload_n (pc := 60) dX5_apartFrom_60 (List.Mem.tail _ (List.Mem.tail _ (List.Mem.tail _ (List.Mem.head _)))) ?_
        refine z_lreturn (pc := 61) dX5_apartFrom_61 rfl ok (by omega) (by omega) ?_
        exact ⟨by rw [show i = (H.1 s 2).toNat by omega], rfl⟩
      · skip
        refine x_iload (pc := 14) dX5_apartFrom_14 (List.Mem.tail _ (List.Mem.tail _ (List.Mem.tail _ (List.Mem.tail _ (List.Mem.head _))))) ?_
        refine x_iload_n (pc := 16) dX5_apartFrom_16 (List.Mem.tail _ (List.Mem.tail _ (List.Mem.head _))) ?_
        refine z_iadd (pc := 17) dX5_apartFrom_17 ?_
        refine z_if_lt (pc := 18) (tgt := 54) dX5_apartFrom_18 (by decide) (by omega) (by omega) (fun hb3 => ?_) (fun hb3 => ?_)
        · skip
          refine z_iinc (pc := 54) dX5_apartFrom_54 (List.Mem.tail _ (List.Mem.tail _ (List.Mem.tail _ (List.Mem.tail _ (List.Mem.head _))))) (Nat.le_of_ble_eq_true rfl) ?_
          show Ev _ _ _ _ _ [(5, .int (zN ((i : Int) + 1))), (0, .ref s), (1, .ref o), (2, .int (zN (b))), (3, .long (zL ((zap (H.2 (s + 1)) (H.1 s 2).toNat (H.2 (o + 1)) (H.1 o 2).toNat b i))))] _ _
          refine x_goto (pc := 57) (tgt := 5) dX5_apartFrom_57 (by decide) ?_
          refine x_weaken (L1 := [(0, .ref s), (1, .ref o), (2, .int (zN (b))), (3, .long (zL ((zap (H.2 (s + 1)) (H.1 s 2).toNat (H.2 (o + 1)) (H.1 o 2).toNat b (i + 1))))), (5, .int (zN ((((i + 1) : Nat) : Int))))]) (List.forall_mem_cons.mpr ⟨(List.Mem.tail _ (List.Mem.head _)), (List.forall_mem_cons.mpr ⟨(List.Mem.tail _ (List.Mem.tail _ (List.Mem.head _))), (List.forall_mem_cons.mpr ⟨(List.Mem.tail _ (List.Mem.tail _ (List.Mem.tail _ (List.Mem.head _)))), (List.forall_mem_cons.mpr ⟨(mem_cl (by show zap (H.2 (s + 1)) (H.1 s 2).toNat (H.2 (o + 1)) (H.1 o 2).toNat b i + (if 0 ≤ (i : Int) + b ∧ (i : Int) + b < (H.1 o 2).toNat then zab (zfil (H.2 (s + 1)) (H.1 s 2).toNat i - zfil (H.2 (o + 1)) (H.1 o 2).toNat ((i : Int) + b).toNat) else 0) = _; first | (rw [if_pos (by omega)]; rfl) | (rw [if_neg (by omega)]; omega)) (List.Mem.tail _ (List.Mem.tail _ (List.Mem.tail _ (List.Mem.tail _ (List.Mem.head _)))))), (List.forall_mem_cons.mpr ⟨(mem_ci (by omega) (List.Mem.head _)), (fun _ h => absurd h List.not_mem_nil)⟩)⟩)⟩)⟩)⟩) ?_
          exact ih5 ((i + 1)) (by first | assumption | omega) (by omega)
        · skip
          refine x_iload (pc := 21) dX5_apartFrom_21 (List.Mem.tail _ (List.Mem.tail _ (List.Mem.tail _ (List.Mem.tail _ (List.Mem.head _))))) ?_
          refine x_iload_n (pc := 23) dX5_apartFrom_23 (List.Mem.tail _ (List.Mem.tail _ (List.Mem.head _))) ?_
          refine z_iadd (pc := 24) dX5_apartFrom_24 ?_
          refine x_aload_n (pc := 25) dX5_apartFrom_25 (List.Mem.tail _ (List.Mem.head _)) ?_
          have rd4 := ok.1 o 2
          refine z_getI (pc := 26) (k := 2) (v := H.1 o 2) dX5_apartFrom_26 lf_X5_19 (sh_Rw0 ho) rfl rfl ?_
          refine z_icmp_ge (pc := 29) (tgt := 54) dX5_apartFrom_29 (by decide) (by omega) (by omega) (by omega) (by omega) (fun hb5 => ?_) (fun hb5 => ?_)
          · skip
            refine z_iinc (pc := 54) dX5_apartFrom_54 (List.Mem.tail _ (List.Mem.tail _ (List.Mem.tail _ (List.Mem.tail _ (List.Mem.head _))))) (Nat.le_of_ble_eq_true rfl) ?_
            show Ev _ _ _ _ _ [(5, .int (zN ((i : Int) + 1))), (0, .ref s), (1, .ref o), (2, .int (zN (b))), (3, .long (zL ((zap (H.2 (s + 1)) (H.1 s 2).toNat (H.2 (o + 1)) (H.1 o 2).toNat b i))))] _ _
            refine x_goto (pc := 57) (tgt := 5) dX5_apartFrom_57 (by decide) ?_
            refine x_weaken (L1 := [(0, .ref s), (1, .ref o), (2, .int (zN (b))), (3, .long (zL ((zap (H.2 (s + 1)) (H.1 s 2).toNat (H.2 (o + 1)) (H.1 o 2).toNat b (i + 1))))), (5, .int (zN ((((i + 1) : Nat) : Int))))]) (List.forall_mem_cons.mpr ⟨(List.Mem.tail _ (List.Mem.head _)), (List.forall_mem_cons.mpr ⟨(List.Mem.tail _ (List.Mem.tail _ (List.Mem.head _))), (List.forall_mem_cons.mpr ⟨(List.Mem.tail _ (List.Mem.tail _ (List.Mem.tail _ (List.Mem.head _)))), (List.forall_mem_cons.mpr ⟨(mem_cl (by show zap (H.2 (s + 1)) (H.1 s 2).toNat (H.2 (o + 1)) (H.1 o 2).toNat b i + (if 0 ≤ (i : Int) + b ∧ (i : Int) + b < (H.1 o 2).toNat then zab (zfil (H.2 (s + 1)) (H.1 s 2).toNat i - zfil (H.2 (o + 1)) (H.1 o 2).toNat ((i : Int) + b).toNat) else 0) = _; first | (rw [if_pos (by omega)]; rfl) | (rw [if_neg (by omega)]; omega)) (List.Mem.tail _ (List.Mem.tail _ (List.Mem.tail _ (List.Mem.tail _ (List.Mem.head _)))))), (List.forall_mem_cons.mpr ⟨(mem_ci (by omega) (List.Mem.head _)), (fun _ h => absurd h List.not_mem_nil)⟩)⟩)⟩)⟩)⟩) ?_
            exact ih5 ((i + 1)) (by first | assumption | omega) (by omega)
          · skip
            have za := zfil_bd hf (i := i) (by omega)
            have zc := zfil_bd hg (i := ((i : Int) + b).toNat) (by omega)
            refine x_lload_n (pc := 32) dX5_apartFrom_32 (List.Mem.tail _ (List.Mem.tail _ (List.Mem.tail _ (List.Mem.head _)))) ?_
            refine x_aload_n (pc := 33) dX5_apartFrom_33 (List.Mem.head _) ?_
            refine x_iload (pc := 34) dX5_apartFrom_34 (List.Mem.tail _ (List.Mem.tail _ (List.Mem.tail _ (List.Mem.tail _ (List.Mem.head _))))) ?_
            refine z_callVip (pc := 36) (i := mX5_countAt) (S := [.long (zL ((zap (H.2 (s + 1)) (H.1 s 2).toNat (H.2 (o + 1)) (H.1 o 2).toNat b i)))]) [.int (zN ((i : Int)))] dX5_apartFrom_36 ml_X5_32 ok_X5_countAt rfl (sh_Rw0 hs) rfl (Or.inl rfl) (Nat.le_of_ble_eq_true rfl) (c_X5_countAt (d := d) (s := s) (hs := hs) (i := i) (hi := (by omega)) (ok := ok) (rw := (by first | assumption | omega)) (hb := hf)) (fun r6a r6b ok7 => ?_)
            refine x_aload_n (pc := 39) dX5_apartFrom_39 (List.Mem.tail _ (List.Mem.head _)) ?_
            refine x_iload (pc := 40) dX5_apartFrom_40 (List.Mem.tail _ (List.Mem.tail _ (List.Mem.tail _ (List.Mem.tail _ (List.Mem.head _))))) ?_
            refine x_iload_n (pc := 42) dX5_apartFrom_42 (List.Mem.tail _ (List.Mem.tail _ (List.Mem.head _))) ?_
            refine z_iadd (pc := 43) dX5_apartFrom_43 ?_
            refine z_callVip (pc := 44) (i := mX5_countAt) (S := [.int (zN ((zfil (H.2 (s + 1)) (H.1 s 2).toNat i))), .long (zL ((zap (H.2 (s + 1)) (H.1 s 2).toNat (H.2 (o + 1)) (H.1 o 2).toNat b i)))]) [.int (zN (((i : Int) + b)))] dX5_apartFrom_44 ml_X5_32 ok_X5_countAt rfl (sh_Rw0 ho) rfl (Or.inl rfl) (Nat.le_of_ble_eq_true rfl) (by have qz := c_X5_countAt (d := d) (s := o) (hs := ho) (i := (((i : Int) + b).toNat)) (hi := (by omega)) (ok := ok7) (rw := rw2) (hb := hg); rw [show ((((i : Int) + b).toNat : Nat) : Int) = ((i : Int) + b) by omega] at qz; exact qz) (fun r8a r8b ok9 => ?_)
            refine z_isub (pc := 47) dX5_apartFrom_47 ?_
            refine z_mabs (pc := 48) dX5_apartFrom_48 ml_X5_38 (Nat.le_of_ble_eq_true rfl) (by omega) (by omega) ?_
            refine z_i2l (pc := 51) dX5_apartFrom_51 (by omega) (by omega) ?_
            refine z_ladd (pc := 52) dX5_apartFrom_52 ?_
            refine x_lstore_n (pc := 53) dX5_apartFrom_53 (Nat.le_of_ble_eq_true rfl) ?_
            show Ev _ _ _ _ _ [(3, .long (zL (((zap (H.2 (s + 1)) (H.1 s 2).toNat (H.2 (o + 1)) (H.1 o 2).toNat b i) + (if 0 ≤ ((zfil (H.2 (s + 1)) (H.1 s 2).toNat i) - (zfil (H.2 (o + 1)) (H.1 o 2).toNat (((i : Int) + b).toNat))) then ((zfil (H.2 (s + 1)) (H.1 s 2).toNat i) - (zfil (H.2 (o + 1)) (H.1 o 2).toNat (((i : Int) + b).toNat))) else 0 - ((zfil (H.2 (s + 1)) (H.1 s 2).toNat i) - (zfil (H.2 (o + 1)) (H.1 o 2).toNat (((i : Int) + b).toNat)))))))), (0, .ref s), (1, .ref o), (2, .int (zN (b))), (5, .int (zN ((i : Int))))] _ _
            refine z_iinc (pc := 54) dX5_apartFrom_54 (List.Mem.tail _ (List.Mem.tail _ (List.Mem.tail _ (List.Mem.tail _ (List.Mem.head _))))) (Nat.le_of_ble_eq_true rfl) ?_
            show Ev _ _ _ _ _ [(5, .int (zN ((i : Int) + 1))), (3, .long (zL (((zap (H.2 (s + 1)) (H.1 s 2).toNat (H.2 (o + 1)) (H.1 o 2).toNat b i) + (if 0 ≤ ((zfil (H.2 (s + 1)) (H.1 s 2).toNat i) - (zfil (H.2 (o + 1)) (H.1 o 2).toNat (((i : Int) + b).toNat))) then ((zfil (H.2 (s + 1)) (H.1 s 2).toNat i) - (zfil (H.2 (o + 1)) (H.1 o 2).toNat (((i : Int) + b).toNat))) else 0 - ((zfil (H.2 (s + 1)) (H.1 s 2).toNat i) - (zfil (H.2 (o + 1)) (H.1 o 2).toNat (((i : Int) + b).toNat)))))))), (0, .ref s), (1, .ref o), (2, .int (zN (b)))] _ _
            refine x_goto (pc := 57) (tgt := 5) dX5_apartFrom_57 (by decide) ?_
            refine x_weaken (L1 := [(0, .ref s), (1, .ref o), (2, .int (zN (b))), (3, .long (zL ((zap (H.2 (s + 1)) (H.1 s 2).toNat (H.2 (o + 1)) (H.1 o 2).toNat b (i + 1))))), (5, .int (zN ((((i + 1) : Nat) : Int))))]) (List.forall_mem_cons.mpr ⟨(List.Mem.tail _ (List.Mem.tail _ (List.Mem.head _))), (List.forall_mem_cons.mpr ⟨(List.Mem.tail _ (List.Mem.tail _ (List.Mem.tail _ (List.Mem.head _)))), (List.forall_mem_cons.mpr ⟨(List.Mem.tail _ (List.Mem.tail _ (List.Mem.tail _ (List.Mem.tail _ (List.Mem.head _))))), (List.forall_mem_cons.mpr ⟨(mem_cl (by show zap (H.2 (s + 1)) (H.1 s 2).toNat (H.2 (o + 1)) (H.1 o 2).toNat b i + (if 0 ≤ (i : Int) + b ∧ (i : Int) + b < (H.1 o 2).toNat then zab (zfil (H.2 (s + 1)) (H.1 s 2).toNat i - zfil (H.2 (o + 1)) (H.1 o 2).toNat ((i : Int) + b).toNat) else 0) = _; first | (rw [if_pos (by omega)]; rfl) | (rw [if_neg (by omega)]; omega)) (List.Mem.tail _ (List.Mem.head _))), (List.forall_mem_cons.mpr ⟨(mem_ci (by omega) (List.Mem.head _)), (fun _ h => absurd h List.not_mem_nil)⟩)⟩)⟩)⟩)⟩) ?_
            exact ih5 ((i + 1)) (by first | assumption | omega) (by omega)
  refine x_weaken (L1 := [(0, .ref s), (1, .ref o), (2, .int (zN (b))), (3, .long (zL ((zap (H.2 (s + 1)) (H.1 s 2).toNat (H.2 (o + 1)) (H.1 o 2).toNat b 0)))), (5, .int (zN (((0 : Nat) : Int))))]) (List.forall_mem_cons.mpr ⟨(List.Mem.tail _ (List.Mem.tail _ (List.Mem.head _))), (List.forall_mem_cons.mpr ⟨(List.Mem.tail _ (List.Mem.tail _ (List.Mem.tail _ (List.Mem.head _)))), (List.forall_mem_cons.mpr ⟨(List.Mem.tail _ (List.Mem.tail _ (List.Mem.tail _ (List.Mem.tail _ (List.Mem.head _))))), (List.forall_mem_cons.mpr ⟨(mem_cl (rfl) (List.Mem.tail _ (List.Mem.head _))), (List.forall_mem_cons.mpr ⟨(mem_ci (by omega) (List.Mem.head _)), (fun _ h => absurd h List.not_mem_nil)⟩)⟩)⟩)⟩)⟩) ?_
  exact lp5 ((H.1 s 2).toNat - 0 + 1) (0) (by first | assumption | omega) (Nat.lt_succ_self _)


theorem okr_n {H : ZH} {r : Int} (h : okr H r) : 0 < (H.1 18 r.toNat).toNat := by
  rcases Nat.eq_zero_or_pos (H.1 18 r.toNat).toNat with q | q
  · have := h.2.2.1
    rw [q] at this
    exact absurd rfl this
  · exact q
theorem zsF_bd {H : ZH} {row other : Int} (h1 : okr H row) (h2 : okr H other) (h3 : (H.1 18 row.toNat).toNat ≤ 40) (d : Int) : (0 ≤ (zsF H row other d).1 ∧ (zsF H row other d).1 ≤ 40000040) ∧ (0 ≤ (zsF H row other d).2 ∧ (zsF H row other d).2 ≤ 40) := by
  have a := zap_bd (d := d) (zmuch_f.mp h1.2.2.2) (zmuch_f.mp h2.2.2.2) (H.1 18 row.toNat).toNat (Nat.le_refl _)
  have b := zshr_bd (H.1 18 other.toNat).toNat d (H.1 18 row.toNat).toNat
  unfold zsF
  dsimp only
  omega
theorem zsF_0 {H : ZH} {row other : Int} (h1 : okr H row) (h2 : okr H other) : (zsF H row other 0).2 ≠ 0 := by
  have a := okr_n h1
  have b := okr_n h2
  have c : ∀ i, 0 < i → 0 < zshr (H.1 18 other.toNat).toNat 0 i := by
    intro i hi
    induction i with
    | zero => omega
    | succ i ih =>
      have z := zshr_bd (H.1 18 other.toNat).toNat 0 i
      show 0 < zshr (H.1 18 other.toNat).toNat 0 i + (if 0 ≤ (i : Int) + 0 ∧ (i : Int) + 0 < ((H.1 18 other.toNat).toNat : Int) then 1 else 0)
      rcases Nat.eq_zero_or_pos i with q | q
      · rw [if_pos (by omega)]; omega
      · have := ih q
        split <;> omega
  have := c _ a
  unfold zsF
  dsimp only
  omega
def zby (m u : Nat) : Int := if u = 0 then -((m : Int) + 1) else if u = 1 then (m : Int) + 1 else 3 * ((m : Int) + 1)
theorem zdk_by {m u : Nat} (h : u ≤ 1) : zdk (2 * m + 1 + u) = zby m u := by
  unfold zdk zby
  rcases (show u = 0 ∨ u = 1 by omega) with rfl | rfl
  · rw [if_pos (by omega), if_pos rfl]; omega
  · rw [if_neg (by omega), if_neg (by omega), if_pos rfl]; omega
theorem zdk_tdiv {k : Nat} (h : (k : Int) % 2 = 1) : (0 - ((k : Int) + 1)).tdiv 2 = zdk k := by
  unfold zdk
  rw [if_pos (by omega), show (0 - ((k : Int) + 1)) = -((k : Int) + 1) by omega, Int.neg_tdiv, Int.tdiv_eq_ediv_of_nonneg (by omega)]
theorem zdk_div {k : Nat} (h : (k : Int) % 2 ≠ 1) : (k : Int) / 2 = zdk k := by
  unfold zdk
  rw [if_neg (by omega)]
theorem zdk_bd {k : Nat} (h : k ≤ 6) : -3 ≤ zdk k ∧ zdk k ≤ 3 := by unfold zdk; split <;> omega

theorem c_X10_slip {d : Nat} {H : ZH} (ok : okZ H) {row other : Int} (row1 : -2147483648 ≤ row) (row2 : row ≤ 2147483647) (other1 : -2147483648 ≤ other) (other2 : other ≤ 2147483647) (cn : cntOK H 25) (rr : RepR H) (rm : rmOK H) : EvC zX (d + 3) mX10_slip [.ref 20, .int (zN (row)), .int (zN (other))] (eh H) (zPi (fun (r : Int) (H1 : ZH) => ∃ ix, SlipIs H row other r ix ∧ H1 = bumpC ix H)) := by
  show _ ∧ Ev zX mX10_slip (EvC zX (d + 2)) (zPi (fun (r : Int) (H1 : ZH) => ∃ ix, SlipIs H row other r ix ∧ H1 = bumpC ix H)) 0 [(0, .ref 20), (1, .int (zN (row))), (2, .int (zN (other)))] [] (eh H)
  refine ⟨Nat.le_of_ble_eq_true rfl, ?_⟩
  refine x_iload_n (pc := 0) dX10_slip_0 (List.Mem.tail _ (List.Mem.head _)) ?_
  refine z_callSbp (pc := 1) (i := mX10_isRow) (S := []) [.int (zN (row))] dX10_slip_1 ml_X10_389 ok_X10_isRow rfl (Or.inr rfl) (Nat.le_of_ble_eq_true rfl) (c_X10_isRow (d := d + 1) (row := row) (row1 := (by omega)) (row2 := (by omega)) (ok := ok)) (fun hc3 ok2 => ?_) (fun hc3 ok2 => ?_)
  · skip
    refine z_if_eq (pc := 4) (tgt := 38) dX10_slip_4 (by decide) (by decide) (by decide) (fun h => absurd h (by decide)) (fun _ => ?_)
    refine x_iload_n (pc := 7) dX10_slip_7 (List.Mem.tail _ (List.Mem.tail _ (List.Mem.head _))) ?_
    refine z_callSbp (pc := 8) (i := mX10_isRow) (S := []) [.int (zN (other))] dX10_slip_8 ml_X10_389 ok_X10_isRow rfl (Or.inr rfl) (Nat.le_of_ble_eq_true rfl) (c_X10_isRow (d := d + 1) (row := other) (row1 := (by omega)) (row2 := (by omega)) (ok := ok2)) (fun hc7 ok6 => ?_) (fun hc7 ok6 => ?_)
    · skip
      refine z_if_eq (pc := 11) (tgt := 38) dX10_slip_11 (by decide) (by decide) (by decide) (fun h => absurd h (by decide)) (fun _ => ?_)
      obtain ⟨s, es0, es, hs, pr⟩ : ∃ s, s = 125 + 2 * row.toNat ∧ zX.2 27 row.toNat = s ∧ isRw s ∧ row.toNat < 4 := ⟨125 + 2 * row.toNat, rfl, rf_27 (by omega), isRw_at (by omega), by omega⟩
      obtain ⟨rw, p1, p0⟩ := rr row.toNat pr s es0
      have rwc := rw
      obtain ⟨pA, pB, pC⟩ := rwc
      have hcxp : H.1 s 0 = 1 → okr H row → (H.1 s 0 = 1 ∧ zmuch (H.2 (s + 1)) (H.1 s 2).toNat = false ∧ 0 < H.1 s 2 ∧ zfil (H.2 (s + 1)) (H.1 s 2).toNat 0 ≠ -1) := by
        intro z q
        obtain ⟨y2, y3, y4, y5⟩ := p1 z
        have hn := okr_n q
        have hz := (zfil_bd (zmuch_f.mp q.2.2.2) (i := 0) hn).2.2 q.2.2.1
        refine ⟨z, by rw [zmuch_cg y5, y4]; exact q.2.2.2, by omega, ?_⟩
        rw [zfil_cg y5 (by omega), y4]
        omega
      refine x_aload_n (pc := 14) dX10_slip_14 (List.Mem.head _) ?_
      refine z_getR (pc := 15) (k := 13) (r := 27) dX10_slip_15 lf_X10_81 sh_20 rfl rf_20_13 ?_
      refine x_iload_n (pc := 18) dX10_slip_18 (List.Mem.tail _ (List.Mem.head _)) ?_
      refine z_aald4 (pc := 19) (j := row.toNat) (r := s) dX10_slip_19 sh_27 (by omega) (by omega) (by decide) es ?_
      refine z_callVbp (pc := 20) (i := mX5_hasCounts) (S := []) [] dX10_slip_20 ml_X10_432 ok_X5_hasCounts rfl (sh_Rw0 hs) rfl (Or.inr rfl) (Nat.le_of_ble_eq_true rfl) (c_X5_hasCounts (d := d) (s := s) (hs := hs) (ok := ok6) (rw := rw)) (fun hc11 ok10 => ?_) (fun hc11 ok10 => ?_)
      · skip
        obtain ⟨p2, p3, p4, p5⟩ := p1 hc11.1
        have pk : okr H row := ⟨by omega, p2, by rw [← p4, ← zher_cg p5]; exact fun q => hc11.2.2.2 (zfil_none q (by have := hc11.2.2.1; omega)), by rw [← p4, ← zmuch_cg p5]; exact hc11.2.1⟩
        refine z_if_eq (pc := 23) (tgt := 38) dX10_slip_23 (by decide) (by decide) (by decide) (fun h => absurd h (by decide)) (fun _ => ?_)
        obtain ⟨o, eo0, eo, ho, qr⟩ : ∃ o, o = 125 + 2 * other.toNat ∧ zX.2 27 other.toNat = o ∧ isRw o ∧ other.toNat < 4 := ⟨125 + 2 * other.toNat, rfl, rf_27 (by omega), isRw_at (by omega), by omega⟩
        obtain ⟨rw2, q1, q0⟩ := rr other.toNat qr o eo0
        have rw2c := rw2
        obtain ⟨qA, qB, qC⟩ := rw2c
        have hcxq : H.1 o 0 = 1 → okr H other → (H.1 o 0 = 1 ∧ zmuch (H.2 (o + 1)) (H.1 o 2).toNat = false ∧ 0 < H.1 o 2 ∧ zfil (H.2 (o + 1)) (H.1 o 2).toNat 0 ≠ -1) := by
          intro z q
          obtain ⟨y2, y3, y4, y5⟩ := q1 z
          have hn := okr_n q
          have hz := (zfil_bd (zmuch_f.mp q.2.2.2) (i := 0) hn).2.2 q.2.2.1
          refine ⟨z, by rw [zmuch_cg y5, y4]; exact q.2.2.2, by omega, ?_⟩
          rw [zfil_cg y5 (by omega), y4]
          omega
        refine x_aload_n (pc := 26) dX10_slip_26 (List.Mem.head _) ?_
        refine z_getR (pc := 27) (k := 13) (r := 27) dX10_slip_27 lf_X10_81 sh_20 rfl rf_20_13 ?_
        refine x_iload_n (pc := 30) dX10_slip_30 (List.Mem.tail _ (List.Mem.tail _ (List.Mem.head _))) ?_
        refine z_aald4 (pc := 31) (j := other.toNat) (r := o) dX10_slip_31 sh_27 (by omega) (by omega) (by decide) eo ?_
        refine z_callVbp (pc := 32) (i := mX5_hasCounts) (S := []) [] dX10_slip_32 ml_X10_432 ok_X5_hasCounts rfl (sh_Rw0 ho) rfl (Or.inr rfl) (Nat.le_of_ble_eq_true rfl) (c_X5_hasCounts (d := d) (s := o) (hs := ho) (ok := ok10) (rw := rw2)) (fun hc15 ok14 => ?_) (fun hc15 ok14 => ?_)
        · skip
          obtain ⟨q2, q3, q4, q5⟩ := q1 hc15.1
          have qk : okr H other := ⟨by omega, q2, by rw [← q4, ← zher_cg q5]; exact fun q => hc15.2.2.2 (zfil_none q (by have := hc15.2.2.1; omega)), by rw [← q4, ← zmuch_cg q5]; exact hc15.2.1⟩
          refine z_if_ne (pc := 35) (tgt := 45) dX10_slip_35 (by decide) (by decide) (by decide) (fun _ => ?_) (fun h => absurd h (by decide))
          have cga : ∀ d : Int, zap (H.2 (s + 1)) (H.1 s 2).toNat (H.2 (o + 1)) (H.1 o 2).toNat d (H.1 s 2).toNat = (zsF H row other d).1 := fun d => by rw [zap_cg p5 q5 _ (Nat.le_refl _), p4, q4]; rfl
          have cgs : ∀ d : Int, zshr (H.1 o 2).toNat d (H.1 s 2).toNat = (zsF H row other d).2 := fun d => by rw [p4, q4]; rfl
          have fb := zsF_bd pk qk (by omega)
          have fp := zsl_pos (fun d => (fb d).2.1) (zsF_0 pk qk)
          refine z_iconst (pc := 45) dX10_slip_45 ?_
          refine x_istore_n (pc := 46) dX10_slip_46 (Nat.le_of_ble_eq_true rfl) ?_
          show Ev _ _ _ _ _ [(3, .int (zN (0))), (0, .ref 20), (1, .int (zN (row))), (2, .int (zN (other)))] _ _
          refine x_aload_n (pc := 47) dX10_slip_47 (List.Mem.tail _ (List.Mem.head _)) ?_
          refine z_getR (pc := 48) (k := 13) (r := 27) dX10_slip_48 lf_X10_81 sh_20 rfl rf_20_13 ?_
          refine x_iload_n (pc := 51) dX10_slip_51 (List.Mem.tail _ (List.Mem.tail _ (List.Mem.head _))) ?_
          refine z_aald4 (pc := 52) (j := row.toNat) (r := s) dX10_slip_52 sh_27 (by omega) (by omega) (by decide) es ?_
          refine x_aload_n (pc := 53) dX10_slip_53 (List.Mem.tail _ (List.Mem.head _)) ?_
          refine z_getR (pc := 54) (k := 13) (r := 27) dX10_slip_54 lf_X10_81 sh_20 rfl rf_20_13 ?_
          refine x_iload_n (pc := 57) dX10_slip_57 (List.Mem.tail _ (List.Mem.tail _ (List.Mem.tail _ (List.Mem.head _)))) ?_
          refine z_aald4 (pc := 58) (j := other.toNat) (r := o) dX10_slip_58 sh_27 (by omega) (by omega) (by decide) eo ?_
          refine z_iconst (pc := 59) dX10_slip_59 ?_
          refine z_callVlp (pc := 60) (i := mX5_apartFrom) (S := []) [.ref o, .int (zN (0))] dX10_slip_60 ml_X10_435 ok_X5_apartFrom rfl (sh_Rw0 hs) rfl rfl (Nat.le_of_ble_eq_true rfl) (c_X5_apartFrom (d := d) (s := s) (hs := hs) (o := o) (ho := ho) (b := 0) (b1 := (by omega)) (b2 := (by omega)) (ok := ok14) (rw := rw) (rw2 := rw2) (hf := (by have := zmuch_f.mp pk.2.2.2; intro k hk; rw [p5 k hk]; exact this k (by omega))) (hg := (by have := zmuch_f.mp qk.2.2.2; intro k hk; rw [q5 k hk]; exact this k (by omega)))) (fun r17a r17b ok18 => ?_)
          refine x_lstore (pc := 63) dX10_slip_63 (Nat.le_of_ble_eq_true rfl) ?_
          show Ev _ _ _ _ _ [(4, .long (zL ((zap (H.2 (s + 1)) (H.1 s 2).toNat (H.2 (o + 1)) (H.1 o 2).toNat 0 (H.1 s 2).toNat)))), (3, .int (zN (0))), (0, .ref 20), (1, .int (zN (row))), (2, .int (zN (other)))] _ _
          refine x_aload_n (pc := 65) dX10_slip_65 (List.Mem.tail _ (List.Mem.tail _ (List.Mem.head _))) ?_
          refine z_getR (pc := 66) (k := 13) (r := 27) dX10_slip_66 lf_X10_81 sh_20 rfl rf_20_13 ?_
          refine x_iload_n (pc := 69) dX10_slip_69 (List.Mem.tail _ (List.Mem.tail _ (List.Mem.tail _ (List.Mem.head _)))) ?_
          refine z_aald4 (pc := 70) (j := row.toNat) (r := s) dX10_slip_70 sh_27 (by omega) (by omega) (by decide) es ?_
          refine x_aload_n (pc := 71) dX10_slip_71 (List.Mem.tail _ (List.Mem.tail _ (List.Mem.head _))) ?_
          refine z_getR (pc := 72) (k := 13) (r := 27) dX10_slip_72 lf_X10_81 sh_20 rfl rf_20_13 ?_
          refine x_iload_n (pc := 75) dX10_slip_75 (List.Mem.tail _ (List.Mem.tail _ (List.Mem.tail _ (List.Mem.tail _ (List.Mem.head _))))) ?_
          refine z_aald4 (pc := 76) (j := other.toNat) (r := o) dX10_slip_76 sh_27 (by omega) (by omega) (by decide) eo ?_
          refine z_iconst (pc := 77) dX10_slip_77 ?_
          refine z_callVlp (pc := 78) (i := mX5_sharedWith) (S := []) [.ref o, .int (zN (0))] dX10_slip_78 ml_X10_439 ok_X5_sharedWith rfl (sh_Rw0 hs) rfl rfl (Nat.le_of_ble_eq_true rfl) (c_X5_sharedWith (d := d + 1) (s := s) (hs := hs) (o := o) (ho := ho) (b := 0) (b1 := (by omega)) (b2 := (by omega)) (ok := ok18) (rw := rw) (rw2 := rw2)) (fun r19a r19b ok20 => ?_)
          refine x_lstore (pc := 81) dX10_slip_81 (Nat.le_of_ble_eq_true rfl) ?_
          show Ev _ _ _ _ _ [(6, .long (zL ((zshr (H.1 o 2).toNat 0 (H.1 s 2).toNat)))), (4, .long (zL ((zap (H.2 (s + 1)) (H.1 s 2).toNat (H.2 (o + 1)) (H.1 o 2).toNat 0 (H.1 s 2).toNat)))), (3, .int (zN (0))), (0, .ref 20), (1, .int (zN (row))), (2, .int (zN (other)))] _ _
          refine z_iconst (pc := 83) dX10_slip_83 ?_
          refine x_istore (pc := 84) dX10_slip_84 (Nat.le_of_ble_eq_true rfl) ?_
          show Ev _ _ _ _ _ [(8, .int (zN (1))), (6, .long (zL ((zshr (H.1 o 2).toNat 0 (H.1 s 2).toNat)))), (4, .long (zL ((zap (H.2 (s + 1)) (H.1 s 2).toNat (H.2 (o + 1)) (H.1 o 2).toNat 0 (H.1 s 2).toNat)))), (3, .int (zN (0))), (0, .ref 20), (1, .int (zN (row))), (2, .int (zN (other)))] _ _
          have lp86 : ∀ (nF : Nat) (m : Nat), (m ≤ 3) → 3 - m < nF → Ev zX mX10_slip (EvC zX (d + 2)) (zPi (fun (r : Int) (H1 : ZH) => ∃ ix, SlipIs H row other r ix ∧ H1 = bumpC ix H)) 86 [(0, .ref 20), (1, .int (zN (row))), (2, .int (zN (other))), (3, .int (zN ((zsl (zsF H row other) (2 * m + 1)).1))), (4, .long (zL ((zsl (zsF H row other) (2 * m + 1)).2.2))), (6, .long (zL ((zsl (zsF H row other) (2 * m + 1)).2.1))), (8, .int (zN (((m : Int) + 1))))] [] (eh H) := by
            intro nF
            induction nF with
            | zero => intro m hm3 hm; exact absurd hm (Nat.not_lt_zero _)
            | succ nF ih86 =>
              intro m hm3 hm
              have sb := zsl_bd fb (2 * m + 1) (by omega)
              have sp := fp (2 * m)
              refine x_iload (pc := 86) dX10_slip_86 (List.Mem.tail _ (List.Mem.tail _ (List.Mem.tail _ (List.Mem.tail _ (List.Mem.tail _ (List.Mem.tail _ (List.Mem.head _))))))) ?_
              refine z_iconst (pc := 88) dX10_slip_88 ?_
              refine z_icmp_gt (pc := 89) (tgt := 192) dX10_slip_89 (by decide) (by omega) (by omega) (by decide) (by decide) (fun hb21 => ?_) (fun hb21 => ?_)
              · skip
                refine x_iload_n (pc := 192) dX10_slip_192 (List.Mem.tail _ (List.Mem.tail _ (List.Mem.tail _ (List.Mem.head _)))) ?_
                refine z_ireturn (pc := 193) dX10_slip_193 rfl (Or.inl rfl) ok20 (by omega) (by omega) ?_
                exact ⟨6, Or.inl ⟨pk, qk, by rw [show m = 3 by omega], rfl⟩, rfl⟩
              · skip
                refine x_iload (pc := 92) dX10_slip_92 (List.Mem.tail _ (List.Mem.tail _ (List.Mem.tail _ (List.Mem.tail _ (List.Mem.tail _ (List.Mem.tail _ (List.Mem.head _))))))) ?_
                refine z_ineg (pc := 94) dX10_slip_94 ?_
                refine x_istore (pc := 95) dX10_slip_95 (Nat.le_of_ble_eq_true rfl) ?_
                show Ev _ _ _ _ _ [(9, .int (zN ((0 - ((m : Int) + 1))))), (0, .ref 20), (1, .int (zN (row))), (2, .int (zN (other))), (3, .int (zN ((zsl (zsF H row other) (2 * m + 1)).1))), (4, .long (zL ((zsl (zsF H row other) (2 * m + 1)).2.2))), (6, .long (zL ((zsl (zsF H row other) (2 * m + 1)).2.1))), (8, .int (zN (((m : Int) + 1))))] _ _
                have lp97 : ∀ (nF : Nat) (u : Nat), (u ≤ 2) → 2 - u < nF → Ev zX mX10_slip (EvC zX (d + 2)) (zPi (fun (r : Int) (H1 : ZH) => ∃ ix, SlipIs H row other r ix ∧ H1 = bumpC ix H)) 97 [(0, .ref 20), (1, .int (zN (row))), (2, .int (zN (other))), (3, .int (zN ((zsl (zsF H row other) (2 * m + 1 + u)).1))), (4, .long (zL ((zsl (zsF H row other) (2 * m + 1 + u)).2.2))), (6, .long (zL ((zsl (zsF H row other) (2 * m + 1 + u)).2.1))), (8, .int (zN (((m : Int) + 1)))), (9, .int (zN ((zby m u))))] [] (eh H) := by
                  intro nF
                  induction nF with
                  | zero => intro u hu hm; exact absurd hm (Nat.not_lt_zero _)
                  | succ nF ih97 =>
                    intro u hu hm
                    have ym : m ≤ 2 := by omega
                    have sb2 := zsl_bd fb (2 * m + 1 + u) (by omega)
                    have sp2 := fp (2 * m + u)
                    rw [show 2 * m + u + 1 = 2 * m + 1 + u by omega] at sp2
                    have zbu : zby m u = if u = 0 then -((m : Int) + 1) else if u = 1 then (m : Int) + 1 else 3 * ((m : Int) + 1) := rfl
                    have zbr : -9 ≤ zby m u ∧ zby m u ≤ 9 := by rw [zbu]; (repeat' split) <;> omega
                    refine x_iload (pc := 97) dX10_slip_97 (List.Mem.tail _ (List.Mem.tail _ (List.Mem.tail _ (List.Mem.tail _ (List.Mem.tail _ (List.Mem.tail _ (List.Mem.tail _ (List.Mem.head _)))))))) ?_
                    refine x_iload (pc := 99) dX10_slip_99 (List.Mem.tail _ (List.Mem.tail _ (List.Mem.tail _ (List.Mem.tail _ (List.Mem.tail _ (List.Mem.tail _ (List.Mem.head _))))))) ?_
                    refine z_icmp_gt (pc := 101) (tgt := 186) dX10_slip_101 (by decide) (by omega) (by omega) (by omega) (by omega) (fun hb22 => ?_) (fun hb22 => ?_)
                    · skip
                      refine z_iinc (pc := 186) dX10_slip_186 (List.Mem.tail _ (List.Mem.tail _ (List.Mem.tail _ (List.Mem.tail _ (List.Mem.tail _ (List.Mem.tail _ (List.Mem.head _))))))) (Nat.le_of_ble_eq_true rfl) ?_
                      show Ev _ _ _ _ _ [(8, .int (zN (((m : Int) + 1) + 1))), (0, .ref 20), (1, .int (zN (row))), (2, .int (zN (other))), (3, .int (zN ((zsl (zsF H row other) (2 * m + 1 + u)).1))), (4, .long (zL ((zsl (zsF H row other) (2 * m + 1 + u)).2.2))), (6, .long (zL ((zsl (zsF H row other) (2 * m + 1 + u)).2.1))), (9, .int (zN ((zby m u))))] _ _
                      refine x_goto (pc := 189) (tgt := 86) dX10_slip_189 (by decide) ?_
                      refine x_weaken (L1 := [(0, .ref 20), (1, .int (zN (row))), (2, .int (zN (other))), (3, .int (zN ((zsl (zsF H row other) (2 * (m + 1) + 1)).1))), (4, .long (zL ((zsl (zsF H row other) (2 * (m + 1) + 1)).2.2))), (6, .long (zL ((zsl (zsF H row other) (2 * (m + 1) + 1)).2.1))), (8, .int (zN (((((m + 1) : Nat) : Int) + 1))))]) (List.forall_mem_cons.mpr ⟨(List.Mem.tail _ (List.Mem.head _)), (List.forall_mem_cons.mpr ⟨(List.Mem.tail _ (List.Mem.tail _ (List.Mem.head _))), (List.forall_mem_cons.mpr ⟨(List.Mem.tail _ (List.Mem.tail _ (List.Mem.tail _ (List.Mem.head _)))), (List.forall_mem_cons.mpr ⟨(mem_ci (by rw [show u = 2 by (rw [zbu] at *; split at * <;> first | omega | (split at * <;> omega))]; rfl) (List.Mem.tail _ (List.Mem.tail _ (List.Mem.tail _ (List.Mem.tail _ (List.Mem.head _)))))), (List.forall_mem_cons.mpr ⟨(mem_cl (by rw [show u = 2 by (rw [zbu] at *; split at * <;> first | omega | (split at * <;> omega))]; rfl) (List.Mem.tail _ (List.Mem.tail _ (List.Mem.tail _ (List.Mem.tail _ (List.Mem.tail _ (List.Mem.head _))))))), (List.forall_mem_cons.mpr ⟨(mem_cl (by rw [show u = 2 by (rw [zbu] at *; split at * <;> first | omega | (split at * <;> omega))]; rfl) (List.Mem.tail _ (List.Mem.tail _ (List.Mem.tail _ (List.Mem.tail _ (List.Mem.tail _ (List.Mem.tail _ (List.Mem.head _)))))))), (List.forall_mem_cons.mpr ⟨(mem_ci (by omega) (List.Mem.head _)), (fun _ h => absurd h List.not_mem_nil)⟩)⟩)⟩)⟩)⟩)⟩)⟩) ?_
                      exact ih86 ((m + 1)) (by omega) (by omega)
                    · skip
                      have hu1 : u ≤ 1 := by rw [zbu] at *; split at * <;> first | omega | (split at * <;> omega)
                      have zb3 : -3 ≤ zby m u ∧ zby m u ≤ 3 := by rw [zbu]; (repeat' split) <;> omega
                      have fbz := fb (zby m u)
                      have ca := cga (zby m u)
                      have cs := cgs (zby m u)
                      rw [← ca, ← cs] at fbz
                      refine x_aload_n (pc := 104) dX10_slip_104 (List.Mem.head _) ?_
                      refine z_getR (pc := 105) (k := 13) (r := 27) dX10_slip_105 lf_X10_81 sh_20 rfl rf_20_13 ?_
                      refine x_iload_n (pc := 108) dX10_slip_108 (List.Mem.tail _ (List.Mem.head _)) ?_
                      refine z_aald4 (pc := 109) (j := row.toNat) (r := s) dX10_slip_109 sh_27 (by omega) (by omega) (by decide) es ?_
                      refine x_aload_n (pc := 110) dX10_slip_110 (List.Mem.head _) ?_
                      refine z_getR (pc := 111) (k := 13) (r := 27) dX10_slip_111 lf_X10_81 sh_20 rfl rf_20_13 ?_
                      refine x_iload_n (pc := 114) dX10_slip_114 (List.Mem.tail _ (List.Mem.tail _ (List.Mem.head _))) ?_
                      refine z_aald4 (pc := 115) (j := other.toNat) (r := o) dX10_slip_115 sh_27 (by omega) (by omega) (by decide) eo ?_
                      refine x_iload (pc := 116) dX10_slip_116 (List.Mem.tail _ (List.Mem.tail _ (List.Mem.tail _ (List.Mem.tail _ (List.Mem.tail _ (List.Mem.tail _ (List.Mem.tail _ (List.Mem.head _)))))))) ?_
                      refine z_callVlp (pc := 118) (i := mX5_apartFrom) (S := []) [.ref o, .int (zN ((zby m u)))] dX10_slip_118 ml_X10_435 ok_X5_apartFrom rfl (sh_Rw0 hs) rfl rfl (Nat.le_of_ble_eq_true rfl) (c_X5_apartFrom (d := d) (s := s) (hs := hs) (o := o) (ho := ho) (b := ((zby m u))) (b1 := (by omega)) (b2 := (by omega)) (ok := ok20) (rw := rw) (rw2 := rw2) (hf := (by have := zmuch_f.mp pk.2.2.2; intro k hk; rw [p5 k hk]; exact this k (by omega))) (hg := (by have := zmuch_f.mp qk.2.2.2; intro k hk; rw [q5 k hk]; exact this k (by omega)))) (fun r23a r23b ok24 => ?_)
                      refine x_lstore (pc := 121) dX10_slip_121 (Nat.le_of_ble_eq_true rfl) ?_
                      show Ev _ _ _ _ _ [(10, .long (zL ((zap (H.2 (s + 1)) (H.1 s 2).toNat (H.2 (o + 1)) (H.1 o 2).toNat ((zby m u)) (H.1 s 2).toNat)))), (0, .ref 20), (1, .int (zN (row))), (2, .int (zN (other))), (3, .int (zN ((zsl (zsF H row other) (2 * m + 1 + u)).1))), (4, .long (zL ((zsl (zsF H row other) (2 * m + 1 + u)).2.2))), (6, .long (zL ((zsl (zsF H row other) (2 * m + 1 + u)).2.1))), (8, .int (zN (((m : Int) + 1)))), (9, .int (zN ((zby m u))))] _ _
                      refine x_aload_n (pc := 123) dX10_slip_123 (List.Mem.tail _ (List.Mem.head _)) ?_
                      refine z_getR (pc := 124) (k := 13) (r := 27) dX10_slip_124 lf_X10_81 sh_20 rfl rf_20_13 ?_
                      refine x_iload_n (pc := 127) dX10_slip_127 (List.Mem.tail _ (List.Mem.tail _ (List.Mem.head _))) ?_
                      refine z_aald4 (pc := 128) (j := row.toNat) (r := s) dX10_slip_128 sh_27 (by omega) (by omega) (by decide) es ?_
                      refine x_aload_n (pc := 129) dX10_slip_129 (List.Mem.tail _ (List.Mem.head _)) ?_
                      refine z_getR (pc := 130) (k := 13) (r := 27) dX10_slip_130 lf_X10_81 sh_20 rfl rf_20_13 ?_
                      refine x_iload_n (pc := 133) dX10_slip_133 (List.Mem.tail _ (List.Mem.tail _ (List.Mem.tail _ (List.Mem.head _)))) ?_
                      refine z_aald4 (pc := 134) (j := other.toNat) (r := o) dX10_slip_134 sh_27 (by omega) (by omega) (by decide) eo ?_
                      refine x_iload (pc := 135) dX10_slip_135 (List.Mem.tail _ (List.Mem.tail _ (List.Mem.tail _ (List.Mem.tail _ (List.Mem.tail _ (List.Mem.tail _ (List.Mem.tail _ (List.Mem.tail _ (List.Mem.head _))))))))) ?_
                      refine z_callVlp (pc := 137) (i := mX5_sharedWith) (S := []) [.ref o, .int (zN ((zby m u)))] dX10_slip_137 ml_X10_439 ok_X5_sharedWith rfl (sh_Rw0 hs) rfl rfl (Nat.le_of_ble_eq_true rfl) (c_X5_sharedWith (d := d + 1) (s := s) (hs := hs) (o := o) (ho := ho) (b := ((zby m u))) (b1 := (by omega)) (b2 := (by omega)) (ok := ok24) (rw := rw) (rw2 := rw2)) (fun r25a r25b ok26 => ?_)
                      refine x_lstore (pc := 140) dX10_slip_140 (Nat.le_of_ble_eq_true rfl) ?_
                      show Ev _ _ _ _ _ [(12, .long (zL ((zshr (H.1 o 2).toNat ((zby m u)) (H.1 s 2).toNat)))), (10, .long (zL ((zap (H.2 (s + 1)) (H.1 s 2).toNat (H.2 (o + 1)) (H.1 o 2).toNat ((zby m u)) (H.1 s 2).toNat)))), (0, .ref 20), (1, .int (zN (row))), (2, .int (zN (other))), (3, .int (zN ((zsl (zsF H row other) (2 * m + 1 + u)).1))), (4, .long (zL ((zsl (zsF H row other) (2 * m + 1 + u)).2.2))), (6, .long (zL ((zsl (zsF H row other) (2 * m + 1 + u)).2.1))), (8, .int (zN (((m : Int) + 1)))), (9, .int (zN ((zby m u))))] _ _
                      refine x_lload (pc := 142) dX10_slip_142 (List.Mem.head _) ?_
                      refine z_lconst (pc := 144) 0 dX10_slip_144 rfl ?_
                      refine z_lcmp_le (pc := 145) (tgt := 174) dX10_slip_145 dX10_slip_146 (by decide) (by omega) (by omega) (by decide) (by decide) (fun hb27 => ?_) (fun hb27 => ?_)
                      · skip
                        refine x_iload (pc := 174) dX10_slip_174 (List.Mem.tail _ (List.Mem.tail _ (List.Mem.tail _ (List.Mem.tail _ (List.Mem.tail _ (List.Mem.tail _ (List.Mem.tail _ (List.Mem.tail _ (List.Mem.tail _ (List.Mem.head _)))))))))) ?_
                        refine z_iconst (pc := 176) dX10_slip_176 ?_
                        refine x_iload (pc := 177) dX10_slip_177 (List.Mem.tail _ (List.Mem.tail _ (List.Mem.tail _ (List.Mem.tail _ (List.Mem.tail _ (List.Mem.tail _ (List.Mem.tail _ (List.Mem.tail _ (List.Mem.head _))))))))) ?_
                        refine z_imul (pc := 179) dX10_slip_179 ?_
                        refine z_iadd (pc := 180) dX10_slip_180 ?_
                        refine x_istore (pc := 181) dX10_slip_181 (Nat.le_of_ble_eq_true rfl) ?_
                        show Ev _ _ _ _ _ [(9, .int (zN (((zby m u) + (2 * ((m : Int) + 1)))))), (12, .long (zL ((zshr (H.1 o 2).toNat ((zby m u)) (H.1 s 2).toNat)))), (10, .long (zL ((zap (H.2 (s + 1)) (H.1 s 2).toNat (H.2 (o + 1)) (H.1 o 2).toNat ((zby m u)) (H.1 s 2).toNat)))), (0, .ref 20), (1, .int (zN (row))), (2, .int (zN (other))), (3, .int (zN ((zsl (zsF H row other) (2 * m + 1 + u)).1))), (4, .long (zL ((zsl (zsF H row other) (2 * m + 1 + u)).2.2))), (6, .long (zL ((zsl (zsF H row other) (2 * m + 1 + u)).2.1))), (8, .int (zN (((m : Int) + 1))))] _ _
                        refine x_goto (pc := 183) (tgt := 97) dX10_slip_183 (by decide) ?_
                        refine x_weaken (L1 := [(0, .ref 20), (1, .int (zN (row))), (2, .int (zN (other))), (3, .int (zN ((zsl (zsF H row other) (2 * m + 1 + (u + 1))).1))), (4, .long (zL ((zsl (zsF H row other) (2 * m + 1 + (u + 1))).2.2))), (6, .long (zL ((zsl (zsF H row other) (2 * m + 1 + (u + 1))).2.1))), (8, .int (zN (((m : Int) + 1)))), (9, .int (zN ((zby m (u + 1)))))]) (List.forall_mem_cons.mpr ⟨(List.Mem.tail _ (List.Mem.tail _ (List.Mem.tail _ (List.Mem.head _)))), (List.forall_mem_cons.mpr ⟨(List.Mem.tail _ (List.Mem.tail _ (List.Mem.tail _ (List.Mem.tail _ (List.Mem.head _))))), (List.forall_mem_cons.mpr ⟨(List.Mem.tail _ (List.Mem.tail _ (List.Mem.tail _ (List.Mem.tail _ (List.Mem.tail _ (List.Mem.head _)))))), (List.forall_mem_cons.mpr ⟨(mem_ci (by first | rw [show zsl (zsF H row other) (2 * m + 1 + (u + 1)) = (zby m u, (zshr (H.1 o 2).toNat (zby m u) (H.1 s 2).toNat), (zap (H.2 (s + 1)) (H.1 s 2).toNat (H.2 (o + 1)) (H.1 o 2).toNat (zby m u) (H.1 s 2).toNat)) from by show zsst (zsF H row other) (zsl (zsF H row other) (2 * m + 1 + u)) (zdk (2 * m + 1 + u)) = _; rw [zdk_by hu1]; unfold zsst; rw [← ca, ← cs]; exact if_pos ⟨by omega, Or.inr (by omega)⟩] | rw [show zsl (zsF H row other) (2 * m + 1 + (u + 1)) = (zsl (zsF H row other) (2 * m + 1 + u)) from by show zsst (zsF H row other) (zsl (zsF H row other) (2 * m + 1 + u)) (zdk (2 * m + 1 + u)) = _; rw [zdk_by hu1]; unfold zsst; rw [← ca, ← cs]; exact if_neg (fun q => by rcases q.2 with c | c <;> omega)]) (List.Mem.tail _ (List.Mem.tail _ (List.Mem.tail _ (List.Mem.tail _ (List.Mem.tail _ (List.Mem.tail _ (List.Mem.head _)))))))), (List.forall_mem_cons.mpr ⟨(mem_cl (by first | rw [show zsl (zsF H row other) (2 * m + 1 + (u + 1)) = (zby m u, (zshr (H.1 o 2).toNat (zby m u) (H.1 s 2).toNat), (zap (H.2 (s + 1)) (H.1 s 2).toNat (H.2 (o + 1)) (H.1 o 2).toNat (zby m u) (H.1 s 2).toNat)) from by show zsst (zsF H row other) (zsl (zsF H row other) (2 * m + 1 + u)) (zdk (2 * m + 1 + u)) = _; rw [zdk_by hu1]; unfold zsst; rw [← ca, ← cs]; exact if_pos ⟨by omega, Or.inr (by omega)⟩] | rw [show zsl (zsF H row other) (2 * m + 1 + (u + 1)) = (zsl (zsF H row other) (2 * m + 1 + u)) from by show zsst (zsF H row other) (zsl (zsF H row other) (2 * m + 1 + u)) (zdk (2 * m + 1 + u)) = _; rw [zdk_by hu1]; unfold zsst; rw [← ca, ← cs]; exact if_neg (fun q => by rcases q.2 with c | c <;> omega)]) (List.Mem.tail _ (List.Mem.tail _ (List.Mem.tail _ (List.Mem.tail _ (List.Mem.tail _ (List.Mem.tail _ (List.Mem.tail _ (List.Mem.head _))))))))), (List.forall_mem_cons.mpr ⟨(mem_cl (by first | rw [show zsl (zsF H row other) (2 * m + 1 + (u + 1)) = (zby m u, (zshr (H.1 o 2).toNat (zby m u) (H.1 s 2).toNat), (zap (H.2 (s + 1)) (H.1 s 2).toNat (H.2 (o + 1)) (H.1 o 2).toNat (zby m u) (H.1 s 2).toNat)) from by show zsst (zsF H row other) (zsl (zsF H row other) (2 * m + 1 + u)) (zdk (2 * m + 1 + u)) = _; rw [zdk_by hu1]; unfold zsst; rw [← ca, ← cs]; exact if_pos ⟨by omega, Or.inr (by omega)⟩] | rw [show zsl (zsF H row other) (2 * m + 1 + (u + 1)) = (zsl (zsF H row other) (2 * m + 1 + u)) from by show zsst (zsF H row other) (zsl (zsF H row other) (2 * m + 1 + u)) (zdk (2 * m + 1 + u)) = _; rw [zdk_by hu1]; unfold zsst; rw [← ca, ← cs]; exact if_neg (fun q => by rcases q.2 with c | c <;> omega)]) (List.Mem.tail _ (List.Mem.tail _ (List.Mem.tail _ (List.Mem.tail _ (List.Mem.tail _ (List.Mem.tail _ (List.Mem.tail _ (List.Mem.tail _ (List.Mem.head _)))))))))), (List.forall_mem_cons.mpr ⟨(List.Mem.tail _ (List.Mem.tail _ (List.Mem.tail _ (List.Mem.tail _ (List.Mem.tail _ (List.Mem.tail _ (List.Mem.tail _ (List.Mem.tail _ (List.Mem.tail _ (List.Mem.head _)))))))))), (List.forall_mem_cons.mpr ⟨(mem_ci (by rw [zbu]; unfold zby; (repeat' split) <;> omega) (List.Mem.head _)), (fun _ h => absurd h List.not_mem_nil)⟩)⟩)⟩)⟩)⟩)⟩)⟩)⟩) ?_
                        exact ih97 ((u + 1)) (by omega) (by omega)
                      · skip
                        have k1 := nn2 (x := (zap (H.2 (s + 1)) (H.1 s 2).toNat (H.2 (o + 1)) (H.1 o 2).toNat (zby m u) (H.1 s 2).toNat)) (y := (zsl (zsF H row other) (2 * m + 1 + u)).2.1) (A := 40000040) (B := 40) (by omega) (by omega) (by omega) (by omega)
                        have k2 := nn2 (x := (zsl (zsF H row other) (2 * m + 1 + u)).2.2) (y := (zshr (H.1 o 2).toNat (zby m u) (H.1 s 2).toNat)) (A := 40000040) (B := 40) (by omega) (by omega) (by omega) (by omega)
                        refine x_lload (pc := 149) dX10_slip_149 (List.Mem.tail _ (List.Mem.head _)) ?_
                        refine x_lload (pc := 151) dX10_slip_151 (List.Mem.tail _ (List.Mem.tail _ (List.Mem.tail _ (List.Mem.tail _ (List.Mem.tail _ (List.Mem.tail _ (List.Mem.tail _ (List.Mem.head _)))))))) ?_
                        refine z_lmul (pc := 153) dX10_slip_153 ?_
                        refine x_lload (pc := 154) dX10_slip_154 (List.Mem.tail _ (List.Mem.tail _ (List.Mem.tail _ (List.Mem.tail _ (List.Mem.tail _ (List.Mem.tail _ (List.Mem.head _))))))) ?_
                        refine x_lload (pc := 156) dX10_slip_156 (List.Mem.head _) ?_
                        refine z_lmul (pc := 158) dX10_slip_158 ?_
                        refine z_lcmp_ge (pc := 159) (tgt := 174) dX10_slip_159 dX10_slip_160 (by decide) (by omega) (by omega) (by omega) (by omega) (fun hb28 => ?_) (fun hb28 => ?_)
                        · skip
                          refine x_iload (pc := 174) dX10_slip_174 (List.Mem.tail _ (List.Mem.tail _ (List.Mem.tail _ (List.Mem.tail _ (List.Mem.tail _ (List.Mem.tail _ (List.Mem.tail _ (List.Mem.tail _ (List.Mem.tail _ (List.Mem.head _)))))))))) ?_
                          refine z_iconst (pc := 176) dX10_slip_176 ?_
                          refine x_iload (pc := 177) dX10_slip_177 (List.Mem.tail _ (List.Mem.tail _ (List.Mem.tail _ (List.Mem.tail _ (List.Mem.tail _ (List.Mem.tail _ (List.Mem.tail _ (List.Mem.tail _ (List.Mem.head _))))))))) ?_
                          refine z_imul (pc := 179) dX10_slip_179 ?_
                          refine z_iadd (pc := 180) dX10_slip_180 ?_
                          refine x_istore (pc := 181) dX10_slip_181 (Nat.le_of_ble_eq_true rfl) ?_
                          show Ev _ _ _ _ _ [(9, .int (zN (((zby m u) + (2 * ((m : Int) + 1)))))), (12, .long (zL ((zshr (H.1 o 2).toNat ((zby m u)) (H.1 s 2).toNat)))), (10, .long (zL ((zap (H.2 (s + 1)) (H.1 s 2).toNat (H.2 (o + 1)) (H.1 o 2).toNat ((zby m u)) (H.1 s 2).toNat)))), (0, .ref 20), (1, .int (zN (row))), (2, .int (zN (other))), (3, .int (zN ((zsl (zsF H row other) (2 * m + 1 + u)).1))), (4, .long (zL ((zsl (zsF H row other) (2 * m + 1 + u)).2.2))), (6, .long (zL ((zsl (zsF H row other) (2 * m + 1 + u)).2.1))), (8, .int (zN (((m : Int) + 1))))] _ _
                          refine x_goto (pc := 183) (tgt := 97) dX10_slip_183 (by decide) ?_
                          refine x_weaken (L1 := [(0, .ref 20), (1, .int (zN (row))), (2, .int (zN (other))), (3, .int (zN ((zsl (zsF H row other) (2 * m + 1 + (u + 1))).1))), (4, .long (zL ((zsl (zsF H row other) (2 * m + 1 + (u + 1))).2.2))), (6, .long (zL ((zsl (zsF H row other) (2 * m + 1 + (u + 1))).2.1))), (8, .int (zN (((m : Int) + 1)))), (9, .int (zN ((zby m (u + 1)))))]) (List.forall_mem_cons.mpr ⟨(List.Mem.tail _ (List.Mem.tail _ (List.Mem.tail _ (List.Mem.head _)))), (List.forall_mem_cons.mpr ⟨(List.Mem.tail _ (List.Mem.tail _ (List.Mem.tail _ (List.Mem.tail _ (List.Mem.head _))))), (List.forall_mem_cons.mpr ⟨(List.Mem.tail _ (List.Mem.tail _ (List.Mem.tail _ (List.Mem.tail _ (List.Mem.tail _ (List.Mem.head _)))))), (List.forall_mem_cons.mpr ⟨(mem_ci (by first | rw [show zsl (zsF H row other) (2 * m + 1 + (u + 1)) = (zby m u, (zshr (H.1 o 2).toNat (zby m u) (H.1 s 2).toNat), (zap (H.2 (s + 1)) (H.1 s 2).toNat (H.2 (o + 1)) (H.1 o 2).toNat (zby m u) (H.1 s 2).toNat)) from by show zsst (zsF H row other) (zsl (zsF H row other) (2 * m + 1 + u)) (zdk (2 * m + 1 + u)) = _; rw [zdk_by hu1]; unfold zsst; rw [← ca, ← cs]; exact if_pos ⟨by omega, Or.inr (by omega)⟩] | rw [show zsl (zsF H row other) (2 * m + 1 + (u + 1)) = (zsl (zsF H row other) (2 * m + 1 + u)) from by show zsst (zsF H row other) (zsl (zsF H row other) (2 * m + 1 + u)) (zdk (2 * m + 1 + u)) = _; rw [zdk_by hu1]; unfold zsst; rw [← ca, ← cs]; exact if_neg (fun q => by rcases q.2 with c | c <;> omega)]) (List.Mem.tail _ (List.Mem.tail _ (List.Mem.tail _ (List.Mem.tail _ (List.Mem.tail _ (List.Mem.tail _ (List.Mem.head _)))))))), (List.forall_mem_cons.mpr ⟨(mem_cl (by first | rw [show zsl (zsF H row other) (2 * m + 1 + (u + 1)) = (zby m u, (zshr (H.1 o 2).toNat (zby m u) (H.1 s 2).toNat), (zap (H.2 (s + 1)) (H.1 s 2).toNat (H.2 (o + 1)) (H.1 o 2).toNat (zby m u) (H.1 s 2).toNat)) from by show zsst (zsF H row other) (zsl (zsF H row other) (2 * m + 1 + u)) (zdk (2 * m + 1 + u)) = _; rw [zdk_by hu1]; unfold zsst; rw [← ca, ← cs]; exact if_pos ⟨by omega, Or.inr (by omega)⟩] | rw [show zsl (zsF H row other) (2 * m + 1 + (u + 1)) = (zsl (zsF H row other) (2 * m + 1 + u)) from by show zsst (zsF H row other) (zsl (zsF H row other) (2 * m + 1 + u)) (zdk (2 * m + 1 + u)) = _; rw [zdk_by hu1]; unfold zsst; rw [← ca, ← cs]; exact if_neg (fun q => by rcases q.2 with c | c <;> omega)]) (List.Mem.tail _ (List.Mem.tail _ (List.Mem.tail _ (List.Mem.tail _ (List.Mem.tail _ (List.Mem.tail _ (List.Mem.tail _ (List.Mem.head _))))))))), (List.forall_mem_cons.mpr ⟨(mem_cl (by first | rw [show zsl (zsF H row other) (2 * m + 1 + (u + 1)) = (zby m u, (zshr (H.1 o 2).toNat (zby m u) (H.1 s 2).toNat), (zap (H.2 (s + 1)) (H.1 s 2).toNat (H.2 (o + 1)) (H.1 o 2).toNat (zby m u) (H.1 s 2).toNat)) from by show zsst (zsF H row other) (zsl (zsF H row other) (2 * m + 1 + u)) (zdk (2 * m + 1 + u)) = _; rw [zdk_by hu1]; unfold zsst; rw [← ca, ← cs]; exact if_pos ⟨by omega, Or.inr (by omega)⟩] | rw [show zsl (zsF H row other) (2 * m + 1 + (u + 1)) = (zsl (zsF H row other) (2 * m + 1 + u)) from by show zsst (zsF H row other) (zsl (zsF H row other) (2 * m + 1 + u)) (zdk (2 * m + 1 + u)) = _; rw [zdk_by hu1]; unfold zsst; rw [← ca, ← cs]; exact if_neg (fun q => by rcases q.2 with c | c <;> omega)]) (List.Mem.tail _ (List.Mem.tail _ (List.Mem.tail _ (List.Mem.tail _ (List.Mem.tail _ (List.Mem.tail _ (List.Mem.tail _ (List.Mem.tail _ (List.Mem.head _)))))))))), (List.forall_mem_cons.mpr ⟨(List.Mem.tail _ (List.Mem.tail _ (List.Mem.tail _ (List.Mem.tail _ (List.Mem.tail _ (List.Mem.tail _ (List.Mem.tail _ (List.Mem.tail _ (List.Mem.tail _ (List.Mem.head _)))))))))), (List.forall_mem_cons.mpr ⟨(mem_ci (by rw [zbu]; unfold zby; (repeat' split) <;> omega) (List.Mem.head _)), (fun _ h => absurd h List.not_mem_nil)⟩)⟩)⟩)⟩)⟩)⟩)⟩)⟩) ?_
                          exact ih97 ((u + 1)) (by omega) (by omega)
                        · skip
                          refine x_iload (pc := 163) dX10_slip_163 (List.Mem.tail _ (List.Mem.tail _ (List.Mem.tail _ (List.Mem.tail _ (List.Mem.tail _ (List.Mem.tail _ (List.Mem.tail _ (List.Mem.tail _ (List.Mem.tail _ (List.Mem.head _)))))))))) ?_
                          refine x_istore_n (pc := 165) dX10_slip_165 (Nat.le_of_ble_eq_true rfl) ?_
                          show Ev _ _ _ _ _ [(3, .int (zN ((zby m u)))), (12, .long (zL ((zshr (H.1 o 2).toNat ((zby m u)) (H.1 s 2).toNat)))), (10, .long (zL ((zap (H.2 (s + 1)) (H.1 s 2).toNat (H.2 (o + 1)) (H.1 o 2).toNat ((zby m u)) (H.1 s 2).toNat)))), (0, .ref 20), (1, .int (zN (row))), (2, .int (zN (other))), (4, .long (zL ((zsl (zsF H row other) (2 * m + 1 + u)).2.2))), (6, .long (zL ((zsl (zsF H row other) (2 * m + 1 + u)).2.1))), (8, .int (zN (((m : Int) + 1)))), (9, .int (zN ((zby m u))))] _ _
                          refine x_lload (pc := 166) dX10_slip_166 (List.Mem.tail _ (List.Mem.tail _ (List.Mem.head _))) ?_
                          refine x_lstore (pc := 168) dX10_slip_168 (Nat.le_of_ble_eq_true rfl) ?_
                          show Ev _ _ _ _ _ [(4, .long (zL ((zap (H.2 (s + 1)) (H.1 s 2).toNat (H.2 (o + 1)) (H.1 o 2).toNat ((zby m u)) (H.1 s 2).toNat)))), (3, .int (zN ((zby m u)))), (12, .long (zL ((zshr (H.1 o 2).toNat ((zby m u)) (H.1 s 2).toNat)))), (10, .long (zL ((zap (H.2 (s + 1)) (H.1 s 2).toNat (H.2 (o + 1)) (H.1 o 2).toNat ((zby m u)) (H.1 s 2).toNat)))), (0, .ref 20), (1, .int (zN (row))), (2, .int (zN (other))), (6, .long (zL ((zsl (zsF H row other) (2 * m + 1 + u)).2.1))), (8, .int (zN (((m : Int) + 1)))), (9, .int (zN ((zby m u))))] _ _
                          refine x_lload (pc := 170) dX10_slip_170 (List.Mem.tail _ (List.Mem.tail _ (List.Mem.head _))) ?_
                          refine x_lstore (pc := 172) dX10_slip_172 (Nat.le_of_ble_eq_true rfl) ?_
                          show Ev _ _ _ _ _ [(6, .long (zL ((zshr (H.1 o 2).toNat ((zby m u)) (H.1 s 2).toNat)))), (4, .long (zL ((zap (H.2 (s + 1)) (H.1 s 2).toNat (H.2 (o + 1)) (H.1 o 2).toNat ((zby m u)) (H.1 s 2).toNat)))), (3, .int (zN ((zby m u)))), (12, .long (zL ((zshr (H.1 o 2).toNat ((zby m u)) (H.1 s 2).toNat)))), (10, .long (zL ((zap (H.2 (s + 1)) (H.1 s 2).toNat (H.2 (o + 1)) (H.1 o 2).toNat ((zby m u)) (H.1 s 2).toNat)))), (0, .ref 20), (1, .int (zN (row))), (2, .int (zN (other))), (8, .int (zN (((m : Int) + 1)))), (9, .int (zN ((zby m u))))] _ _
                          refine x_iload (pc := 174) dX10_slip_174 (List.Mem.tail _ (List.Mem.tail _ (List.Mem.tail _ (List.Mem.tail _ (List.Mem.tail _ (List.Mem.tail _ (List.Mem.tail _ (List.Mem.tail _ (List.Mem.tail _ (List.Mem.head _)))))))))) ?_
                          refine z_iconst (pc := 176) dX10_slip_176 ?_
                          refine x_iload (pc := 177) dX10_slip_177 (List.Mem.tail _ (List.Mem.tail _ (List.Mem.tail _ (List.Mem.tail _ (List.Mem.tail _ (List.Mem.tail _ (List.Mem.tail _ (List.Mem.tail _ (List.Mem.head _))))))))) ?_
                          refine z_imul (pc := 179) dX10_slip_179 ?_
                          refine z_iadd (pc := 180) dX10_slip_180 ?_
                          refine x_istore (pc := 181) dX10_slip_181 (Nat.le_of_ble_eq_true rfl) ?_
                          show Ev _ _ _ _ _ [(9, .int (zN (((zby m u) + (2 * ((m : Int) + 1)))))), (6, .long (zL ((zshr (H.1 o 2).toNat ((zby m u)) (H.1 s 2).toNat)))), (4, .long (zL ((zap (H.2 (s + 1)) (H.1 s 2).toNat (H.2 (o + 1)) (H.1 o 2).toNat ((zby m u)) (H.1 s 2).toNat)))), (3, .int (zN ((zby m u)))), (12, .long (zL ((zshr (H.1 o 2).toNat ((zby m u)) (H.1 s 2).toNat)))), (10, .long (zL ((zap (H.2 (s + 1)) (H.1 s 2).toNat (H.2 (o + 1)) (H.1 o 2).toNat ((zby m u)) (H.1 s 2).toNat)))), (0, .ref 20), (1, .int (zN (row))), (2, .int (zN (other))), (8, .int (zN (((m : Int) + 1))))] _ _
                          refine x_goto (pc := 183) (tgt := 97) dX10_slip_183 (by decide) ?_
                          refine x_weaken (L1 := [(0, .ref 20), (1, .int (zN (row))), (2, .int (zN (other))), (3, .int (zN ((zsl (zsF H row other) (2 * m + 1 + (u + 1))).1))), (4, .long (zL ((zsl (zsF H row other) (2 * m + 1 + (u + 1))).2.2))), (6, .long (zL ((zsl (zsF H row other) (2 * m + 1 + (u + 1))).2.1))), (8, .int (zN (((m : Int) + 1)))), (9, .int (zN ((zby m (u + 1)))))]) (List.forall_mem_cons.mpr ⟨(List.Mem.tail _ (List.Mem.tail _ (List.Mem.tail _ (List.Mem.tail _ (List.Mem.tail _ (List.Mem.tail _ (List.Mem.head _))))))), (List.forall_mem_cons.mpr ⟨(List.Mem.tail _ (List.Mem.tail _ (List.Mem.tail _ (List.Mem.tail _ (List.Mem.tail _ (List.Mem.tail _ (List.Mem.tail _ (List.Mem.head _)))))))), (List.forall_mem_cons.mpr ⟨(List.Mem.tail _ (List.Mem.tail _ (List.Mem.tail _ (List.Mem.tail _ (List.Mem.tail _ (List.Mem.tail _ (List.Mem.tail _ (List.Mem.tail _ (List.Mem.head _))))))))), (List.forall_mem_cons.mpr ⟨(mem_ci (by first | rw [show zsl (zsF H row other) (2 * m + 1 + (u + 1)) = (zby m u, (zshr (H.1 o 2).toNat (zby m u) (H.1 s 2).toNat), (zap (H.2 (s + 1)) (H.1 s 2).toNat (H.2 (o + 1)) (H.1 o 2).toNat (zby m u) (H.1 s 2).toNat)) from by show zsst (zsF H row other) (zsl (zsF H row other) (2 * m + 1 + u)) (zdk (2 * m + 1 + u)) = _; rw [zdk_by hu1]; unfold zsst; rw [← ca, ← cs]; exact if_pos ⟨by omega, Or.inr (by omega)⟩] | rw [show zsl (zsF H row other) (2 * m + 1 + (u + 1)) = (zsl (zsF H row other) (2 * m + 1 + u)) from by show zsst (zsF H row other) (zsl (zsF H row other) (2 * m + 1 + u)) (zdk (2 * m + 1 + u)) = _; rw [zdk_by hu1]; unfold zsst; rw [← ca, ← cs]; exact if_neg (fun q => by rcases q.2 with c | c <;> omega)]) (List.Mem.tail _ (List.Mem.tail _ (List.Mem.tail _ (List.Mem.head _))))), (List.forall_mem_cons.mpr ⟨(mem_cl (by first | rw [show zsl (zsF H row other) (2 * m + 1 + (u + 1)) = (zby m u, (zshr (H.1 o 2).toNat (zby m u) (H.1 s 2).toNat), (zap (H.2 (s + 1)) (H.1 s 2).toNat (H.2 (o + 1)) (H.1 o 2).toNat (zby m u) (H.1 s 2).toNat)) from by show zsst (zsF H row other) (zsl (zsF H row other) (2 * m + 1 + u)) (zdk (2 * m + 1 + u)) = _; rw [zdk_by hu1]; unfold zsst; rw [← ca, ← cs]; exact if_pos ⟨by omega, Or.inr (by omega)⟩] | rw [show zsl (zsF H row other) (2 * m + 1 + (u + 1)) = (zsl (zsF H row other) (2 * m + 1 + u)) from by show zsst (zsF H row other) (zsl (zsF H row other) (2 * m + 1 + u)) (zdk (2 * m + 1 + u)) = _; rw [zdk_by hu1]; unfold zsst; rw [← ca, ← cs]; exact if_neg (fun q => by rcases q.2 with c | c <;> omega)]) (List.Mem.tail _ (List.Mem.tail _ (List.Mem.head _)))), (List.forall_mem_cons.mpr ⟨(mem_cl (by first | rw [show zsl (zsF H row other) (2 * m + 1 + (u + 1)) = (zby m u, (zshr (H.1 o 2).toNat (zby m u) (H.1 s 2).toNat), (zap (H.2 (s + 1)) (H.1 s 2).toNat (H.2 (o + 1)) (H.1 o 2).toNat (zby m u) (H.1 s 2).toNat)) from by show zsst (zsF H row other) (zsl (zsF H row other) (2 * m + 1 + u)) (zdk (2 * m + 1 + u)) = _; rw [zdk_by hu1]; unfold zsst; rw [← ca, ← cs]; exact if_pos ⟨by omega, Or.inr (by omega)⟩] | rw [show zsl (zsF H row other) (2 * m + 1 + (u + 1)) = (zsl (zsF H row other) (2 * m + 1 + u)) from by show zsst (zsF H row other) (zsl (zsF H row other) (2 * m + 1 + u)) (zdk (2 * m + 1 + u)) = _; rw [zdk_by hu1]; unfold zsst; rw [← ca, ← cs]; exact if_neg (fun q => by rcases q.2 with c | c <;> omega)]) (List.Mem.tail _ (List.Mem.head _))), (List.forall_mem_cons.mpr ⟨(List.Mem.tail _ (List.Mem.tail _ (List.Mem.tail _ (List.Mem.tail _ (List.Mem.tail _ (List.Mem.tail _ (List.Mem.tail _ (List.Mem.tail _ (List.Mem.tail _ (List.Mem.head _)))))))))), (List.forall_mem_cons.mpr ⟨(mem_ci (by rw [zbu]; unfold zby; (repeat' split) <;> omega) (List.Mem.head _)), (fun _ h => absurd h List.not_mem_nil)⟩)⟩)⟩)⟩)⟩)⟩)⟩)⟩) ?_
                          exact ih97 ((u + 1)) (by omega) (by omega)
                refine x_weaken (L1 := [(0, .ref 20), (1, .int (zN (row))), (2, .int (zN (other))), (3, .int (zN ((zsl (zsF H row other) (2 * m + 1 + 0)).1))), (4, .long (zL ((zsl (zsF H row other) (2 * m + 1 + 0)).2.2))), (6, .long (zL ((zsl (zsF H row other) (2 * m + 1 + 0)).2.1))), (8, .int (zN (((m : Int) + 1)))), (9, .int (zN ((zby m 0))))]) (List.forall_mem_cons.mpr ⟨(List.Mem.tail _ (List.Mem.head _)), (List.forall_mem_cons.mpr ⟨(List.Mem.tail _ (List.Mem.tail _ (List.Mem.head _))), (List.forall_mem_cons.mpr ⟨(List.Mem.tail _ (List.Mem.tail _ (List.Mem.tail _ (List.Mem.head _)))), (List.forall_mem_cons.mpr ⟨(mem_ci (rfl) (List.Mem.tail _ (List.Mem.tail _ (List.Mem.tail _ (List.Mem.tail _ (List.Mem.head _)))))), (List.forall_mem_cons.mpr ⟨(mem_cl (rfl) (List.Mem.tail _ (List.Mem.tail _ (List.Mem.tail _ (List.Mem.tail _ (List.Mem.tail _ (List.Mem.head _))))))), (List.forall_mem_cons.mpr ⟨(mem_cl (rfl) (List.Mem.tail _ (List.Mem.tail _ (List.Mem.tail _ (List.Mem.tail _ (List.Mem.tail _ (List.Mem.tail _ (List.Mem.head _)))))))), (List.forall_mem_cons.mpr ⟨(List.Mem.tail _ (List.Mem.tail _ (List.Mem.tail _ (List.Mem.tail _ (List.Mem.tail _ (List.Mem.tail _ (List.Mem.tail _ (List.Mem.head _)))))))), (List.forall_mem_cons.mpr ⟨(mem_ci (by show -((m : Int) + 1) = _; omega) (List.Mem.head _)), (fun _ h => absurd h List.not_mem_nil)⟩)⟩)⟩)⟩)⟩)⟩)⟩)⟩) ?_
                exact lp97 (2 - 0 + 1) (0) (by omega) (Nat.lt_succ_self _)
          refine x_weaken (L1 := [(0, .ref 20), (1, .int (zN (row))), (2, .int (zN (other))), (3, .int (zN ((zsl (zsF H row other) (2 * 0 + 1)).1))), (4, .long (zL ((zsl (zsF H row other) (2 * 0 + 1)).2.2))), (6, .long (zL ((zsl (zsF H row other) (2 * 0 + 1)).2.1))), (8, .int (zN ((((0 : Nat) : Int) + 1))))]) (List.forall_mem_cons.mpr ⟨(List.Mem.tail _ (List.Mem.tail _ (List.Mem.tail _ (List.Mem.tail _ (List.Mem.head _))))), (List.forall_mem_cons.mpr ⟨(List.Mem.tail _ (List.Mem.tail _ (List.Mem.tail _ (List.Mem.tail _ (List.Mem.tail _ (List.Mem.head _)))))), (List.forall_mem_cons.mpr ⟨(List.Mem.tail _ (List.Mem.tail _ (List.Mem.tail _ (List.Mem.tail _ (List.Mem.tail _ (List.Mem.tail _ (List.Mem.head _))))))), (List.forall_mem_cons.mpr ⟨(mem_ci (by show (zsst (zsF H row other) (-1, 0, 0) (zdk 0)).1 = _; unfold zsst; rw [show zdk 0 = 0 from rfl]; rw [if_pos ⟨zsF_0 pk qk, Or.inl rfl⟩]) (List.Mem.tail _ (List.Mem.tail _ (List.Mem.tail _ (List.Mem.head _))))), (List.forall_mem_cons.mpr ⟨(mem_cl (by show (zsst (zsF H row other) (-1, 0, 0) (zdk 0)).2.2 = _; unfold zsst; rw [show zdk 0 = 0 from rfl, if_pos ⟨zsF_0 pk qk, Or.inl rfl⟩]; exact (cga 0).symm) (List.Mem.tail _ (List.Mem.tail _ (List.Mem.head _)))), (List.forall_mem_cons.mpr ⟨(mem_cl (by show (zsst (zsF H row other) (-1, 0, 0) (zdk 0)).2.1 = _; unfold zsst; rw [show zdk 0 = 0 from rfl, if_pos ⟨zsF_0 pk qk, Or.inl rfl⟩]; exact (cgs 0).symm) (List.Mem.tail _ (List.Mem.head _))), (List.forall_mem_cons.mpr ⟨(mem_ci (by omega) (List.Mem.head _)), (fun _ h => absurd h List.not_mem_nil)⟩)⟩)⟩)⟩)⟩)⟩)⟩) ?_
          exact lp86 (3 - 0 + 1) (0) (by omega) (Nat.lt_succ_self _)
        · skip
          have qn : ¬ okr H other := fun q => (qA.elim (fun z => q.2.1 (q0 z)) (fun z => hc15 (hcxq z q)))
          refine z_if_ne (pc := 35) (tgt := 45) dX10_slip_35 (by decide) (by decide) (by decide) (fun h => absurd h (by decide)) (fun _ => ?_)
          refine x_aload_n (pc := 38) dX10_slip_38 (List.Mem.head _) ?_
          refine z_bipush (pc := 39) dX10_slip_39 bp_m100 ?_
          refine z_callVip (pc := 41) (i := mX10_refuseAs) (S := []) [.int (zN ((-100)))] dX10_slip_41 ml_X10_199 ok_X10_refuseAs rfl sh_20 rfl (Or.inl rfl) (Nat.le_of_ble_eq_true rfl) (c_X10_refuseAs (d := d + 1) (a := ((-100))) (a1 := (by omega)) (a2 := (by omega)) (ok := ok14) (cn := (by first | assumption | omega))) (fun r30a r30b ok31 => ?_)
          show Ev _ _ _ _ _ _ _ (eh (wI H 25 0 (H.1 25 0 + 1)))
          refine z_ireturn (pc := 44) dX10_slip_44 rfl (Or.inl rfl) ok31 (by omega) (by omega) ?_
          exact ⟨0, Or.inr ⟨fun q => by first | exact pn q.1 | exact qn q.2, rfl, rfl⟩, rfl⟩
      · skip
        have pn : ¬ okr H row := fun q => (pA.elim (fun z => q.2.1 (p0 z)) (fun z => hc11 (hcxp z q)))
        refine z_if_eq (pc := 23) (tgt := 38) dX10_slip_23 (by decide) (by decide) (by decide) (fun _ => ?_) (fun h => absurd h (by decide))
        refine x_aload_n (pc := 38) dX10_slip_38 (List.Mem.head _) ?_
        refine z_bipush (pc := 39) dX10_slip_39 bp_m100 ?_
        refine z_callVip (pc := 41) (i := mX10_refuseAs) (S := []) [.int (zN ((-100)))] dX10_slip_41 ml_X10_199 ok_X10_refuseAs rfl sh_20 rfl (Or.inl rfl) (Nat.le_of_ble_eq_true rfl) (c_X10_refuseAs (d := d + 1) (a := ((-100))) (a1 := (by omega)) (a2 := (by omega)) (ok := ok10) (cn := (by first | assumption | omega))) (fun r33a r33b ok34 => ?_)
        show Ev _ _ _ _ _ _ _ (eh (wI H 25 0 (H.1 25 0 + 1)))
        refine z_ireturn (pc := 44) dX10_slip_44 rfl (Or.inl rfl) ok34 (by omega) (by omega) ?_
        exact ⟨0, Or.inr ⟨fun q => by first | exact pn q.1 | exact qn q.2, rfl, rfl⟩, rfl⟩
    · skip
      have qn : ¬ okr H other := fun q => hc7 (by have := q.1; omega)
      refine z_if_eq (pc := 11) (tgt := 38) dX10_slip_11 (by decide) (by decide) (by decide) (fun _ => ?_) (fun h => absurd h (by decide))
      refine x_aload_n (pc := 38) dX10_slip_38 (List.Mem.head _) ?_
      refine z_bipush (pc := 39) dX10_slip_39 bp_m100 ?_
      refine z_callVip (pc := 41) (i := mX10_refuseAs) (S := []) [.int (zN ((-100)))] dX10_slip_41 ml_X10_199 ok_X10_refuseAs rfl sh_20 rfl (Or.inl rfl) (Nat.le_of_ble_eq_true rfl) (c_X10_refuseAs (d := d + 1) (a := ((-100))) (a1 := (by omega)) (a2 := (by omega)) (ok := ok6) (cn := (by first | assumption | omega))) (fun r36a r36b ok37 => ?_)
      show Ev _ _ _ _ _ _ _ (eh (wI H 25 0 (H.1 25 0 + 1)))
      refine z_ireturn (pc := 44) dX10_slip_44 rfl (Or.inl rfl) ok37 (by omega) (by omega) ?_
      exact ⟨0, Or.inr ⟨fun q => by first | exact pn q.1 | exact qn q.2, rfl, rfl⟩, rfl⟩
  · skip
    have pn : ¬ okr H row := fun q => hc3 (by have := q.1; omega)
    refine z_if_eq (pc := 4) (tgt := 38) dX10_slip_4 (by decide) (by decide) (by decide) (fun _ => ?_) (fun h => absurd h (by decide))
    refine x_aload_n (pc := 38) dX10_slip_38 (List.Mem.head _) ?_
    refine z_bipush (pc := 39) dX10_slip_39 bp_m100 ?_
    refine z_callVip (pc := 41) (i := mX10_refuseAs) (S := []) [.int (zN ((-100)))] dX10_slip_41 ml_X10_199 ok_X10_refuseAs rfl sh_20 rfl (Or.inl rfl) (Nat.le_of_ble_eq_true rfl) (c_X10_refuseAs (d := d + 1) (a := ((-100))) (a1 := (by omega)) (a2 := (by omega)) (ok := ok2) (cn := (by first | assumption | omega))) (fun r39a r39b ok40 => ?_)
    show Ev _ _ _ _ _ _ _ (eh (wI H 25 0 (H.1 25 0 + 1)))
    refine z_ireturn (pc := 44) dX10_slip_44 rfl (Or.inl rfl) ok40 (by omega) (by omega) ?_
    exact ⟨0, Or.inr ⟨fun q => by first | exact pn q.1 | exact qn q.2, rfl, rfl⟩, rfl⟩
