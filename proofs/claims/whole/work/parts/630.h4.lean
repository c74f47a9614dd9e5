/-! GROUP H4: more small pieces of the readers. -/

theorem c_X11_emit {d : Nat} {H : ZH} (ok : okZ H) {k v : Int} (k1 : -2147483648 ≤ k) (k2 : k ≤ 2147483647) (v1 : -2147483648 ≤ v) (v2 : v ≤ 2147483647) (hc : 0 ≤ H.1 0 15 ∧ H.1 0 15 ≤ 199) : EvC zX (d + 1) mX11_emit [.ref 0, .int (zN (k)), .int (zN (v))] (eh H) (zPv (fun (H1 : ZH) => H1 = wI (wI (wI H 5 (77 + 2 * (H.1 0 15).toNat) k) 5 (78 + 2 * (H.1 0 15).toNat) v) 0 15 (H.1 0 15 + 1))) := by
  show _ ∧ Ev zX mX11_emit (EvC zX d) (zPv (fun (H1 : ZH) => H1 = wI (wI (wI H 5 (77 + 2 * (H.1 0 15).toNat) k) 5 (78 + 2 * (H.1 0 15).toNat) v) 0 15 (H.1 0 15 + 1))) 0 [(0, .ref 0), (1, .int (zN (k))), (2, .int (zN (v)))] [] (eh H)
  refine ⟨Nat.le_of_ble_eq_true rfl, ?_⟩
  refine x_aload_n (pc := 0) dX11_emit_0 (List.Mem.head _) ?_
  refine z_getR (pc := 1) (k := 5) (r := 5) dX11_emit_1 lf_X11_27 sh_0 rfl rf_0_5 ?_
  refine z_bipush (pc := 4) dX11_emit_4 bp_77 ?_
  refine z_iconst (pc := 6) dX11_emit_6 ?_
  refine x_aload_n (pc := 7) dX11_emit_7 (List.Mem.head _) ?_
  have rd1 := ok.1 0 15
  refine z_getI (pc := 8) (k := 15) (v := H.1 0 15) dX11_emit_8 lf_X11_176 sh_0 rfl rfl ?_
  refine z_imul (pc := 11) dX11_emit_11 ?_
  refine z_iadd (pc := 12) dX11_emit_12 ?_
  refine x_iload_n (pc := 13) dX11_emit_13 (List.Mem.tail _ (List.Mem.head _)) ?_
  refine z_iast (pc := 14) (j := 77 + 2 * (H.1 0 15).toNat) (v := k) dX11_emit_14 sh_5 (by omega) (by omega) (by decide) ?_
  have ok2 := okI ok 5 (77 + 2 * (H.1 0 15).toNat) (v := k) (by omega) (by omega)
  refine x_aload_n (pc := 15) dX11_emit_15 (List.Mem.head _) ?_
  refine z_getR (pc := 16) (k := 5) (r := 5) dX11_emit_16 lf_X11_27 sh_0 rfl rf_0_5 ?_
  refine z_bipush (pc := 19) dX11_emit_19 bp_77 ?_
  refine z_iconst (pc := 21) dX11_emit_21 ?_
  refine x_aload_n (pc := 22) dX11_emit_22 (List.Mem.head _) ?_
  have rd3 := ok.1 0 15
  refine z_getI (pc := 23) (k := 15) (v := H.1 0 15) dX11_emit_23 lf_X11_176 sh_0 rfl (by rw [wI1c (by omega)]) ?_
  refine z_imul (pc := 26) dX11_emit_26 ?_
  refine z_iadd (pc := 27) dX11_emit_27 ?_
  refine z_iconst (pc := 28) dX11_emit_28 ?_
  refine z_iadd (pc := 29) dX11_emit_29 ?_
  refine x_iload_n (pc := 30) dX11_emit_30 (List.Mem.tail _ (List.Mem.tail _ (List.Mem.head _))) ?_
  refine z_iast (pc := 31) (j := 78 + 2 * (H.1 0 15).toNat) (v := v) dX11_emit_31 sh_5 (by omega) (by omega) (by decide) ?_
  have ok4 := okI ok2 5 (78 + 2 * (H.1 0 15).toNat) (v := v) (by omega) (by omega)
  refine x_aload_n (pc := 32) dX11_emit_32 (List.Mem.head _) ?_
  refine x_dup (pc := 33) dX11_emit_33 rfl ?_
  have rd5 := ok.1 0 15
  refine z_getI (pc := 34) (k := 15) (v := H.1 0 15) dX11_emit_34 lf_X11_176 sh_0 rfl (by rw [wI1c (by omega), wI1c (by omega)]) ?_
  refine z_iconst (pc := 37) dX11_emit_37 ?_
  refine z_iadd (pc := 38) dX11_emit_38 ?_
  refine z_putI (pc := 39) (k := 15) dX11_emit_39 lp_X11_176 sh_0 rfl ?_
  have ok6 := okI ok4 0 15 (v := ((H.1 0 15) + 1)) (by omega) (by omega)
  refine z_vreturn (pc := 42) dX11_emit_42 rfl ok6 ?_
  rfl

theorem c_X3_isWord {d : Nat} {H : ZH} (ok : okZ H) {w : Int} (w1 : -2147483648 ≤ w) (w2 : w ≤ 2147483647) : EvC zX (d + 1) mX3_isWord [.ref 28, .int (zN (w))] (eh H) (zPi (fun (rz : Int) (Hz : ZH) => rz = (if H.1 28 7 = 2 ∧ H.1 28 9 = w then 1 else 0) ∧ Hz = H)) := by
  show _ ∧ Ev zX mX3_isWord (EvC zX d) (zPi (fun (rz : Int) (Hz : ZH) => rz = (if H.1 28 7 = 2 ∧ H.1 28 9 = w then 1 else 0) ∧ Hz = H)) 0 [(0, .ref 28), (1, .int (zN (w)))] [] (eh H)
  refine ⟨Nat.le_of_ble_eq_true rfl, ?_⟩
  refine x_aload_n (pc := 0) dX3_isWord_0 (List.Mem.head _) ?_
  have rd1 := ok.1 28 7
  refine z_getI (pc := 1) (k := 7) (v := H.1 28 7) dX3_isWord_1 lf_X3_40 sh_28 rfl rfl ?_
  refine z_iconst (pc := 4) dX3_isWord_4 ?_
  refine z_icmp_ne (pc := 5) (tgt := 20) dX3_isWord_5 (by decide) (by omega) (by omega) (by decide) (by decide) (fun hb2 => ?_) (fun hb2 => ?_)
  · skip
    refine z_iconst (pc := 20) dX3_isWord_20 ?_
    refine z_ireturn (pc := 21) dX3_isWord_21 rfl (Or.inr ⟨rfl, by omega⟩) ok (by decide) (by decide) ?_
    refine ⟨?_, rfl⟩
    first | (rw [if_pos (by omega)]; done) | (rw [if_neg (by omega)]; done)
  · skip
    refine x_aload_n (pc := 8) dX3_isWord_8 (List.Mem.head _) ?_
    have rd3 := ok.1 28 9
    refine z_getI (pc := 9) (k := 9) (v := H.1 28 9) dX3_isWord_9 lf_X3_98 sh_28 rfl rfl ?_
    refine x_iload_n (pc := 12) dX3_isWord_12 (List.Mem.tail _ (List.Mem.head _)) ?_
    refine z_icmp_ne (pc := 13) (tgt := 20) dX3_isWord_13 (by decide) (by omega) (by omega) (by omega) (by omega) (fun hb4 => ?_) (fun hb4 => ?_)
    · skip
      refine z_iconst (pc := 20) dX3_isWord_20 ?_
      refine z_ireturn (pc := 21) dX3_isWord_21 rfl (Or.inr ⟨rfl, by omega⟩) ok (by decide) (by decide) ?_
      refine ⟨?_, rfl⟩
      first | (rw [if_pos (by omega)]; done) | (rw [if_neg (by omega)]; done)
    · skip
      refine z_iconst (pc := 16) dX3_isWord_16 ?_
      refine x_goto (pc := 17) (tgt := 21) dX3_isWord_17 (by decide) ?_
      refine z_ireturn (pc := 21) dX3_isWord_21 rfl (Or.inr ⟨rfl, by omega⟩) ok (by decide) (by decide) ?_
      refine ⟨?_, rfl⟩
      first | (rw [if_pos (by omega)]; done) | (rw [if_neg (by omega)]; done)

theorem c_X3_wrong {d : Nat} {H : ZH} (ok : okZ H) {k : Int} (k1 : -2147483648 ≤ k) (k2 : k ≤ 2147483647) : EvC zX (d + 1) mX3_wrong [.ref 28, .int (zN (k))] (eh H) (zPi (fun (r : Int) (H1 : ZH) => r = 0 ∧ H1 = wI (wI H 28 2 k) 28 3 (H.1 28 8))) := by
  show _ ∧ Ev zX mX3_wrong (EvC zX d) (zPi (fun (r : Int) (H1 : ZH) => r = 0 ∧ H1 = wI (wI H 28 2 k) 28 3 (H.1 28 8))) 0 [(0, .ref 28), (1, .int (zN (k)))] [] (eh H)
  refine ⟨Nat.le_of_ble_eq_true rfl, ?_⟩
  refine x_aload_n (pc := 0) dX3_wrong_0 (List.Mem.head _) ?_
  refine x_iload_n (pc := 1) dX3_wrong_1 (List.Mem.tail _ (List.Mem.head _)) ?_
  refine z_putI (pc := 2) (k := 2) dX3_wrong_2 lp_X3_92 sh_28 rfl ?_
  have ok1 := okI ok 28 2 (v := k) (by omega) (by omega)
  refine x_aload_n (pc := 5) dX3_wrong_5 (List.Mem.head _) ?_
  refine x_aload_n (pc := 6) dX3_wrong_6 (List.Mem.head _) ?_
  have rd2 := ok.1 28 8
  refine z_getI (pc := 7) (k := 8) (v := H.1 28 8) dX3_wrong_7 lf_X3_155 sh_28 rfl (by rw [wI1k (by omega)]) ?_
  refine z_putI (pc := 10) (k := 3) dX3_wrong_10 lp_X3_25 sh_28 rfl ?_
  have ok3 := okI ok1 28 3 (v := (H.1 28 8)) (by omega) (by omega)
  refine z_iconst (pc := 13) dX3_wrong_13 ?_
  refine z_ireturn (pc := 14) dX3_wrong_14 rfl (Or.inr ⟨rfl, by omega⟩) ok3 (by decide) (by decide) ?_
  exact ⟨rfl, rfl⟩

theorem c_X3_misfit {d : Nat} {H : ZH} (ok : okZ H)  : EvC zX (d + 2) mX3_misfit [.ref 28] (eh H) (zPi (fun (r : Int) (H1 : ZH) => r = 0 ∧ H1 = wI (wI H 28 2 (if H.1 28 7 = 1 then 1 else 2)) 28 3 (H.1 28 8))) := by
  show _ ∧ Ev zX mX3_misfit (EvC zX (d + 1)) (zPi (fun (r : Int) (H1 : ZH) => r = 0 ∧ H1 = wI (wI H 28 2 (if H.1 28 7 = 1 then 1 else 2)) 28 3 (H.1 28 8))) 0 [(0, .ref 28)] [] (eh H)
  refine ⟨Nat.le_of_ble_eq_true rfl, ?_⟩
  refine x_aload_n (pc := 0) dX3_misfit_0 (List.Mem.head _) ?_
  refine x_aload_n (pc := 1) dX3_misfit_1 (List.Mem.head _) ?_
  have rd1 := ok.1 28 7
  refine z_getI (pc := 2) (k := 7) (v := H.1 28 7) dX3_misfit_2 lf_X3_40 sh_28 rfl rfl ?_
  refine z_iconst (pc := 5) dX3_misfit_5 ?_
  refine z_icmp_ne (pc := 6) (tgt := 13) dX3_misfit_6 (by decide) (by omega) (by omega) (by decide) (by decide) (fun hb2 => ?_) (fun hb2 => ?_)
  · skip
    refine z_iconst (pc := 13) dX3_misfit_13 ?_
    refine z_callVi (pc := 14) (i := mX3_wrong) (S := []) [.int (zN (2))] dX3_misfit_14 ml_X3_60 ok_X3_wrong rfl sh_28 rfl (Or.inr rfl) (Nat.le_of_ble_eq_true rfl) (c_X3_wrong (d := d) (k := 2) (k1 := (by omega)) (k2 := (by omega)) (ok := ok)) ?_
    intro r3 H6 r3a r3b ok4 hp5
    have hpp := hp5
    refine z_ireturn (pc := 17) dX3_misfit_17 rfl (Or.inr ⟨rfl, by omega⟩) ok4 (by omega) (by omega) ?_
    first | (rw [if_pos (by omega)]; exact hpp) | (rw [if_neg (by omega)]; exact hpp)
  · skip
    refine z_iconst (pc := 9) dX3_misfit_9 ?_
    refine x_goto (pc := 10) (tgt := 14) dX3_misfit_10 (by decide) ?_
    refine z_callVi (pc := 14) (i := mX3_wrong) (S := []) [.int (zN (1))] dX3_misfit_14 ml_X3_60 ok_X3_wrong rfl sh_28 rfl (Or.inr rfl) (Nat.le_of_ble_eq_true rfl) (c_X3_wrong (d := d) (k := 1) (k1 := (by omega)) (k2 := (by omega)) (ok := ok)) ?_
    intro r7 H10 r7a r7b ok8 hp9
    have hpp := hp9
    refine z_ireturn (pc := 17) dX3_misfit_17 rfl (Or.inr ⟨rfl, by omega⟩) ok8 (by omega) (by omega) ?_
    first | (rw [if_pos (by omega)]; exact hpp) | (rw [if_neg (by omega)]; exact hpp)
