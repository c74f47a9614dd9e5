/-! GROUP H7: the class takes words, signs and numbers. -/
theorem cwd_inj : ∀ a : Fin 30, ∀ b : Fin 29, cwd (a : Nat) = cwd (b : Nat) → (a : Nat) = (b : Nat) := by decide +kernel
theorem cwd_ij {a b : Int} (ha : 0 ≤ a ∧ a ≤ 29) (hb : 0 ≤ b ∧ b ≤ 28) (h : cwd a = cwd b) : a = b := by
  obtain ⟨m, rfl⟩ := Int.eq_ofNat_of_zero_le ha.1
  obtain ⟨k, rfl⟩ := Int.eq_ofNat_of_zero_le hb.1
  have z : m = k := cwd_inj ⟨m, by omega⟩ ⟨k, by omega⟩ h
  rw [z]
theorem ctK_2 {K : Int} (h : 0 ≤ K ∧ K ≤ 35) : (ctK K = 2 ↔ K ≤ 29) ∧ (ctK K = 3 ↔ K = 30) ∧ (ctK K = 1 ↔ K = 35) ∧ (ctK K = 4 ↔ (31 ≤ K ∧ K ≤ 33)) ∧ (ctK K = 0 ↔ K = 34) := by
  unfold ctK
  (repeat' split) <;> omega
theorem ClS_K {H : ZH} {T : Nat → Int} {n p : Nat} (hS : ClS H T n p) : 0 ≤ tkK T n p ∧ tkK T n p ≤ 35 := (tk_bd T hS.1).2.2.2.1
theorem ClS_7 {H : ZH} {T : Nat → Int} {n p : Nat} (hS : ClS H T n p) : H.1 28 7 = ctK (tkK T n p) := hS.2.2.2.2.2.2.1
theorem ClS_9 {H : ZH} {T : Nat → Int} {n p : Nat} (hS : ClS H T n p) : tkK T n p ≠ 35 → H.1 28 9 = ctV (tkK T n p) (tkN T n p) := hS.2.2.2.2.2.2.2.1
theorem ctV_w {K v : Int} (h : K ≤ 29) : ctV K v = cwd K := if_pos h
theorem isw_k {H : ZH} {T : Nat → Int} {n p : Nat} {k : Int} (hS : ClS H T n p) (hk : 0 ≤ k ∧ k ≤ 28) : (H.1 28 7 = 2 ∧ H.1 28 9 = cwd k) ↔ tkK T n p = k := by
  have kb := ClS_K hS
  have k2 := (ctK_2 kb).1
  rw [ClS_7 hS]
  constructor
  · intro h
    have z := k2.1 h.1
    have y := ClS_9 hS (by omega)
    rw [ctV_w z, h.2] at y
    exact (cwd_ij ⟨kb.1, z⟩ hk y.symm)
  · intro h
    have z : tkK T n p ≤ 29 := by omega
    refine ⟨k2.2 z, ?_⟩
    rw [ClS_9 hS (by omega), ctV_w z, h]
theorem iss_k {H : ZH} {T : Nat → Int} {n p : Nat} {k s : Int} (hS : ClS H T n p) (hks : (k = 31 ∧ s = 59) ∨ (k = 33 ∧ s = 41) ∨ (k = 32 ∧ s = 40)) : (H.1 28 7 = 4 ∧ H.1 28 9 = s) ↔ tkK T n p = k := by
  have kb := ClS_K hS
  have k4 := (ctK_2 kb).2.2.2.1
  rw [ClS_7 hS]
  constructor
  · intro h
    have z := k4.1 h.1
    have y := ClS_9 hS (by omega)
    rw [h.2] at y
    unfold ctV at y
    rw [if_neg (by omega), if_neg (by omega)] at y
    revert y
    (repeat' split) <;> omega
  · intro h
    refine ⟨k4.2 (by omega), ?_⟩
    rw [ClS_9 hS (by omega)]
    unfold ctV
    rw [if_neg (by omega), if_neg (by omega)]
    (repeat' split) <;> omega
theorem isn_k {H : ZH} {T : Nat → Int} {n p : Nat} (hS : ClS H T n p) : (H.1 28 7 = 3 ↔ tkK T n p = 30) ∧ (tkK T n p = 30 → H.1 28 9 = tkN T n p) := by
  have kb := ClS_K hS
  rw [ClS_7 hS]
  refine ⟨(ctK_2 kb).2.1, fun h => ?_⟩
  rw [ClS_9 hS (by omega), h]
  rfl
/-- the class's reading went on to p (w = 0) or failed there -/
def ClO (H : ZH) (T : Nat → Int) (n : Nat) (r w : Int) (p : Nat) : Prop := (w = 0 → r = 1 ∧ ClS H T n p) ∧ (w ≠ 0 → r = 0 ∧ H.1 28 2 = w ∧ H.1 28 3 = (p : Int))
def FcK (H H1 : ZH) : Prop := (∀ cc k, ¬ (cc = 28 ∧ (k = 2 ∨ k = 3 ∨ (6 ≤ k ∧ k ≤ 10))) → H1.1 cc k = H.1 cc k) ∧ H1.2 = H.2
theorem FcK_rf (H : ZH) : FcK H H := ⟨fun _ _ _ => rfl, rfl⟩
theorem FcK_tr {H H1 H2 : ZH} (a : FcK H H1) (b : FcK H1 H2) : FcK H H2 := ⟨fun cc k h => (b.1 cc k h).trans (a.1 cc k h), b.2.trans a.2⟩
theorem FcK_C {H H1 : ZH} (a : FcC H H1) : FcK H H1 := ⟨fun cc k h => a.1 cc k (by omega), a.2⟩
theorem wr_ClO {H H1 : ZH} {T : Nat → Int} {n p : Nat} {r a : Int} (ha : a ≠ 0) (hS : ClS H T n p) (hK : tkK T n p ≠ 35) (h : r = 0 ∧ H1 = wI (wI H 28 2 a) 28 3 (H.1 28 8)) : ClO H1 T n r (pfW T n a 0 p) (pfP T n 0 p) ∧ FcK H H1 := by
  obtain ⟨h0, h⟩ := h
  have e1 : pfW T n a 0 p = a := (if_pos rfl).trans (if_neg hK)
  have e2 : pfP T n 0 p = tkA T n p := if_pos rfl
  rw [e1, e2, h]
  refine ⟨⟨fun z => absurd z ha, fun _ => ⟨h0, ?_, ?_⟩⟩, fun cc k hh => ?_, rfl⟩
  · rw [wI1k (by omega), wI1]
  · rw [wI1]; exact hS.2.2.2.2.1
  · rw [wIg, if_neg (by omega), wIg, if_neg (by omega)]
theorem ms_ClO {H H1 : ZH} {T : Nat → Int} {n p : Nat} {r : Int} (hS : ClS H T n p) (h : r = 0 ∧ H1 = wI (wI H 28 2 (if H.1 28 7 = 1 then 1 else 2)) 28 3 (H.1 28 8)) : ClO H1 T n r (pfW T n 2 0 p) (pfP T n 0 p) ∧ FcK H H1 := by
  obtain ⟨h0, h⟩ := h
  have e1 : pfW T n 2 0 p = if H.1 28 7 = 1 then 1 else 2 := by
    have k1 := (ctK_2 (ClS_K hS)).2.2.1
    have e : pfW T n 2 0 p = if tkK T n p = 35 then 1 else 2 := if_pos rfl
    rw [e, ClS_7 hS]
    by_cases z : tkK T n p = 35
    · rw [if_pos z, if_pos (k1.2 z)]
    · rw [if_neg z, if_neg (fun y => z (k1.1 y))]
  have e2 : pfP T n 0 p = tkA T n p := if_pos rfl
  rw [e1, e2, h]
  refine ⟨⟨fun z => absurd z (by split <;> omega), fun _ => ⟨h0, ?_, ?_⟩⟩, fun cc k hh => ?_, rfl⟩
  · rw [wI1k (by omega), wI1]
  · rw [wI1]; exact hS.2.2.2.2.1
  · rw [wIg, if_neg (by omega), wIg, if_neg (by omega)]

theorem c_X3_takeWord {d : Nat} {H : ZH} (ok : okZ H) {T : Nat → Int} {n p : Nat} {k W : Int} (hn : n ≤ 400) (hk : 0 ≤ k ∧ k ≤ 28) (hW : W = cwd k) (W1 : -2147483648 ≤ W) (W2 : W ≤ 2147483647) (hS : ClS H T n p) : EvC zX (d + 3) mX3_takeWord [.ref 28, .int (zN (W))] (eh H) (zPi (fun (r : Int) (H1 : ZH) => ClO H1 T n r (pnW T n k 0 p) (pnP T n k 0 p) ∧ FcK H H1)) := by
  show _ ∧ Ev zX mX3_takeWord (EvC zX (d + 2)) (zPi (fun (r : Int) (H1 : ZH) => ClO H1 T n r (pnW T n k 0 p) (pnP T n k 0 p) ∧ FcK H H1)) 0 [(0, .ref 28), (1, .int (zN (W)))] [] (eh H)
  refine ⟨Nat.le_of_ble_eq_true rfl, ?_⟩
  refine x_aload_n (pc := 0) dX3_takeWord_0 (List.Mem.head _) ?_
  refine x_iload_n (pc := 1) dX3_takeWord_1 (List.Mem.tail _ (List.Mem.head _)) ?_
  refine z_callVbp (pc := 2) (i := mX3_isWord) (S := []) [.int (zN (W))] dX3_takeWord_2 ml_X3_55 ok_X3_isWord rfl sh_28 rfl (Or.inr rfl) (Nat.le_of_ble_eq_true rfl) (c_X3_isWord (d := d + 1) (w := W) (w1 := (by omega)) (w2 := (by omega)) (ok := ok)) (fun hc3 ok2 => ?_) (fun hc3 ok2 => ?_)
  · skip
    have hct : tkK T n p = k := (isw_k hS hk).1 ⟨hc3.1, by have y := hc3.2; omega⟩
    have hpt := pn_t (T := T) (n := n) (p := p) (a := k) (w := 0) ⟨rfl, hct⟩
    refine z_if_ne (pc := 5) (tgt := 13) dX3_takeWord_5 (by decide) (by decide) (by decide) (fun _ => ?_) (fun h => absurd h (by decide))
    refine x_aload_n (pc := 13) dX3_takeWord_13 (List.Mem.head _) ?_
    refine z_callVv (pc := 14) (i := mX3_advance) (S := []) [] dX3_takeWord_14 ml_X3_95 ok_X3_advance rfl sh_28 rfl rfl (Nat.le_of_ble_eq_true rfl) (c_X3_advance (d := d) (T := T) (n := n) (b := (tkE T n p)) (hn := hn) (hb := ((tk_bd T hS.1).2.2.1)) (ok := ok2) (y4 := (hS.2.1)) (h5 := (hS.2.2.1)) (h6 := (hS.2.2.2.2.2.1)) (htp := hS.2.2.2.1) (g2 := (hS.2.2.2.2.2.2.2.2.1)) (g3 := (hS.2.2.2.2.2.2.2.2.2))) ?_
    intro H8 ok6 hp7
    have hadv := hp7
    refine z_iconst (pc := 17) dX3_takeWord_17 ?_
    refine z_ireturn (pc := 18) dX3_takeWord_18 rfl (Or.inr ⟨rfl, by omega⟩) ok6 (by decide) (by decide) ?_
    rw [hpt.1, hpt.2]
    exact ⟨⟨fun _ => ⟨rfl, hadv.1⟩, fun z => absurd rfl z⟩, FcK_C hadv.2⟩
  · skip
    have hcf : ¬ tkK T n p = k := fun z => hc3 ⟨((isw_k hS hk).2 z).1, by have y := ((isw_k hS hk).2 z).2; omega⟩
    have hpf := pn_f (T := T) (n := n) (p := p) (a := k) (w := 0) (fun z => hcf z.2)
    refine z_if_ne (pc := 5) (tgt := 13) dX3_takeWord_5 (by decide) (by decide) (by decide) (fun h => absurd h (by decide)) (fun _ => ?_)
    refine x_aload_n (pc := 8) dX3_takeWord_8 (List.Mem.head _) ?_
    refine z_callVi (pc := 9) (i := mX3_misfit) (S := []) [] dX3_takeWord_9 ml_X3_101 ok_X3_misfit rfl sh_28 rfl (Or.inr rfl) (Nat.le_of_ble_eq_true rfl) (c_X3_misfit (d := d) (ok := ok2)) ?_
    intro r10 H13 r10a r10b ok11 hp12
    have hm := ms_ClO hS hp12
    refine z_ireturn (pc := 12) dX3_takeWord_12 rfl (Or.inr ⟨rfl, by omega⟩) ok11 (by omega) (by omega) ?_
    rw [hpf.1, hpf.2]
    exact hm

theorem c_X3_takeSign {d : Nat} {H : ZH} (ok : okZ H) {T : Nat → Int} {n p : Nat} {k s : Int} (hn : n ≤ 400) (hks : (k = 31 ∧ s = 59) ∨ (k = 33 ∧ s = 41) ∨ (k = 32 ∧ s = 40)) (hS : ClS H T n p) : EvC zX (d + 3) mX3_takeSign [.ref 28, .int (zN (s))] (eh H) (zPi (fun (r : Int) (H1 : ZH) => ClO H1 T n r (pnW T n k 0 p) (pnP T n k 0 p) ∧ FcK H H1)) := by
  show _ ∧ Ev zX mX3_takeSign (EvC zX (d + 2)) (zPi (fun (r : Int) (H1 : ZH) => ClO H1 T n r (pnW T n k 0 p) (pnP T n k 0 p) ∧ FcK H H1)) 0 [(0, .ref 28), (1, .int (zN (s)))] [] (eh H)
  refine ⟨Nat.le_of_ble_eq_true rfl, ?_⟩
  have isk := iss_k hS hks
  refine x_aload_n (pc := 0) dX3_takeSign_0 (List.Mem.head _) ?_
  have rd1 := ok.1 28 7
  refine z_getI (pc := 1) (k := 7) (v := H.1 28 7) dX3_takeSign_1 lf_X3_40 sh_28 rfl rfl ?_
  refine z_iconst (pc := 4) dX3_takeSign_4 ?_
  refine z_icmp_ne (pc := 5) (tgt := 16) dX3_takeSign_5 (by decide) (by omega) (by omega) (by decide) (by decide) (fun hb2 => ?_) (fun hb2 => ?_)
  · skip
    have hcf : ¬ tkK T n p = k := fun z => by have y := isk.2 z; omega
    have hpf := pn_f (T := T) (n := n) (p := p) (a := k) (w := 0) (fun z => hcf z.2)
    refine x_aload_n (pc := 16) dX3_takeSign_16 (List.Mem.head _) ?_
    refine z_callVi (pc := 17) (i := mX3_misfit) (S := []) [] dX3_takeSign_17 ml_X3_101 ok_X3_misfit rfl sh_28 rfl (Or.inr rfl) (Nat.le_of_ble_eq_true rfl) (c_X3_misfit (d := d) (ok := ok)) ?_
    intro r3 H6 r3a r3b ok4 hp5
    have hm := ms_ClO hS hp5
    refine z_ireturn (pc := 20) dX3_takeSign_20 rfl (Or.inr ⟨rfl, by omega⟩) ok4 (by omega) (by omega) ?_
    rw [hpf.1, hpf.2]
    exact hm
  · skip
    refine x_aload_n (pc := 8) dX3_takeSign_8 (List.Mem.head _) ?_
    have rd7 := ok.1 28 9
    refine z_getI (pc := 9) (k := 9) (v := H.1 28 9) dX3_takeSign_9 lf_X3_98 sh_28 rfl rfl ?_
    refine x_iload_n (pc := 12) dX3_takeSign_12 (List.Mem.tail _ (List.Mem.head _)) ?_
    refine z_icmp_eq (pc := 13) (tgt := 21) dX3_takeSign_13 (by decide) (by omega) (by omega) (by omega) (by omega) (fun hb8 => ?_) (fun hb8 => ?_)
    · skip
      have hct : tkK T n p = k := isk.1 ⟨by omega, by omega⟩
      have hpt := pn_t (T := T) (n := n) (p := p) (a := k) (w := 0) ⟨rfl, hct⟩
      refine x_aload_n (pc := 21) dX3_takeSign_21 (List.Mem.head _) ?_
      refine z_callVv (pc := 22) (i := mX3_advance) (S := []) [] dX3_takeSign_22 ml_X3_95 ok_X3_advance rfl sh_28 rfl rfl (Nat.le_of_ble_eq_true rfl) (c_X3_advance (d := d) (T := T) (n := n) (b := (tkE T n p)) (hn := hn) (hb := ((tk_bd T hS.1).2.2.1)) (ok := ok) (y4 := (hS.2.1)) (h5 := (hS.2.2.1)) (h6 := (hS.2.2.2.2.2.1)) (htp := hS.2.2.2.1) (g2 := (hS.2.2.2.2.2.2.2.2.1)) (g3 := (hS.2.2.2.2.2.2.2.2.2))) ?_
      intro H12 ok10 hp11
      have hadv := hp11
      refine z_iconst (pc := 25) dX3_takeSign_25 ?_
      refine z_ireturn (pc := 26) dX3_takeSign_26 rfl (Or.inr ⟨rfl, by omega⟩) ok10 (by decide) (by decide) ?_
      rw [hpt.1, hpt.2]
      exact ⟨⟨fun _ => ⟨rfl, hadv.1⟩, fun z => absurd rfl z⟩, FcK_C hadv.2⟩
    · skip
      have hcf : ¬ tkK T n p = k := fun z => by have y := isk.2 z; omega
      have hpf := pn_f (T := T) (n := n) (p := p) (a := k) (w := 0) (fun z => hcf z.2)
      refine x_aload_n (pc := 16) dX3_takeSign_16 (List.Mem.head _) ?_
      refine z_callVi (pc := 17) (i := mX3_misfit) (S := []) [] dX3_takeSign_17 ml_X3_101 ok_X3_misfit rfl sh_28 rfl (Or.inr rfl) (Nat.le_of_ble_eq_true rfl) (c_X3_misfit (d := d) (ok := ok)) ?_
      intro r13 H16 r13a r13b ok14 hp15
      have hm := ms_ClO hS hp15
      refine z_ireturn (pc := 20) dX3_takeSign_20 rfl (Or.inr ⟨rfl, by omega⟩) ok14 (by omega) (by omega) ?_
      rw [hpf.1, hpf.2]
      exact hm

theorem c_X3_takeNumber {d : Nat} {H : ZH} (ok : okZ H) {T : Nat → Int} {n p : Nat} {lo hi : Int} (hn : n ≤ 400) (lo1 : -2147483648 ≤ lo) (lo2 : lo ≤ 2147483647) (hi1 : -2147483648 ≤ hi) (hi2 : hi ≤ 2147483647) (hS : ClS H T n p) : EvC zX (d + 3) mX3_takeNumber [.ref 28, .int (zN (lo)), .int (zN (hi))] (eh H) (zPi (fun (r : Int) (H1 : ZH) => ClO H1 T n r (ptW T n lo hi 0 p) (ptP T n lo hi 0 p) ∧ ((ptW T n lo hi 0 p) = 0 → H1.1 28 10 = tkN T n p) ∧ FcK H H1)) := by
  show _ ∧ Ev zX mX3_takeNumber (EvC zX (d + 2)) (zPi (fun (r : Int) (H1 : ZH) => ClO H1 T n r (ptW T n lo hi 0 p) (ptP T n lo hi 0 p) ∧ ((ptW T n lo hi 0 p) = 0 → H1.1 28 10 = tkN T n p) ∧ FcK H H1)) 0 [(0, .ref 28), (1, .int (zN (lo))), (2, .int (zN (hi)))] [] (eh H)
  refine ⟨Nat.le_of_ble_eq_true rfl, ?_⟩
  have isk := isn_k hS
  refine x_aload_n (pc := 0) dX3_takeNumber_0 (List.Mem.head _) ?_
  have rd1 := ok.1 28 7
  refine z_getI (pc := 1) (k := 7) (v := H.1 28 7) dX3_takeNumber_1 lf_X3_40 sh_28 rfl rfl ?_
  refine z_iconst (pc := 4) dX3_takeNumber_4 ?_
  refine z_icmp_eq (pc := 5) (tgt := 13) dX3_takeNumber_5 (by decide) (by omega) (by omega) (by decide) (by decide) (fun hb2 => ?_) (fun hb2 => ?_)
  · skip
    have hct : tkK T n p = 30 := isk.1.1 (by omega)
    have hv := isk.2 hct
    have rdv := ok.1 28 9
    refine x_aload_n (pc := 13) dX3_takeNumber_13 (List.Mem.head _) ?_
    have rd3 := ok.1 28 9
    refine z_getI (pc := 14) (k := 9) (v := H.1 28 9) dX3_takeNumber_14 lf_X3_98 sh_28 rfl rfl ?_
    refine x_iload_n (pc := 17) dX3_takeNumber_17 (List.Mem.tail _ (List.Mem.head _)) ?_
    refine z_icmp_lt (pc := 18) (tgt := 29) dX3_takeNumber_18 (by decide) (by omega) (by omega) (by omega) (by omega) (fun hb4 => ?_) (fun hb4 => ?_)
    · skip
      have hpf := pt_b (T := T) (n := n) (p := p) (lo := lo) (hi := hi) (w := 0) ⟨rfl, hct⟩ (by omega)
      refine x_aload_n (pc := 29) dX3_takeNumber_29 (List.Mem.head _) ?_
      refine z_iconst (pc := 30) dX3_takeNumber_30 ?_
      refine z_callVi (pc := 31) (i := mX3_wrong) (S := []) [.int (zN (3))] dX3_takeNumber_31 ml_X3_60 ok_X3_wrong rfl sh_28 rfl (Or.inr rfl) (Nat.le_of_ble_eq_true rfl) (c_X3_wrong (d := d + 1) (k := 3) (k1 := (by omega)) (k2 := (by omega)) (ok := ok)) ?_
      intro r5 H8 r5a r5b ok6 hp7
      have hm := wr_ClO (by omega) hS (by omega) hp7
      have hne : ptW T n lo hi 0 p ≠ 0 := fun z => by have y := (hm.1.1 (hpf.1.symm.trans z)).1; have y2 := hp7.1; omega
      refine z_ireturn (pc := 34) dX3_takeNumber_34 rfl (Or.inr ⟨rfl, by omega⟩) ok6 (by omega) (by omega) ?_
      refine ⟨?_, fun z => absurd z hne, hm.2⟩
      rw [pt_n hne, hpf.1, hpf.2]
      exact hm.1
    · skip
      refine x_aload_n (pc := 21) dX3_takeNumber_21 (List.Mem.head _) ?_
      have rd9 := ok.1 28 9
      refine z_getI (pc := 22) (k := 9) (v := H.1 28 9) dX3_takeNumber_22 lf_X3_98 sh_28 rfl rfl ?_
      refine x_iload_n (pc := 25) dX3_takeNumber_25 (List.Mem.tail _ (List.Mem.tail _ (List.Mem.head _))) ?_
      refine z_icmp_le (pc := 26) (tgt := 35) dX3_takeNumber_26 (by decide) (by omega) (by omega) (by omega) (by omega) (fun hb10 => ?_) (fun hb10 => ?_)
      · skip
        have hpo := pt_o (T := T) (n := n) (p := p) (lo := lo) (hi := hi) (w := 0) ⟨rfl, hct⟩ (by omega)
        have hpz := pt_z (T := T) (n := n) (p := p) (lo := lo) (hi := hi) (w := 0) hpo.1
        refine x_aload_n (pc := 35) dX3_takeNumber_35 (List.Mem.head _) ?_
        refine x_aload_n (pc := 36) dX3_takeNumber_36 (List.Mem.head _) ?_
        have rd11 := ok.1 28 9
        refine z_getI (pc := 37) (k := 9) (v := H.1 28 9) dX3_takeNumber_37 lf_X3_98 sh_28 rfl rfl ?_
        refine z_putI (pc := 40) (k := 10) dX3_takeNumber_40 lp_X3_70 sh_28 rfl ?_
        have ok12 := okI ok 28 10 (v := (H.1 28 9)) (by omega) (by omega)
        refine x_aload_n (pc := 43) dX3_takeNumber_43 (List.Mem.head _) ?_
        refine z_callVv (pc := 44) (i := mX3_advance) (S := []) [] dX3_takeNumber_44 ml_X3_95 ok_X3_advance rfl sh_28 rfl rfl (Nat.le_of_ble_eq_true rfl) (c_X3_advance (d := d) (T := T) (n := n) (b := (tkE T n p)) (hn := hn) (hb := ((tk_bd T hS.1).2.2.1)) (ok := ok12) (y4 := (by rw [wI1k (by omega)]; exact hS.2.1)) (h5 := (by rw [wI1k (by omega)]; exact hS.2.2.1)) (h6 := (by rw [wI1k (by omega)]; exact hS.2.2.2.2.2.1)) (htp := (TpC_c (by repeat rw [wIf (by omega)]) hS.2.2.2.1)) (g2 := (by rw [wI1k (by omega)]; exact hS.2.2.2.2.2.2.2.2.1)) (g3 := (by rw [wI1k (by omega)]; exact hS.2.2.2.2.2.2.2.2.2))) ?_
        intro H16 ok14 hp15
        have hadv := hp15
        refine z_iconst (pc := 47) dX3_takeNumber_47 ?_
        refine z_ireturn (pc := 48) dX3_takeNumber_48 rfl (Or.inr ⟨rfl, by omega⟩) ok14 (by decide) (by decide) ?_
        refine ⟨?_, fun _ => ?_, ?_⟩
        · rw [hpo.1, hpz.2.2.2.2]; exact ⟨fun _ => ⟨rfl, hadv.1⟩, fun z => absurd rfl z⟩
        · rw [hadv.2.1 28 10 (by omega), wI1]; exact hv
        · exact ⟨fun cc k h => by rw [hadv.2.1 cc k (by omega), wIg, if_neg (by omega)], hadv.2.2⟩
      · skip
        have hpf := pt_b (T := T) (n := n) (p := p) (lo := lo) (hi := hi) (w := 0) ⟨rfl, hct⟩ (by omega)
        refine x_aload_n (pc := 29) dX3_takeNumber_29 (List.Mem.head _) ?_
        refine z_iconst (pc := 30) dX3_takeNumber_30 ?_
        refine z_callVi (pc := 31) (i := mX3_wrong) (S := []) [.int (zN (3))] dX3_takeNumber_31 ml_X3_60 ok_X3_wrong rfl sh_28 rfl (Or.inr rfl) (Nat.le_of_ble_eq_true rfl) (c_X3_wrong (d := d + 1) (k := 3) (k1 := (by omega)) (k2 := (by omega)) (ok := ok)) ?_
        intro r17 H20 r17a r17b ok18 hp19
        have hm := wr_ClO (by omega) hS (by omega) hp19
        have hne : ptW T n lo hi 0 p ≠ 0 := fun z => by have y := (hm.1.1 (hpf.1.symm.trans z)).1; have y2 := hp19.1; omega
        refine z_ireturn (pc := 34) dX3_takeNumber_34 rfl (Or.inr ⟨rfl, by omega⟩) ok18 (by omega) (by omega) ?_
        refine ⟨?_, fun z => absurd z hne, hm.2⟩
        rw [pt_n hne, hpf.1, hpf.2]
        exact hm.1
  · skip
    have hpf := pt_f (T := T) (n := n) (p := p) (lo := lo) (hi := hi) (w := 0) (fun z => by have y := isk.1.2 z.2; omega)
    refine x_aload_n (pc := 8) dX3_takeNumber_8 (List.Mem.head _) ?_
    refine z_callVi (pc := 9) (i := mX3_misfit) (S := []) [] dX3_takeNumber_9 ml_X3_101 ok_X3_misfit rfl sh_28 rfl (Or.inr rfl) (Nat.le_of_ble_eq_true rfl) (c_X3_misfit (d := d) (ok := ok)) ?_
    intro r21 H24 r21a r21b ok22 hp23
    have hm := ms_ClO hS hp23
    have hne : ptW T n lo hi 0 p ≠ 0 := fun z => by have y := (hm.1.1 (hpf.1.symm.trans z)).1; have y2 := hp23.1; omega
    refine z_ireturn (pc := 12) dX3_takeNumber_12 rfl (Or.inr ⟨rfl, by omega⟩) ok22 (by omega) (by omega) ?_
    refine ⟨?_, fun z => absurd z hne, hm.2⟩
    rw [pt_n hne, hpf.1, hpf.2]
    exact hm.1
