/-! GROUP E: pays and rests, status, the tape, clumps, slip. -/
theorem Ev_heq {X : MX} {mi : MI} {C : MCall} {Rt : MPost} {pc : Nat} {L : ML} {S : List Value} {H H1 : ZH} (h : H = H1) (k : Ev X mi C Rt pc L S (eh H1)) : Ev X mi C Rt pc L S (eh H) := h ▸ k
def pA (A : Nat → Int) (w d n : Nat) : Int := A (558 + (w * 10 + d * 5 + n))
def RepY (H : ZH) : Prop := ∀ i, i < 20 → H.1 99 i = H.1 2 (558 + i)
def WFY (A : Nat → Int) : Prop := ∀ i, i < 20 → -99 ≤ A (558 + i) ∧ A (558 + i) ≤ 99
theorem pA_bd {A : Nat → Int} (h : WFY A) {w d n : Nat} (hw : w < 2) (hd : d < 2) (hn : n < 5) : -99 ≤ pA A w d n ∧ pA A w d n ≤ 99 := h _ (by omega)
def S_pay (A : Nat → Int) (who doing n v : Int) : Int × Nat := if (0 ≤ who ∧ who ≤ 1) ∧ (0 ≤ doing ∧ doing ≤ 1) ∧ (0 ≤ n ∧ n ≤ 4) ∧ (-99 ≤ v ∧ v ≤ 99) then (pA A who.toNat doing.toNat n.toNat, 6) else (-1000, 0)
/-- REST: k cars, m walkers; the state: how many, the first -/
def rst (A : Nat → Int) (w : Nat) (g al : Int) (og : Nat) : Bool := decide ((g = 0 ∨ pA A w 0 og ≤ pA A w 1 og) ∧ (g = al ∨ pA A w 1 og ≤ pA A w 0 og))
def rsp (A : Nat → Int) (k m : Int) (i j : Nat) (q : Int × Int) : Int × Int := if rst A 0 i k j = true ∧ rst A 1 j m i = true then (q.1 + 1, if q.2 = -1 then 10 * (i : Int) + j else q.2) else q
def rin (A : Nat → Int) (k m : Int) (i : Nat) : Nat → Int × Int → Int × Int
  | 0, q => q
  | j + 1, q => rsp A k m i j (rin A k m i j q)
def rout (A : Nat → Int) (k m : Int) : Nat → Int × Int
  | 0 => (0, -1)
  | i + 1 => rin A k m i (m.toNat + 1) (rout A k m i)
def rok (q : Int × Int) (c : Int) : Prop := (0 ≤ q.1 ∧ q.1 ≤ c) ∧ (-1 ≤ q.2 ∧ q.2 ≤ 44)
theorem rsp_ok {A : Nat → Int} {k m : Int} {i j : Nat} {q : Int × Int} {c : Int} (h : rok q c) (hi : i ≤ 4) (hj : j ≤ 4) : rok (rsp A k m i j q) (c + 1) := by
  obtain ⟨⟨a1, a2⟩, b1, b2⟩ := h
  unfold rsp
  split
  · refine ⟨⟨by dsimp only; omega, by dsimp only; omega⟩, ?_, ?_⟩ <;> dsimp only <;> split <;> omega
  · exact ⟨⟨a1, by omega⟩, b1, b2⟩
theorem rin_ok {A : Nat → Int} {k m : Int} {i : Nat} {q : Int × Int} {c : Int} (h : rok q c) (hi : i ≤ 4) (j : Nat) (hj : j ≤ 5) : rok (rin A k m i j q) (c + j) := by
  induction j with
  | zero => exact ⟨⟨h.1.1, by have := h.1.2; show q.1 ≤ c + ((0 : Nat) : Int); omega⟩, h.2⟩
  | succ j ih =>
    have e := rsp_ok (A := A) (k := k) (m := m) (ih (by omega)) hi (j := j) (by omega)
    rw [show c + ((j + 1 : Nat) : Int) = c + (j : Int) + 1 by omega]
    exact e
theorem rout_ok {A : Nat → Int} {k m : Int} (hm : m ≤ 4) (i : Nat) (hi : i ≤ 5) : rok (rout A k m i) (5 * i) := by
  induction i with
  | zero => exact ⟨⟨Int.le_refl _, Int.le_refl _⟩, Int.le_refl _, (show (-1 : Int) ≤ 44 by decide)⟩
  | succ i ih =>
    have e := rin_ok (A := A) (k := k) (m := m) (ih (by omega)) (i := i) (by omega) (m.toNat + 1) (by omega)
    refine ⟨⟨e.1.1, Int.le_trans e.1.2 ?_⟩, e.2⟩
    omega
def S_rests (A : Nat → Int) (k m what : Int) : Int × Nat := if 0 ≤ what ∧ what ≤ 1 then (if (0 ≤ k ∧ k ≤ 4) ∧ (0 ≤ m ∧ m ≤ 4) then ((if what = 0 then (rout A k m (k.toNat + 1)).1 else (rout A k m (k.toNat + 1)).2), 6) else (-3, 1)) else (-2, 0)
def S_status (f : Nat → Int) (what : Int) : Int := if 0 ≤ what ∧ what ≤ 5 then f what.toNat else -1

theorem c_X8_payIndex {d : Nat} {H : ZH} (ok : okZ H) {w dn n : Nat} (hw : w < 2) (hd : dn < 2) (hn : n < 5) : EvC zX (d + 1) mX8_payIndex [.int (zN ((w : Int))), .int (zN ((dn : Int))), .int (zN ((n : Int)))] (eh H) (zPi (fun (rz : Int) (Hz : ZH) => rz = (((w * 10 + dn * 5 + n : Nat) : Int)) ∧ Hz = H)) := by
  show _ ∧ Ev zX mX8_payIndex (EvC zX d) (zPi (fun (rz : Int) (Hz : ZH) => rz = (((w * 10 + dn * 5 + n : Nat) : Int)) ∧ Hz = H)) 0 [(0, .int (zN ((w : Int)))), (1, .int (zN ((dn : Int)))), (2, .int (zN ((n : Int))))] [] (eh H)
  refine ⟨Nat.le_of_ble_eq_true rfl, ?_⟩
  refine x_iload_n (pc := 0) dX8_payIndex_0 (List.Mem.head _) ?_
  refine z_bipush (pc := 1) dX8_payIndex_1 bp_10 ?_
  refine z_imul (pc := 3) dX8_payIndex_3 ?_
  refine x_iload_n (pc := 4) dX8_payIndex_4 (List.Mem.tail _ (List.Mem.head _)) ?_
  refine z_iconst (pc := 5) dX8_payIndex_5 ?_
  refine z_imul (pc := 6) dX8_payIndex_6 ?_
  refine z_iadd (pc := 7) dX8_payIndex_7 ?_
  refine x_iload_n (pc := 8) dX8_payIndex_8 (List.Mem.tail _ (List.Mem.tail _ (List.Mem.head _))) ?_
  refine z_iadd (pc := 9) dX8_payIndex_9 ?_
  refine z_ireturn (pc := 10) dX8_payIndex_10 rfl (Or.inl rfl) ok (by omega) (by omega) ?_
  exact ⟨by omega, rfl⟩

theorem c_X11_payAt {d : Nat} {H : ZH} (ok : okZ H) {w dn n : Nat} (hw : w < 2) (hd : dn < 2) (hn : n < 5) : EvC zX (d + 1) mX11_payAt [.ref 0, .int (zN ((w : Int))), .int (zN ((dn : Int))), .int (zN ((n : Int)))] (eh H) (zPi (fun (rz : Int) (Hz : ZH) => rz = (((558 + (w * 10 + dn * 5 + n) : Nat) : Int)) ∧ Hz = H)) := by
  show _ ∧ Ev zX mX11_payAt (EvC zX d) (zPi (fun (rz : Int) (Hz : ZH) => rz = (((558 + (w * 10 + dn * 5 + n) : Nat) : Int)) ∧ Hz = H)) 0 [(0, .ref 0), (1, .int (zN ((w : Int)))), (2, .int (zN ((dn : Int)))), (3, .int (zN ((n : Int))))] [] (eh H)
  refine ⟨Nat.le_of_ble_eq_true rfl, ?_⟩
  refine z_sipush (pc := 0) dX11_payAt_0 sp_558 ?_
  refine z_bipush (pc := 3) dX11_payAt_3 bp_10 ?_
  refine x_iload_n (pc := 5) dX11_payAt_5 (List.Mem.tail _ (List.Mem.head _)) ?_
  refine z_imul (pc := 6) dX11_payAt_6 ?_
  refine z_iadd (pc := 7) dX11_payAt_7 ?_
  refine z_iconst (pc := 8) dX11_payAt_8 ?_
  refine x_iload_n (pc := 9) dX11_payAt_9 (List.Mem.tail _ (List.Mem.tail _ (List.Mem.head _))) ?_
  refine z_imul (pc := 10) dX11_payAt_10 ?_
  refine z_iadd (pc := 11) dX11_payAt_11 ?_
  refine x_iload_n (pc := 12) dX11_payAt_12 (List.Mem.tail _ (List.Mem.tail _ (List.Mem.tail _ (List.Mem.head _)))) ?_
  refine z_iadd (pc := 13) dX11_payAt_13 ?_
  refine z_ireturn (pc := 14) dX11_payAt_14 rfl (Or.inl rfl) ok (by omega) (by omega) ?_
  exact ⟨by omega, rfl⟩

theorem c_X8_areContent {d : Nat} {H : ZH} (ok : okZ H) {w og : Nat} (hw : w < 2) (hg : og < 5) {g al : Int} (g1 : -2147483648 ≤ g) (g2 : g ≤ 2147483647) (al1 : -2147483648 ≤ al) (al2 : al ≤ 2147483647) (wy : WFY (H.1 2)) (ry : RepY H) : EvC zX (d + 2) mX8_areContent [.ref 98, .int (zN ((w : Int))), .int (zN (g)), .int (zN (al)), .int (zN ((og : Int)))] (eh H) (zPi (fun (rz : Int) (Hz : ZH) => rz = (if rst (H.1 2) w g al og = true then 1 else 0) ∧ Hz = H)) := by
  show _ ∧ Ev zX mX8_areContent (EvC zX (d + 1)) (zPi (fun (rz : Int) (Hz : ZH) => rz = (if rst (H.1 2) w g al og = true then 1 else 0) ∧ Hz = H)) 0 [(0, .ref 98), (1, .int (zN ((w : Int)))), (2, .int (zN (g))), (3, .int (zN (al))), (4, .int (zN ((og : Int))))] [] (eh H)
  refine ⟨Nat.le_of_ble_eq_true rfl, ?_⟩
  have b1 := pA_bd wy (w := w) (d := 1) (n := og) hw (by decide) hg
  have b0 := pA_bd wy (w := w) (d := 0) (n := og) hw (by decide) hg
  have r0 : H.1 99 (w * 10 + 0 * 5 + og) = pA (H.1 2) w 0 og := ry _ (by omega)
  have r1 : H.1 99 (w * 10 + 1 * 5 + og) = pA (H.1 2) w 1 og := ry _ (by omega)
  refine x_aload_n (pc := 0) dX8_areContent_0 (List.Mem.head _) ?_
  refine z_getR (pc := 1) (k := 3) (r := 99) dX8_areContent_1 lf_X8_30 sh_98 rfl rf_98_3 ?_
  refine x_iload_n (pc := 4) dX8_areContent_4 (List.Mem.tail _ (List.Mem.head _)) ?_
  refine z_iconst (pc := 5) dX8_areContent_5 ?_
  refine x_iload (pc := 6) dX8_areContent_6 (List.Mem.tail _ (List.Mem.tail _ (List.Mem.tail _ (List.Mem.tail _ (List.Mem.head _))))) ?_
  refine z_callSip (pc := 8) (i := mX8_payIndex) (S := [.ref 99]) [.int (zN ((w : Int))), .int (zN (1)), .int (zN ((og : Int)))] dX8_areContent_8 ml_X8_50 ok_X8_payIndex rfl (Or.inl rfl) (Nat.le_of_ble_eq_true rfl) (c_X8_payIndex (d := d) (w := w) (dn := 1) (n := og) (hw := (by omega)) (hd := (by omega)) (hn := (by omega)) (ok := ok)) (fun r1a r1b ok2 => ?_)
  refine z_iald (pc := 11) (j := (w * 10 + 1 * 5 + og)) (v := pA (H.1 2) w 1 og) dX8_areContent_11 sh_99 (by omega) (by omega) (by decide) r1 ?_
  refine x_istore (pc := 12) dX8_areContent_12 (Nat.le_of_ble_eq_true rfl) ?_
  show Ev _ _ _ _ _ [(5, .int (zN ((pA (H.1 2) w 1 og)))), (0, .ref 98), (1, .int (zN ((w : Int)))), (2, .int (zN (g))), (3, .int (zN (al))), (4, .int (zN ((og : Int))))] _ _
  refine x_aload_n (pc := 14) dX8_areContent_14 (List.Mem.tail _ (List.Mem.head _)) ?_
  refine z_getR (pc := 15) (k := 3) (r := 99) dX8_areContent_15 lf_X8_30 sh_98 rfl rf_98_3 ?_
  refine x_iload_n (pc := 18) dX8_areContent_18 (List.Mem.tail _ (List.Mem.tail _ (List.Mem.head _))) ?_
  refine z_iconst (pc := 19) dX8_areContent_19 ?_
  refine x_iload (pc := 20) dX8_areContent_20 (List.Mem.tail _ (List.Mem.tail _ (List.Mem.tail _ (List.Mem.tail _ (List.Mem.tail _ (List.Mem.head _)))))) ?_
  refine z_callSip (pc := 22) (i := mX8_payIndex) (S := [.ref 99]) [.int (zN ((w : Int))), .int (zN (0)), .int (zN ((og : Int)))] dX8_areContent_22 ml_X8_50 ok_X8_payIndex rfl (Or.inl rfl) (Nat.le_of_ble_eq_true rfl) (c_X8_payIndex (d := d) (w := w) (dn := 0) (n := og) (hw := (by omega)) (hd := (by omega)) (hn := (by omega)) (ok := ok2)) (fun r3a r3b ok4 => ?_)
  refine z_iald (pc := 25) (j := (w * 10 + 0 * 5 + og)) (v := pA (H.1 2) w 0 og) dX8_areContent_25 sh_99 (by omega) (by omega) (by decide) r0 ?_
  refine x_istore (pc := 26) dX8_areContent_26 (Nat.le_of_ble_eq_true rfl) ?_
  show Ev _ _ _ _ _ [(6, .int (zN ((pA (H.1 2) w 0 og)))), (5, .int (zN ((pA (H.1 2) w 1 og)))), (0, .ref 98), (1, .int (zN ((w : Int)))), (2, .int (zN (g))), (3, .int (zN (al))), (4, .int (zN ((og : Int))))] _ _
  refine x_iload_n (pc := 28) dX8_areContent_28 (List.Mem.tail _ (List.Mem.tail _ (List.Mem.tail _ (List.Mem.tail _ (List.Mem.head _))))) ?_
  refine z_if_eq (pc := 29) (tgt := 39) dX8_areContent_29 (by decide) (by omega) (by omega) (fun hb5 => ?_) (fun hb5 => ?_)
  · skip
    refine x_iload_n (pc := 39) dX8_areContent_39 (List.Mem.tail _ (List.Mem.tail _ (List.Mem.tail _ (List.Mem.tail _ (List.Mem.head _))))) ?_
    refine x_iload_n (pc := 40) dX8_areContent_40 (List.Mem.tail _ (List.Mem.tail _ (List.Mem.tail _ (List.Mem.tail _ (List.Mem.tail _ (List.Mem.head _)))))) ?_
    refine z_icmp_eq (pc := 41) (tgt := 51) dX8_areContent_41 (by decide) (by omega) (by omega) (by omega) (by omega) (fun hb6 => ?_) (fun hb6 => ?_)
    · skip
      refine z_iconst (pc := 51) dX8_areContent_51 ?_
      refine x_goto (pc := 52) (tgt := 56) dX8_areContent_52 (by decide) ?_
      refine z_ireturn (pc := 56) dX8_areContent_56 rfl (Or.inr ⟨rfl, by omega⟩) ok4 (by decide) (by decide) ?_
      refine ⟨?_, rfl⟩
      unfold rst
      simp only [decide_eq_true_eq]
      first | exact (if_pos (by omega)).symm | exact (if_neg (by omega)).symm
    · skip
      refine x_iload (pc := 44) dX8_areContent_44 (List.Mem.head _) ?_
      refine x_iload (pc := 46) dX8_areContent_46 (List.Mem.tail _ (List.Mem.head _)) ?_
      refine z_icmp_lt (pc := 48) (tgt := 55) dX8_areContent_48 (by decide) (by omega) (by omega) (by omega) (by omega) (fun hb7 => ?_) (fun hb7 => ?_)
      · skip
        refine z_iconst (pc := 55) dX8_areContent_55 ?_
        refine z_ireturn (pc := 56) dX8_areContent_56 rfl (Or.inr ⟨rfl, by omega⟩) ok4 (by decide) (by decide) ?_
        refine ⟨?_, rfl⟩
        unfold rst
        simp only [decide_eq_true_eq]
        first | exact (if_pos (by omega)).symm | exact (if_neg (by omega)).symm
      · skip
        refine z_iconst (pc := 51) dX8_areContent_51 ?_
        refine x_goto (pc := 52) (tgt := 56) dX8_areContent_52 (by decide) ?_
        refine z_ireturn (pc := 56) dX8_areContent_56 rfl (Or.inr ⟨rfl, by omega⟩) ok4 (by decide) (by decide) ?_
        refine ⟨?_, rfl⟩
        unfold rst
        simp only [decide_eq_true_eq]
        first | exact (if_pos (by omega)).symm | exact (if_neg (by omega)).symm
  · skip
    refine x_iload (pc := 32) dX8_areContent_32 (List.Mem.tail _ (List.Mem.head _)) ?_
    refine x_iload (pc := 34) dX8_areContent_34 (List.Mem.head _) ?_
    refine z_icmp_lt (pc := 36) (tgt := 55) dX8_areContent_36 (by decide) (by omega) (by omega) (by omega) (by omega) (fun hb8 => ?_) (fun hb8 => ?_)
    · skip
      refine z_iconst (pc := 55) dX8_areContent_55 ?_
      refine z_ireturn (pc := 56) dX8_areContent_56 rfl (Or.inr ⟨rfl, by omega⟩) ok4 (by decide) (by decide) ?_
      refine ⟨?_, rfl⟩
      unfold rst
      simp only [decide_eq_true_eq]
      first | exact (if_pos (by omega)).symm | exact (if_neg (by omega)).symm
    · skip
      refine x_iload_n (pc := 39) dX8_areContent_39 (List.Mem.tail _ (List.Mem.tail _ (List.Mem.tail _ (List.Mem.tail _ (List.Mem.head _))))) ?_
      refine x_iload_n (pc := 40) dX8_areContent_40 (List.Mem.tail _ (List.Mem.tail _ (List.Mem.tail _ (List.Mem.tail _ (List.Mem.tail _ (List.Mem.head _)))))) ?_
      refine z_icmp_eq (pc := 41) (tgt := 51) dX8_areContent_41 (by decide) (by omega) (by omega) (by omega) (by omega) (fun hb9 => ?_) (fun hb9 => ?_)
      · skip
        refine z_iconst (pc := 51) dX8_areContent_51 ?_
        refine x_goto (pc := 52) (tgt := 56) dX8_areContent_52 (by decide) ?_
        refine z_ireturn (pc := 56) dX8_areContent_56 rfl (Or.inr ⟨rfl, by omega⟩) ok4 (by decide) (by decide) ?_
        refine ⟨?_, rfl⟩
        unfold rst
        simp only [decide_eq_true_eq]
        first | exact (if_pos (by omega)).symm | exact (if_neg (by omega)).symm
      · skip
        refine x_iload (pc := 44) dX8_areContent_44 (List.Mem.head _) ?_
        refine x_iload (pc := 46) dX8_areContent_46 (List.Mem.tail _ (List.Mem.head _)) ?_
        refine z_icmp_lt (pc := 48) (tgt := 55) dX8_areContent_48 (by decide) (by omega) (by omega) (by omega) (by omega) (fun hb10 => ?_) (fun hb10 => ?_)
        · skip
          refine z_iconst (pc := 55) dX8_areContent_55 ?_
          refine z_ireturn (pc := 56) dX8_areContent_56 rfl (Or.inr ⟨rfl, by omega⟩) ok4 (by decide) (by decide) ?_
          refine ⟨?_, rfl⟩
          unfold rst
          simp only [decide_eq_true_eq]
          first | exact (if_pos (by omega)).symm | exact (if_neg (by omega)).symm
        · skip
          refine z_iconst (pc := 51) dX8_areContent_51 ?_
          refine x_goto (pc := 52) (tgt := 56) dX8_areContent_52 (by decide) ?_
          refine z_ireturn (pc := 56) dX8_areContent_56 rfl (Or.inr ⟨rfl, by omega⟩) ok4 (by decide) (by decide) ?_
          refine ⟨?_, rfl⟩
          unfold rst
          simp only [decide_eq_true_eq]
          first | exact (if_pos (by omega)).symm | exact (if_neg (by omega)).symm

theorem c_X11_isRest {d : Nat} {H : ZH} (ok : okZ H) {w og : Nat} (hw : w < 2) (hg : og < 5) {g al : Int} (g1 : -2147483648 ≤ g) (g2 : g ≤ 2147483647) (al1 : -2147483648 ≤ al) (al2 : al ≤ 2147483647) (wy : WFY (H.1 2)) : EvC zX (d + 2) mX11_isRest [.ref 0, .int (zN ((w : Int))), .int (zN (g)), .int (zN (al)), .int (zN ((og : Int)))] (eh H) (zPi (fun (rz : Int) (Hz : ZH) => rz = (if rst (H.1 2) w g al og = true then 1 else 0) ∧ Hz = H)) := by
  show _ ∧ Ev zX mX11_isRest (EvC zX (d + 1)) (zPi (fun (rz : Int) (Hz : ZH) => rz = (if rst (H.1 2) w g al og = true then 1 else 0) ∧ Hz = H)) 0 [(0, .ref 0), (1, .int (zN ((w : Int)))), (2, .int (zN (g))), (3, .int (zN (al))), (4, .int (zN ((og : Int))))] [] (eh H)
  refine ⟨Nat.le_of_ble_eq_true rfl, ?_⟩
  have b1 := pA_bd wy (w := w) (d := 1) (n := og) hw (by decide) hg
  have b0 := pA_bd wy (w := w) (d := 0) (n := og) hw (by decide) hg
  refine x_aload_n (pc := 0) dX11_isRest_0 (List.Mem.head _) ?_
  refine z_getR (pc := 1) (k := 2) (r := 2) dX11_isRest_1 lf_X11_17 sh_0 rfl rf_0_2 ?_
  refine x_aload_n (pc := 4) dX11_isRest_4 (List.Mem.head _) ?_
  refine x_iload_n (pc := 5) dX11_isRest_5 (List.Mem.tail _ (List.Mem.head _)) ?_
  refine z_iconst (pc := 6) dX11_isRest_6 ?_
  refine x_iload (pc := 7) dX11_isRest_7 (List.Mem.tail _ (List.Mem.tail _ (List.Mem.tail _ (List.Mem.tail _ (List.Mem.head _))))) ?_
  refine z_callVip (pc := 9) (i := mX11_payAt) (S := [.ref 2]) [.int (zN ((w : Int))), .int (zN (1)), .int (zN ((og : Int)))] dX11_isRest_9 ml_X11_369 ok_X11_payAt rfl sh_0 rfl (Or.inl rfl) (Nat.le_of_ble_eq_true rfl) (c_X11_payAt (d := d) (w := w) (dn := 1) (n := og) (hw := (by omega)) (hd := (by omega)) (hn := (by omega)) (ok := ok)) (fun r1a r1b ok2 => ?_)
  refine z_iald (pc := 12) (j := (558 + (w * 10 + 1 * 5 + og))) (v := pA (H.1 2) w 1 og) dX11_isRest_12 sh_2 (by omega) (by omega) (by decide) rfl ?_
  refine x_istore (pc := 13) dX11_isRest_13 (Nat.le_of_ble_eq_true rfl) ?_
  show Ev _ _ _ _ _ [(5, .int (zN ((pA (H.1 2) w 1 og)))), (0, .ref 0), (1, .int (zN ((w : Int)))), (2, .int (zN (g))), (3, .int (zN (al))), (4, .int (zN ((og : Int))))] _ _
  refine x_aload_n (pc := 15) dX11_isRest_15 (List.Mem.tail _ (List.Mem.head _)) ?_
  refine z_getR (pc := 16) (k := 2) (r := 2) dX11_isRest_16 lf_X11_17 sh_0 rfl rf_0_2 ?_
  refine x_aload_n (pc := 19) dX11_isRest_19 (List.Mem.tail _ (List.Mem.head _)) ?_
  refine x_iload_n (pc := 20) dX11_isRest_20 (List.Mem.tail _ (List.Mem.tail _ (List.Mem.head _))) ?_
  refine z_iconst (pc := 21) dX11_isRest_21 ?_
  refine x_iload (pc := 22) dX11_isRest_22 (List.Mem.tail _ (List.Mem.tail _ (List.Mem.tail _ (List.Mem.tail _ (List.Mem.tail _ (List.Mem.head _)))))) ?_
  refine z_callVip (pc := 24) (i := mX11_payAt) (S := [.ref 2]) [.int (zN ((w : Int))), .int (zN (0)), .int (zN ((og : Int)))] dX11_isRest_24 ml_X11_369 ok_X11_payAt rfl sh_0 rfl (Or.inl rfl) (Nat.le_of_ble_eq_true rfl) (c_X11_payAt (d := d) (w := w) (dn := 0) (n := og) (hw := (by omega)) (hd := (by omega)) (hn := (by omega)) (ok := ok2)) (fun r3a r3b ok4 => ?_)
  refine z_iald (pc := 27) (j := (558 + (w * 10 + 0 * 5 + og))) (v := pA (H.1 2) w 0 og) dX11_isRest_27 sh_2 (by omega) (by omega) (by decide) rfl ?_
  refine x_istore (pc := 28) dX11_isRest_28 (Nat.le_of_ble_eq_true rfl) ?_
  show Ev _ _ _ _ _ [(6, .int (zN ((pA (H.1 2) w 0 og)))), (5, .int (zN ((pA (H.1 2) w 1 og)))), (0, .ref 0), (1, .int (zN ((w : Int)))), (2, .int (zN (g))), (3, .int (zN (al))), (4, .int (zN ((og : Int))))] _ _
  refine x_iload_n (pc := 30) dX11_isRest_30 (List.Mem.tail _ (List.Mem.tail _ (List.Mem.tail _ (List.Mem.tail _ (List.Mem.head _))))) ?_
  refine z_if_eq (pc := 31) (tgt := 41) dX11_isRest_31 (by decide) (by omega) (by omega) (fun hb5 => ?_) (fun hb5 => ?_)
  · skip
    refine x_iload_n (pc := 41) dX11_isRest_41 (List.Mem.tail _ (List.Mem.tail _ (List.Mem.tail _ (List.Mem.tail _ (List.Mem.head _))))) ?_
    refine x_iload_n (pc := 42) dX11_isRest_42 (List.Mem.tail _ (List.Mem.tail _ (List.Mem.tail _ (List.Mem.tail _ (List.Mem.tail _ (List.Mem.head _)))))) ?_
    refine z_icmp_eq (pc := 43) (tgt := 53) dX11_isRest_43 (by decide) (by omega) (by omega) (by omega) (by omega) (fun hb6 => ?_) (fun hb6 => ?_)
    · skip
      refine z_iconst (pc := 53) dX11_isRest_53 ?_
      refine x_goto (pc := 54) (tgt := 58) dX11_isRest_54 (by decide) ?_
      refine z_ireturn (pc := 58) dX11_isRest_58 rfl (Or.inr ⟨rfl, by omega⟩) ok4 (by decide) (by decide) ?_
      refine ⟨?_, rfl⟩
      unfold rst
      simp only [decide_eq_true_eq]
      first | exact (if_pos (by omega)).symm | exact (if_neg (by omega)).symm
    · skip
      refine x_iload (pc := 46) dX11_isRest_46 (List.Mem.head _) ?_
      refine x_iload (pc := 48) dX11_isRest_48 (List.Mem.tail _ (List.Mem.head _)) ?_
      refine z_icmp_lt (pc := 50) (tgt := 57) dX11_isRest_50 (by decide) (by omega) (by omega) (by omega) (by omega) (fun hb7 => ?_) (fun hb7 => ?_)
      · skip
        refine z_iconst (pc := 57) dX11_isRest_57 ?_
        refine z_ireturn (pc := 58) dX11_isRest_58 rfl (Or.inr ⟨rfl, by omega⟩) ok4 (by decide) (by decide) ?_
        refine ⟨?_, rfl⟩
        unfold rst
        simp only [decide_eq_true_eq]
        first | exact (if_pos (by omega)).symm | exact (if_neg (by omega)).symm
      · skip
        refine z_iconst (pc := 53) dX11_isRest_53 ?_
        refine x_goto (pc := 54) (tgt := 58) dX11_isRest_54 (by decide) ?_
        refine z_ireturn (pc := 58) dX11_isRest_58 rfl (Or.inr ⟨rfl, by omega⟩) ok4 (by decide) (by decide) ?_
        refine ⟨?_, rfl⟩
        unfold rst
        simp only [decide_eq_true_eq]
        first | exact (if_pos (by omega)).symm | exact (if_neg (by omega)).symm
  · skip
    refine x_iload (pc := 34) dX11_isRest_34 (List.Mem.tail _ (List.Mem.head _)) ?_
    refine x_iload (pc := 36) dX11_isRest_36 (List.Mem.head _) ?_
    refine z_icmp_lt (pc := 38) (tgt := 57) dX11_isRest_38 (by decide) (by omega) (by omega) (by omega) (by omega) (fun hb8 => ?_) (fun hb8 => ?_)
    · skip
      refine z_iconst (pc := 57) dX11_isRest_57 ?_
      refine z_ireturn (pc := 58) dX11_isRest_58 rfl (Or.inr ⟨rfl, by omega⟩) ok4 (by decide) (by decide) ?_
      refine ⟨?_, rfl⟩
      unfold rst
      simp only [decide_eq_true_eq]
      first | exact (if_pos (by omega)).symm | exact (if_neg (by omega)).symm
    · skip
      refine x_iload_n (pc := 41) dX11_isRest_41 (List.Mem.tail _ (List.Mem.tail _ (List.Mem.tail _ (List.Mem.tail _ (List.Mem.head _))))) ?_
      refine x_iload_n (pc := 42) dX11_isRest_42 (List.Mem.tail _ (List.Mem.tail _ (List.Mem.tail _ (List.Mem.tail _ (List.Mem.tail _ (List.Mem.head _)))))) ?_
      refine z_icmp_eq (pc := 43) (tgt := 53) dX11_isRest_43 (by decide) (by omega) (by omega) (by omega) (by omega) (fun hb9 => ?_) (fun hb9 => ?_)
      · skip
        refine z_iconst (pc := 53) dX11_isRest_53 ?_
        refine x_goto (pc := 54) (tgt := 58) dX11_isRest_54 (by decide) ?_
        refine z_ireturn (pc := 58) dX11_isRest_58 rfl (Or.inr ⟨rfl, by omega⟩) ok4 (by decide) (by decide) ?_
        refine ⟨?_, rfl⟩
        unfold rst
        simp only [decide_eq_true_eq]
        first | exact (if_pos (by omega)).symm | exact (if_neg (by omega)).symm
      · skip
        refine x_iload (pc := 46) dX11_isRest_46 (List.Mem.head _) ?_
        refine x_iload (pc := 48) dX11_isRest_48 (List.Mem.tail _ (List.Mem.head _)) ?_
        refine z_icmp_lt (pc := 50) (tgt := 57) dX11_isRest_50 (by decide) (by omega) (by omega) (by omega) (by omega) (fun hb10 => ?_) (fun hb10 => ?_)
        · skip
          refine z_iconst (pc := 57) dX11_isRest_57 ?_
          refine z_ireturn (pc := 58) dX11_isRest_58 rfl (Or.inr ⟨rfl, by omega⟩) ok4 (by decide) (by decide) ?_
          refine ⟨?_, rfl⟩
          unfold rst
          simp only [decide_eq_true_eq]
          first | exact (if_pos (by omega)).symm | exact (if_neg (by omega)).symm
        · skip
          refine z_iconst (pc := 53) dX11_isRest_53 ?_
          refine x_goto (pc := 54) (tgt := 58) dX11_isRest_54 (by decide) ?_
          refine z_ireturn (pc := 58) dX11_isRest_58 rfl (Or.inr ⟨rfl, by omega⟩) ok4 (by decide) (by decide) ?_
          refine ⟨?_, rfl⟩
          unfold rst
          simp only [decide_eq_true_eq]
          first | exact (if_pos (by omega)).symm | exact (if_neg (by omega)).symm

theorem c_X10_pay {d : Nat} {H : ZH} (ok : okZ H) {who doing n v : Int} (who1 : -2147483648 ≤ who) (who2 : who ≤ 2147483647) (doing1 : -2147483648 ≤ doing) (doing2 : doing ≤ 2147483647) (n1 : -2147483648 ≤ n) (n2 : n ≤ 2147483647) (v1 : -2147483648 ≤ v) (v2 : v ≤ 2147483647) (cn : cntOK H 25) (wy : WFY (H.1 2)) (ry : RepY H) : EvC zX (d + 2) mX10_pay [.ref 20, .int (zN (who)), .int (zN (doing)), .int (zN (n)), .int (zN (v))] (eh H) (zPi (fun (r : Int) (H1 : ZH) => r = (S_pay (H.1 2) who doing n v).1 ∧ H1 = if (S_pay (H.1 2) who doing n v).2 = 6 then wI H 99 (who.toNat * 10 + doing.toNat * 5 + n.toNat) v else bumpC (S_pay (H.1 2) who doing n v).2 H)) := by
  show _ ∧ Ev zX mX10_pay (EvC zX (d + 1)) (zPi (fun (r : Int) (H1 : ZH) => r = (S_pay (H.1 2) who doing n v).1 ∧ H1 = if (S_pay (H.1 2) who doing n v).2 = 6 then wI H 99 (who.toNat * 10 + doing.toNat * 5 + n.toNat) v else bumpC (S_pay (H.1 2) who doing n v).2 H)) 0 [(0, .ref 20), (1, .int (zN (who))), (2, .int (zN (doing))), (3, .int (zN (n))), (4, .int (zN (v)))] [] (eh H)
  refine ⟨Nat.le_of_ble_eq_true rfl, ?_⟩
  refine x_iload_n (pc := 0) dX10_pay_0 (List.Mem.tail _ (List.Mem.head _)) ?_
  refine z_iconst (pc := 1) dX10_pay_1 ?_
  refine z_callSbp (pc := 2) (i := mX10_isWithin) (S := []) [.int (zN (who)), .int (zN (1))] dX10_pay_2 ml_X10_302 ok_X10_isWithin rfl (Or.inr rfl) (Nat.le_of_ble_eq_true rfl) (c_X10_isWithin (d := d) (v := who) (hi := 1) (v1 := (by omega)) (v2 := (by omega)) (hi1 := (by omega)) (hi2 := (by omega)) (ok := ok)) (fun hc3 ok2 => ?_) (fun hc3 ok2 => ?_)
  · skip
    refine z_if_eq (pc := 5) (tgt := 38) dX10_pay_5 (by decide) (by decide) (by decide) (fun h => absurd h (by decide)) (fun _ => ?_)
    refine x_iload_n (pc := 8) dX10_pay_8 (List.Mem.tail _ (List.Mem.tail _ (List.Mem.head _))) ?_
    refine z_iconst (pc := 9) dX10_pay_9 ?_
    refine z_callSbp (pc := 10) (i := mX10_isWithin) (S := []) [.int (zN (doing)), .int (zN (1))] dX10_pay_10 ml_X10_302 ok_X10_isWithin rfl (Or.inr rfl) (Nat.le_of_ble_eq_true rfl) (c_X10_isWithin (d := d) (v := doing) (hi := 1) (v1 := (by omega)) (v2 := (by omega)) (hi1 := (by omega)) (hi2 := (by omega)) (ok := ok2)) (fun hc7 ok6 => ?_) (fun hc7 ok6 => ?_)
    · skip
      refine z_if_eq (pc := 13) (tgt := 38) dX10_pay_13 (by decide) (by decide) (by decide) (fun h => absurd h (by decide)) (fun _ => ?_)
      refine x_iload_n (pc := 16) dX10_pay_16 (List.Mem.tail _ (List.Mem.tail _ (List.Mem.tail _ (List.Mem.head _)))) ?_
      refine z_iconst (pc := 17) dX10_pay_17 ?_
      refine z_callSbp (pc := 18) (i := mX10_isWithin) (S := []) [.int (zN (n)), .int (zN (4))] dX10_pay_18 ml_X10_302 ok_X10_isWithin rfl (Or.inr rfl) (Nat.le_of_ble_eq_true rfl) (c_X10_isWithin (d := d) (v := n) (hi := 4) (v1 := (by omega)) (v2 := (by omega)) (hi1 := (by omega)) (hi2 := (by omega)) (ok := ok6)) (fun hc11 ok10 => ?_) (fun hc11 ok10 => ?_)
      · skip
        refine z_if_eq (pc := 21) (tgt := 38) dX10_pay_21 (by decide) (by decide) (by decide) (fun h => absurd h (by decide)) (fun _ => ?_)
        refine x_iload (pc := 24) dX10_pay_24 (List.Mem.tail _ (List.Mem.tail _ (List.Mem.tail _ (List.Mem.tail _ (List.Mem.head _))))) ?_
        refine z_bipush (pc := 26) dX10_pay_26 bp_m99 ?_
        refine z_icmp_lt (pc := 28) (tgt := 38) dX10_pay_28 (by decide) (by omega) (by omega) (by decide) (by decide) (fun hb13 => ?_) (fun hb13 => ?_)
        · skip
          refine x_aload_n (pc := 38) dX10_pay_38 (List.Mem.head _) ?_
          refine z_sipush (pc := 39) dX10_pay_39 sp_m1000 ?_
          refine z_callVip (pc := 42) (i := mX10_refuseAs) (S := []) [.int (zN ((-1000)))] dX10_pay_42 ml_X10_199 ok_X10_refuseAs rfl sh_20 rfl (Or.inl rfl) (Nat.le_of_ble_eq_true rfl) (c_X10_refuseAs (d := d) (a := ((-1000))) (a1 := (by omega)) (a2 := (by omega)) (ok := ok10) (cn := (by first | assumption | omega))) (fun r14a r14b ok15 => ?_)
          show Ev _ _ _ _ _ _ _ (eh (wI H 25 0 (H.1 25 0 + 1)))
          refine z_ireturn (pc := 45) dX10_pay_45 rfl (Or.inl rfl) ok15 (by omega) (by omega) ?_
          have e : S_pay (H.1 2) who doing n v = (-1000, 0) := by unfold S_pay; rw [if_neg (by omega)]
          rw [e]
          exact ⟨rfl, rfl⟩
        · skip
          refine x_iload (pc := 31) dX10_pay_31 (List.Mem.tail _ (List.Mem.tail _ (List.Mem.tail _ (List.Mem.tail _ (List.Mem.head _))))) ?_
          refine z_bipush (pc := 33) dX10_pay_33 bp_99 ?_
          refine z_icmp_le (pc := 35) (tgt := 46) dX10_pay_35 (by decide) (by omega) (by omega) (by decide) (by decide) (fun hb16 => ?_) (fun hb16 => ?_)
          · skip
            have b1 := pA_bd wy (w := who.toNat) (d := doing.toNat) (n := n.toNat) (by omega) (by omega) (by omega)
            have r1 : H.1 99 (who.toNat * 10 + doing.toNat * 5 + n.toNat) = pA (H.1 2) who.toNat doing.toNat n.toNat := ry _ (by omega)
            refine x_iload_n (pc := 46) dX10_pay_46 (List.Mem.tail _ (List.Mem.head _)) ?_
            refine x_iload_n (pc := 47) dX10_pay_47 (List.Mem.tail _ (List.Mem.tail _ (List.Mem.head _))) ?_
            refine x_iload_n (pc := 48) dX10_pay_48 (List.Mem.tail _ (List.Mem.tail _ (List.Mem.tail _ (List.Mem.head _)))) ?_
            refine z_callSip (pc := 49) (i := mX8_payIndex) (S := []) [.int (zN (who)), .int (zN (doing)), .int (zN (n))] dX10_pay_49 ml_X10_410 ok_X8_payIndex rfl (Or.inl rfl) (Nat.le_of_ble_eq_true rfl) (by have qz := c_X8_payIndex (d := d) (w := who.toNat) (dn := doing.toNat) (n := n.toNat) (hw := (by omega)) (hd := (by omega)) (hn := (by omega)) (ok := ok10); rw [show ((who.toNat : Nat) : Int) = who by omega] at qz; rw [show ((doing.toNat : Nat) : Int) = doing by omega] at qz; rw [show ((n.toNat : Nat) : Int) = n by omega] at qz; exact qz) (fun r17a r17b ok18 => ?_)
            refine x_istore (pc := 52) dX10_pay_52 (Nat.le_of_ble_eq_true rfl) ?_
            show Ev _ _ _ _ _ [(5, .int (zN ((((who.toNat * 10 + doing.toNat * 5 + n.toNat : Nat) : Int))))), (0, .ref 20), (1, .int (zN (who))), (2, .int (zN (doing))), (3, .int (zN (n))), (4, .int (zN (v)))] _ _
            refine x_aload_n (pc := 54) dX10_pay_54 (List.Mem.tail _ (List.Mem.head _)) ?_
            refine z_getR (pc := 55) (k := 3) (r := 98) dX10_pay_55 lf_X10_23 sh_20 rfl rf_20_3 ?_
            refine z_getR (pc := 58) (k := 3) (r := 99) dX10_pay_58 lf_X10_413 sh_98 rfl rf_98_3 ?_
            refine x_iload (pc := 61) dX10_pay_61 (List.Mem.head _) ?_
            refine z_iald (pc := 63) (j := (who.toNat * 10 + doing.toNat * 5 + n.toNat)) (v := pA (H.1 2) who.toNat doing.toNat n.toNat) dX10_pay_63 sh_99 (by omega) (by omega) (by decide) r1 ?_
            refine x_istore (pc := 64) dX10_pay_64 (Nat.le_of_ble_eq_true rfl) ?_
            show Ev _ _ _ _ _ [(6, .int (zN ((pA (H.1 2) who.toNat doing.toNat n.toNat)))), (5, .int (zN ((((who.toNat * 10 + doing.toNat * 5 + n.toNat : Nat) : Int))))), (0, .ref 20), (1, .int (zN (who))), (2, .int (zN (doing))), (3, .int (zN (n))), (4, .int (zN (v)))] _ _
            refine x_aload_n (pc := 66) dX10_pay_66 (List.Mem.tail _ (List.Mem.tail _ (List.Mem.head _))) ?_
            refine z_getR (pc := 67) (k := 3) (r := 98) dX10_pay_67 lf_X10_23 sh_20 rfl rf_20_3 ?_
            refine z_getR (pc := 70) (k := 3) (r := 99) dX10_pay_70 lf_X10_413 sh_98 rfl rf_98_3 ?_
            refine x_iload (pc := 73) dX10_pay_73 (List.Mem.tail _ (List.Mem.head _)) ?_
            refine x_iload (pc := 75) dX10_pay_75 (List.Mem.tail _ (List.Mem.tail _ (List.Mem.tail _ (List.Mem.tail _ (List.Mem.tail _ (List.Mem.tail _ (List.Mem.head _))))))) ?_
            refine z_iast (pc := 77) (j := (who.toNat * 10 + doing.toNat * 5 + n.toNat)) (v := v) dX10_pay_77 sh_99 (by omega) (by omega) (by decide) ?_
            have ok19 := okI ok18 99 (who.toNat * 10 + doing.toNat * 5 + n.toNat) (v := v) (by omega) (by omega)
            refine x_iload (pc := 78) dX10_pay_78 (List.Mem.head _) ?_
            refine z_ireturn (pc := 80) dX10_pay_80 rfl (Or.inl rfl) ok19 (by omega) (by omega) ?_
            have e : S_pay (H.1 2) who doing n v = (pA (H.1 2) who.toNat doing.toNat n.toNat, 6) := by unfold S_pay; rw [if_pos (by omega)]
            rw [e]
            exact ⟨rfl, rfl⟩
          · skip
            refine x_aload_n (pc := 38) dX10_pay_38 (List.Mem.head _) ?_
            refine z_sipush (pc := 39) dX10_pay_39 sp_m1000 ?_
            refine z_callVip (pc := 42) (i := mX10_refuseAs) (S := []) [.int (zN ((-1000)))] dX10_pay_42 ml_X10_199 ok_X10_refuseAs rfl sh_20 rfl (Or.inl rfl) (Nat.le_of_ble_eq_true rfl) (c_X10_refuseAs (d := d) (a := ((-1000))) (a1 := (by omega)) (a2 := (by omega)) (ok := ok10) (cn := (by first | assumption | omega))) (fun r20a r20b ok21 => ?_)
            show Ev _ _ _ _ _ _ _ (eh (wI H 25 0 (H.1 25 0 + 1)))
            refine z_ireturn (pc := 45) dX10_pay_45 rfl (Or.inl rfl) ok21 (by omega) (by omega) ?_
            have e : S_pay (H.1 2) who doing n v = (-1000, 0) := by unfold S_pay; rw [if_neg (by omega)]
            rw [e]
            exact ⟨rfl, rfl⟩
      · skip
        refine z_if_eq (pc := 21) (tgt := 38) dX10_pay_21 (by decide) (by decide) (by decide) (fun _ => ?_) (fun h => absurd h (by decide))
        refine x_aload_n (pc := 38) dX10_pay_38 (List.Mem.head _) ?_
        refine z_sipush (pc := 39) dX10_pay_39 sp_m1000 ?_
        refine z_callVip (pc := 42) (i := mX10_refuseAs) (S := []) [.int (zN ((-1000)))] dX10_pay_42 ml_X10_199 ok_X10_refuseAs rfl sh_20 rfl (Or.inl rfl) (Nat.le_of_ble_eq_true rfl) (c_X10_refuseAs (d := d) (a := ((-1000))) (a1 := (by omega)) (a2 := (by omega)) (ok := ok10) (cn := (by first | assumption | omega))) (fun r23a r23b ok24 => ?_)
        show Ev _ _ _ _ _ _ _ (eh (wI H 25 0 (H.1 25 0 + 1)))
        refine z_ireturn (pc := 45) dX10_pay_45 rfl (Or.inl rfl) ok24 (by omega) (by omega) ?_
        have e : S_pay (H.1 2) who doing n v = (-1000, 0) := by unfold S_pay; rw [if_neg (by omega)]
        rw [e]
        exact ⟨rfl, rfl⟩
    · skip
      refine z_if_eq (pc := 13) (tgt := 38) dX10_pay_13 (by decide) (by decide) (by decide) (fun _ => ?_) (fun h => absurd h (by decide))
      refine x_aload_n (pc := 38) dX10_pay_38 (List.Mem.head _) ?_
      refine z_sipush (pc := 39) dX10_pay_39 sp_m1000 ?_
      refine z_callVip (pc := 42) (i := mX10_refuseAs) (S := []) [.int (zN ((-1000)))] dX10_pay_42 ml_X10_199 ok_X10_refuseAs rfl sh_20 rfl (Or.inl rfl) (Nat.le_of_ble_eq_true rfl) (c_X10_refuseAs (d := d) (a := ((-1000))) (a1 := (by omega)) (a2 := (by omega)) (ok := ok6) (cn := (by first | assumption | omega))) (fun r26a r26b ok27 => ?_)
      show Ev _ _ _ _ _ _ _ (eh (wI H 25 0 (H.1 25 0 + 1)))
      refine z_ireturn (pc := 45) dX10_pay_45 rfl (Or.inl rfl) ok27 (by omega) (by omega) ?_
      have e : S_pay (H.1 2) who doing n v = (-1000, 0) := by unfold S_pay; rw [if_neg (by omega)]
      rw [e]
      exact ⟨rfl, rfl⟩
  · skip
    refine z_if_eq (pc := 5) (tgt := 38) dX10_pay_5 (by decide) (by decide) (by decide) (fun _ => ?_) (fun h => absurd h (by decide))
    refine x_aload_n (pc := 38) dX10_pay_38 (List.Mem.head _) ?_
    refine z_sipush (pc := 39) dX10_pay_39 sp_m1000 ?_
    refine z_callVip (pc := 42) (i := mX10_refuseAs) (S := []) [.int (zN ((-1000)))] dX10_pay_42 ml_X10_199 ok_X10_refuseAs rfl sh_20 rfl (Or.inl rfl) (Nat.le_of_ble_eq_true rfl) (c_X10_refuseAs (d := d) (a := ((-1000))) (a1 := (by omega)) (a2 := (by omega)) (ok := ok2) (cn := (by first | assumption | omega))) (fun r29a r29b ok30 => ?_)
    show Ev _ _ _ _ _ _ _ (eh (wI H 25 0 (H.1 25 0 + 1)))
    refine z_ireturn (pc := 45) dX10_pay_45 rfl (Or.inl rfl) ok30 (by omega) (by omega) ?_
    have e : S_pay (H.1 2) who doing n v = (-1000, 0) := by unfold S_pay; rw [if_neg (by omega)]
    rw [e]
    exact ⟨rfl, rfl⟩

theorem c_X11_pay {d : Nat} {H : ZH} (ok : okZ H) {who doing n v : Int} (who1 : -2147483648 ≤ who) (who2 : who ≤ 2147483647) (doing1 : -2147483648 ≤ doing) (doing2 : doing ≤ 2147483647) (n1 : -2147483648 ≤ n) (n2 : n ≤ 2147483647) (v1 : -2147483648 ≤ v) (v2 : v ≤ 2147483647) (cm : cntOK H 1) (th : H.1 0 0 = 0) (wy : WFY (H.1 2)) : EvC zX (d + 2) mX11_pay [.ref 0, .int (zN (who)), .int (zN (doing)), .int (zN (n)), .int (zN (v))] (eh H) (zPi (fun (r : Int) (H1 : ZH) => r = (S_pay (H.1 2) who doing n v).1 ∧ H1 = if (S_pay (H.1 2) who doing n v).2 = 6 then wI H 2 (558 + (who.toNat * 10 + doing.toNat * 5 + n.toNat)) v else bumpM (S_pay (H.1 2) who doing n v).2 H)) := by
  show _ ∧ Ev zX mX11_pay (EvC zX (d + 1)) (zPi (fun (r : Int) (H1 : ZH) => r = (S_pay (H.1 2) who doing n v).1 ∧ H1 = if (S_pay (H.1 2) who doing n v).2 = 6 then wI H 2 (558 + (who.toNat * 10 + doing.toNat * 5 + n.toNat)) v else bumpM (S_pay (H.1 2) who doing n v).2 H)) 0 [(0, .ref 0), (1, .int (zN (who))), (2, .int (zN (doing))), (3, .int (zN (n))), (4, .int (zN (v)))] [] (eh H)
  refine ⟨Nat.le_of_ble_eq_true rfl, ?_⟩
  refine x_aload_n (pc := 0) dX11_pay_0 (List.Mem.head _) ?_
  refine z_iconst (pc := 1) dX11_pay_1 ?_
  refine z_putI (pc := 2) (k := 0) dX11_pay_2 lp_X11_1 sh_0 rfl ?_
  have ok1 := okI ok 0 0 (v := 0) (by decide) (by decide)
  rw [wI_same th]
  refine x_iload_n (pc := 5) dX11_pay_5 (List.Mem.tail _ (List.Mem.head _)) ?_
  refine z_i2l (pc := 6) dX11_pay_6 (by omega) (by omega) ?_
  refine z_lconst (pc := 7) 0 dX11_pay_7 rfl ?_
  refine z_lconst (pc := 8) 1 dX11_pay_8 rfl ?_
  refine z_callSbp (pc := 9) (i := mX11_within) (S := []) [.long (zL (who)), .long (zL (0)), .long (zL (1))] dX11_pay_9 ml_X11_152 ok_X11_within rfl (Or.inr rfl) (Nat.le_of_ble_eq_true rfl) (c_X11_within (d := d) (v := who) (lo := 0) (hi := 1) (v1 := (by omega)) (v2 := (by omega)) (lo1 := (by omega)) (lo2 := (by omega)) (hi1 := (by omega)) (hi2 := (by omega)) (ok := ok)) (fun hc4 ok3 => ?_) (fun hc4 ok3 => ?_)
  · skip
    refine z_if_eq (pc := 12) (tgt := 52) dX11_pay_12 (by decide) (by decide) (by decide) (fun h => absurd h (by decide)) (fun _ => ?_)
    refine x_iload_n (pc := 15) dX11_pay_15 (List.Mem.tail _ (List.Mem.tail _ (List.Mem.head _))) ?_
    refine z_i2l (pc := 16) dX11_pay_16 (by omega) (by omega) ?_
    refine z_lconst (pc := 17) 0 dX11_pay_17 rfl ?_
    refine z_lconst (pc := 18) 1 dX11_pay_18 rfl ?_
    refine z_callSbp (pc := 19) (i := mX11_within) (S := []) [.long (zL (doing)), .long (zL (0)), .long (zL (1))] dX11_pay_19 ml_X11_152 ok_X11_within rfl (Or.inr rfl) (Nat.le_of_ble_eq_true rfl) (c_X11_within (d := d) (v := doing) (lo := 0) (hi := 1) (v1 := (by omega)) (v2 := (by omega)) (lo1 := (by omega)) (lo2 := (by omega)) (hi1 := (by omega)) (hi2 := (by omega)) (ok := ok3)) (fun hc8 ok7 => ?_) (fun hc8 ok7 => ?_)
    · skip
      refine z_if_eq (pc := 22) (tgt := 52) dX11_pay_22 (by decide) (by decide) (by decide) (fun h => absurd h (by decide)) (fun _ => ?_)
      refine x_iload_n (pc := 25) dX11_pay_25 (List.Mem.tail _ (List.Mem.tail _ (List.Mem.tail _ (List.Mem.head _)))) ?_
      refine z_i2l (pc := 26) dX11_pay_26 (by omega) (by omega) ?_
      refine z_lconst (pc := 27) 0 dX11_pay_27 rfl ?_
      refine z_ldc2_w (pc := 28) 4 dX11_pay_28 cl_X11_361 (by decide) ?_
      refine z_callSbp (pc := 31) (i := mX11_within) (S := []) [.long (zL (n)), .long (zL (0)), .long (zL (4))] dX11_pay_31 ml_X11_152 ok_X11_within rfl (Or.inr rfl) (Nat.le_of_ble_eq_true rfl) (c_X11_within (d := d) (v := n) (lo := 0) (hi := 4) (v1 := (by omega)) (v2 := (by omega)) (lo1 := (by omega)) (lo2 := (by omega)) (hi1 := (by omega)) (hi2 := (by omega)) (ok := ok7)) (fun hc12 ok11 => ?_) (fun hc12 ok11 => ?_)
      · skip
        refine z_if_eq (pc := 34) (tgt := 52) dX11_pay_34 (by decide) (by decide) (by decide) (fun h => absurd h (by decide)) (fun _ => ?_)
        refine x_iload (pc := 37) dX11_pay_37 (List.Mem.tail _ (List.Mem.tail _ (List.Mem.tail _ (List.Mem.tail _ (List.Mem.head _))))) ?_
        refine z_i2l (pc := 39) dX11_pay_39 (by omega) (by omega) ?_
        refine z_ldc2_w (pc := 40) (-99) dX11_pay_40 cl_X11_367 (by decide) ?_
        refine z_ldc2_w (pc := 43) 99 dX11_pay_43 cl_X11_281 (by decide) ?_
        refine z_callSbp (pc := 46) (i := mX11_within) (S := []) [.long (zL (v)), .long (zL ((-99))), .long (zL (99))] dX11_pay_46 ml_X11_152 ok_X11_within rfl (Or.inr rfl) (Nat.le_of_ble_eq_true rfl) (c_X11_within (d := d) (v := v) (lo := ((-99))) (hi := 99) (v1 := (by omega)) (v2 := (by omega)) (lo1 := (by omega)) (lo2 := (by omega)) (hi1 := (by omega)) (hi2 := (by omega)) (ok := ok11)) (fun hc16 ok15 => ?_) (fun hc16 ok15 => ?_)
        · skip
          refine z_if_ne (pc := 49) (tgt := 60) dX11_pay_49 (by decide) (by decide) (by decide) (fun _ => ?_) (fun h => absurd h (by decide))
          have b1 := pA_bd wy (w := who.toNat) (d := doing.toNat) (n := n.toNat) (by omega) (by omega) (by omega)
          refine x_aload_n (pc := 60) dX11_pay_60 (List.Mem.head _) ?_
          refine z_getR (pc := 61) (k := 2) (r := 2) dX11_pay_61 lf_X11_17 sh_0 rfl rf_0_2 ?_
          refine x_aload_n (pc := 64) dX11_pay_64 (List.Mem.head _) ?_
          refine x_iload_n (pc := 65) dX11_pay_65 (List.Mem.tail _ (List.Mem.head _)) ?_
          refine x_iload_n (pc := 66) dX11_pay_66 (List.Mem.tail _ (List.Mem.tail _ (List.Mem.head _))) ?_
          refine x_iload_n (pc := 67) dX11_pay_67 (List.Mem.tail _ (List.Mem.tail _ (List.Mem.tail _ (List.Mem.head _)))) ?_
          refine z_callVip (pc := 68) (i := mX11_payAt) (S := [.ref 2]) [.int (zN (who)), .int (zN (doing)), .int (zN (n))] dX11_pay_68 ml_X11_369 ok_X11_payAt rfl sh_0 rfl (Or.inl rfl) (Nat.le_of_ble_eq_true rfl) (by have qz := c_X11_payAt (d := d) (w := who.toNat) (dn := doing.toNat) (n := n.toNat) (hw := (by omega)) (hd := (by omega)) (hn := (by omega)) (ok := ok15); rw [show ((who.toNat : Nat) : Int) = who by omega] at qz; rw [show ((doing.toNat : Nat) : Int) = doing by omega] at qz; rw [show ((n.toNat : Nat) : Int) = n by omega] at qz; exact qz) (fun r18a r18b ok19 => ?_)
          refine z_iald (pc := 71) (j := (558 + (who.toNat * 10 + doing.toNat * 5 + n.toNat))) (v := pA (H.1 2) who.toNat doing.toNat n.toNat) dX11_pay_71 sh_2 (by omega) (by omega) (by decide) rfl ?_
          refine x_istore (pc := 72) dX11_pay_72 (Nat.le_of_ble_eq_true rfl) ?_
          show Ev _ _ _ _ _ [(5, .int (zN ((pA (H.1 2) who.toNat doing.toNat n.toNat)))), (0, .ref 0), (1, .int (zN (who))), (2, .int (zN (doing))), (3, .int (zN (n))), (4, .int (zN (v)))] _ _
          refine x_aload_n (pc := 74) dX11_pay_74 (List.Mem.tail _ (List.Mem.head _)) ?_
          refine z_getR (pc := 75) (k := 2) (r := 2) dX11_pay_75 lf_X11_17 sh_0 rfl rf_0_2 ?_
          refine x_aload_n (pc := 78) dX11_pay_78 (List.Mem.tail _ (List.Mem.head _)) ?_
          refine x_iload_n (pc := 79) dX11_pay_79 (List.Mem.tail _ (List.Mem.tail _ (List.Mem.head _))) ?_
          refine x_iload_n (pc := 80) dX11_pay_80 (List.Mem.tail _ (List.Mem.tail _ (List.Mem.tail _ (List.Mem.head _)))) ?_
          refine x_iload_n (pc := 81) dX11_pay_81 (List.Mem.tail _ (List.Mem.tail _ (List.Mem.tail _ (List.Mem.tail _ (List.Mem.head _))))) ?_
          refine z_callVip (pc := 82) (i := mX11_payAt) (S := [.ref 2]) [.int (zN (who)), .int (zN (doing)), .int (zN (n))] dX11_pay_82 ml_X11_369 ok_X11_payAt rfl sh_0 rfl (Or.inl rfl) (Nat.le_of_ble_eq_true rfl) (by have qz := c_X11_payAt (d := d) (w := who.toNat) (dn := doing.toNat) (n := n.toNat) (hw := (by omega)) (hd := (by omega)) (hn := (by omega)) (ok := ok19); rw [show ((who.toNat : Nat) : Int) = who by omega] at qz; rw [show ((doing.toNat : Nat) : Int) = doing by omega] at qz; rw [show ((n.toNat : Nat) : Int) = n by omega] at qz; exact qz) (fun r20a r20b ok21 => ?_)
          refine x_iload (pc := 85) dX11_pay_85 (List.Mem.tail _ (List.Mem.tail _ (List.Mem.tail _ (List.Mem.tail _ (List.Mem.tail _ (List.Mem.head _)))))) ?_
          refine z_iast (pc := 87) (j := (558 + (who.toNat * 10 + doing.toNat * 5 + n.toNat))) (v := v) dX11_pay_87 sh_2 (by omega) (by omega) (by decide) ?_
          have ok22 := okI ok21 2 (558 + (who.toNat * 10 + doing.toNat * 5 + n.toNat)) (v := v) (by omega) (by omega)
          refine x_iload (pc := 88) dX11_pay_88 (List.Mem.head _) ?_
          refine z_ireturn (pc := 90) dX11_pay_90 rfl (Or.inl rfl) ok22 (by omega) (by omega) ?_
          have e : S_pay (H.1 2) who doing n v = (pA (H.1 2) who.toNat doing.toNat n.toNat, 6) := by unfold S_pay; rw [if_pos (by omega)]
          rw [e]
          exact ⟨rfl, rfl⟩
        · skip
          refine z_if_ne (pc := 49) (tgt := 60) dX11_pay_49 (by decide) (by decide) (by decide) (fun h => absurd h (by decide)) (fun _ => ?_)
          refine x_aload_n (pc := 52) dX11_pay_52 (List.Mem.head _) ?_
          refine z_sipush (pc := 53) dX11_pay_53 sp_m1000 ?_
          refine z_callVip (pc := 56) (i := mX11_none) (S := []) [.int (zN ((-1000)))] dX11_pay_56 ml_X11_283 ok_X11_none rfl sh_0 rfl (Or.inl rfl) (Nat.le_of_ble_eq_true rfl) (c_X11_none (d := d) (a := ((-1000))) (a1 := (by omega)) (a2 := (by omega)) (ok := ok15) (cn := (by first | assumption | omega))) (fun r24a r24b ok25 => ?_)
          show Ev _ _ _ _ _ _ _ (eh (wI H 1 0 (H.1 1 0 + 1)))
          refine z_ireturn (pc := 59) dX11_pay_59 rfl (Or.inl rfl) ok25 (by omega) (by omega) ?_
          have e : S_pay (H.1 2) who doing n v = (-1000, 0) := by unfold S_pay; rw [if_neg (by omega)]
          rw [e]
          exact ⟨rfl, rfl⟩
      · skip
        refine z_if_eq (pc := 34) (tgt := 52) dX11_pay_34 (by decide) (by decide) (by decide) (fun _ => ?_) (fun h => absurd h (by decide))
        refine x_aload_n (pc := 52) dX11_pay_52 (List.Mem.head _) ?_
        refine z_sipush (pc := 53) dX11_pay_53 sp_m1000 ?_
        refine z_callVip (pc := 56) (i := mX11_none) (S := []) [.int (zN ((-1000)))] dX11_pay_56 ml_X11_283 ok_X11_none rfl sh_0 rfl (Or.inl rfl) (Nat.le_of_ble_eq_true rfl) (c_X11_none (d := d) (a := ((-1000))) (a1 := (by omega)) (a2 := (by omega)) (ok := ok11) (cn := (by first | assumption | omega))) (fun r27a r27b ok28 => ?_)
        show Ev _ _ _ _ _ _ _ (eh (wI H 1 0 (H.1 1 0 + 1)))
        refine z_ireturn (pc := 59) dX11_pay_59 rfl (Or.inl rfl) ok28 (by omega) (by omega) ?_
        have e : S_pay (H.1 2) who doing n v = (-1000, 0) := by unfold S_pay; rw [if_neg (by omega)]
        rw [e]
        exact ⟨rfl, rfl⟩
    · skip
      refine z_if_eq (pc := 22) (tgt := 52) dX11_pay_22 (by decide) (by decide) (by decide) (fun _ => ?_) (fun h => absurd h (by decide))
      refine x_aload_n (pc := 52) dX11_pay_52 (List.Mem.head _) ?_
      refine z_sipush (pc := 53) dX11_pay_53 sp_m1000 ?_
      refine z_callVip (pc := 56) (i := mX11_none) (S := []) [.int (zN ((-1000)))] dX11_pay_56 ml_X11_283 ok_X11_none rfl sh_0 rfl (Or.inl rfl) (Nat.le_of_ble_eq_true rfl) (c_X11_none (d := d) (a := ((-1000))) (a1 := (by omega)) (a2 := (by omega)) (ok := ok7) (cn := (by first | assumption | omega))) (fun r30a r30b ok31 => ?_)
      show Ev _ _ _ _ _ _ _ (eh (wI H 1 0 (H.1 1 0 + 1)))
      refine z_ireturn (pc := 59) dX11_pay_59 rfl (Or.inl rfl) ok31 (by omega) (by omega) ?_
      have e : S_pay (H.1 2) who doing n v = (-1000, 0) := by unfold S_pay; rw [if_neg (by omega)]
      rw [e]
      exact ⟨rfl, rfl⟩
  · skip
    refine z_if_eq (pc := 12) (tgt := 52) dX11_pay_12 (by decide) (by decide) (by decide) (fun _ => ?_) (fun h => absurd h (by decide))
    refine x_aload_n (pc := 52) dX11_pay_52 (List.Mem.head _) ?_
    refine z_sipush (pc := 53) dX11_pay_53 sp_m1000 ?_
    refine z_callVip (pc := 56) (i := mX11_none) (S := []) [.int (zN ((-1000)))] dX11_pay_56 ml_X11_283 ok_X11_none rfl sh_0 rfl (Or.inl rfl) (Nat.le_of_ble_eq_true rfl) (c_X11_none (d := d) (a := ((-1000))) (a1 := (by omega)) (a2 := (by omega)) (ok := ok3) (cn := (by first | assumption | omega))) (fun r33a r33b ok34 => ?_)
    show Ev _ _ _ _ _ _ _ (eh (wI H 1 0 (H.1 1 0 + 1)))
    refine z_ireturn (pc := 59) dX11_pay_59 rfl (Or.inl rfl) ok34 (by omega) (by omega) ?_
    have e : S_pay (H.1 2) who doing n v = (-1000, 0) := by unfold S_pay; rw [if_neg (by omega)]
    rw [e]
    exact ⟨rfl, rfl⟩

theorem c_X10_rests {d : Nat} {H : ZH} (ok : okZ H) {k m what : Int} (k1 : -2147483648 ≤ k) (k2 : k ≤ 2147483647) (m1 : -2147483648 ≤ m) (m2 : m ≤ 2147483647) (what1 : -2147483648 ≤ what) (what2 : what ≤ 2147483647) (cn : cntOK H 25) (wy : WFY (H.1 2)) (ry : RepY H) : EvC zX (d + 3) mX10_rests [.ref 20, .int (zN (k)), .int (zN (m)), .int (zN (what))] (eh H) (zPi (fun (r : Int) (H1 : ZH) => r = (S_rests (H.1 2) k m what).1 ∧ H1 = bumpC (S_rests (H.1 2) k m what).2 H)) := by
  show _ ∧ Ev zX mX10_rests (EvC zX (d + 2)) (zPi (fun (r : Int) (H1 : ZH) => r = (S_rests (H.1 2) k m what).1 ∧ H1 = bumpC (S_rests (H.1 2) k m what).2 H)) 0 [(0, .ref 20), (1, .int (zN (k))), (2, .int (zN (m))), (3, .int (zN (what)))] [] (eh H)
  refine ⟨Nat.le_of_ble_eq_true rfl, ?_⟩
  refine x_iload_n (pc := 0) dX10_rests_0 (List.Mem.tail _ (List.Mem.tail _ (List.Mem.tail _ (List.Mem.head _)))) ?_
  refine z_if_lt (pc := 1) (tgt := 9) dX10_rests_1 (by decide) (by omega) (by omega) (fun hb1 => ?_) (fun hb1 => ?_)
  · skip
    refine x_aload_n (pc := 9) dX10_rests_9 (List.Mem.head _) ?_
    refine z_bipush (pc := 10) dX10_rests_10 bp_m2 ?_
    refine z_callVip (pc := 12) (i := mX10_refuse) (S := []) [.int (zN ((-2)))] dX10_rests_12 ml_X10_97 ok_X10_refuse rfl sh_20 rfl (Or.inl rfl) (Nat.le_of_ble_eq_true rfl) (c_X10_refuse (d := d + 1) (code := ((-2))) (code1 := (by omega)) (code2 := (by omega)) (ok := ok) (cn := (by first | assumption | omega))) (fun r2a r2b ok3 => ?_)
    show Ev _ _ _ _ _ _ _ (eh (wI H 25 ((refIx ((-2)))) (H.1 25 (refIx ((-2))) + 1)))
    refine z_ireturn (pc := 15) dX10_rests_15 rfl (Or.inl rfl) ok3 (by omega) (by omega) ?_
    have e : S_rests (H.1 2) k m what = (-2, 0) := by unfold S_rests; rw [if_neg (by omega)]
    rw [e]
    exact ⟨rfl, rfl⟩
  · skip
    refine x_iload_n (pc := 4) dX10_rests_4 (List.Mem.tail _ (List.Mem.tail _ (List.Mem.tail _ (List.Mem.head _)))) ?_
    refine z_iconst (pc := 5) dX10_rests_5 ?_
    refine z_icmp_le (pc := 6) (tgt := 16) dX10_rests_6 (by decide) (by omega) (by omega) (by decide) (by decide) (fun hb4 => ?_) (fun hb4 => ?_)
    · skip
      refine x_iload_n (pc := 16) dX10_rests_16 (List.Mem.tail _ (List.Mem.head _)) ?_
      refine z_iconst (pc := 17) dX10_rests_17 ?_
      refine z_callSbp (pc := 18) (i := mX10_isWithin) (S := []) [.int (zN (k)), .int (zN (4))] dX10_rests_18 ml_X10_302 ok_X10_isWithin rfl (Or.inr rfl) (Nat.le_of_ble_eq_true rfl) (c_X10_isWithin (d := d + 1) (v := k) (hi := 4) (v1 := (by omega)) (v2 := (by omega)) (hi1 := (by omega)) (hi2 := (by omega)) (ok := ok)) (fun hc7 ok6 => ?_) (fun hc7 ok6 => ?_)
      · skip
        refine z_if_eq (pc := 21) (tgt := 32) dX10_rests_21 (by decide) (by decide) (by decide) (fun h => absurd h (by decide)) (fun _ => ?_)
        refine x_iload_n (pc := 24) dX10_rests_24 (List.Mem.tail _ (List.Mem.tail _ (List.Mem.head _))) ?_
        refine z_iconst (pc := 25) dX10_rests_25 ?_
        refine z_callSbp (pc := 26) (i := mX10_isWithin) (S := []) [.int (zN (m)), .int (zN (4))] dX10_rests_26 ml_X10_302 ok_X10_isWithin rfl (Or.inr rfl) (Nat.le_of_ble_eq_true rfl) (c_X10_isWithin (d := d + 1) (v := m) (hi := 4) (v1 := (by omega)) (v2 := (by omega)) (hi1 := (by omega)) (hi2 := (by omega)) (ok := ok6)) (fun hc11 ok10 => ?_) (fun hc11 ok10 => ?_)
        · skip
          refine z_if_ne (pc := 29) (tgt := 39) dX10_rests_29 (by decide) (by decide) (by decide) (fun _ => ?_) (fun h => absurd h (by decide))
          refine z_iconst (pc := 39) dX10_rests_39 ?_
          refine x_istore (pc := 40) dX10_rests_40 (Nat.le_of_ble_eq_true rfl) ?_
          show Ev _ _ _ _ _ [(4, .int (zN (0))), (0, .ref 20), (1, .int (zN (k))), (2, .int (zN (m))), (3, .int (zN (what)))] _ _
          refine z_iconst (pc := 42) dX10_rests_42 ?_
          refine x_istore (pc := 43) dX10_rests_43 (Nat.le_of_ble_eq_true rfl) ?_
          show Ev _ _ _ _ _ [(5, .int (zN ((-1)))), (4, .int (zN (0))), (0, .ref 20), (1, .int (zN (k))), (2, .int (zN (m))), (3, .int (zN (what)))] _ _
          refine z_iconst (pc := 45) dX10_rests_45 ?_
          refine x_istore (pc := 46) dX10_rests_46 (Nat.le_of_ble_eq_true rfl) ?_
          show Ev _ _ _ _ _ [(6, .int (zN (0))), (5, .int (zN ((-1)))), (4, .int (zN (0))), (0, .ref 20), (1, .int (zN (k))), (2, .int (zN (m))), (3, .int (zN (what)))] _ _
          have lp48 : ∀ (nF : Nat) (i : Nat), ((i : Int) ≤ k + 1) → k.toNat + 1 - i < nF → Ev zX mX10_rests (EvC zX (d + 2)) (zPi (fun (r : Int) (H1 : ZH) => r = (S_rests (H.1 2) k m what).1 ∧ H1 = bumpC (S_rests (H.1 2) k m what).2 H)) 48 [(0, .ref 20), (1, .int (zN (k))), (2, .int (zN (m))), (3, .int (zN (what))), (4, .int (zN ((rout (H.1 2) k m i).1))), (5, .int (zN ((rout (H.1 2) k m i).2))), (6, .int (zN ((i : Int))))] [] (eh H) := by
            intro nF
            induction nF with
            | zero => intro i hi hm; exact absurd hm (Nat.not_lt_zero _)
            | succ nF ih48 =>
              intro i hi hm
              have ro := rout_ok (A := H.1 2) (k := k) (m := m) (by omega) i (by omega)
              have ro1 := ro.1
              have ro2 := ro.2
              refine x_iload (pc := 48) dX10_rests_48 (List.Mem.tail _ (List.Mem.tail _ (List.Mem.tail _ (List.Mem.tail _ (List.Mem.tail _ (List.Mem.tail _ (List.Mem.head _))))))) ?_
              refine x_iload_n (pc := 50) dX10_rests_50 (List.Mem.tail _ (List.Mem.head _)) ?_
              refine z_icmp_gt (pc := 51) (tgt := 131) dX10_rests_51 (by decide) (by omega) (by omega) (by omega) (by omega) (fun hb13 => ?_) (fun hb13 => ?_)
              · skip
                refine x_iload_n (pc := 131) dX10_rests_131 (List.Mem.tail _ (List.Mem.tail _ (List.Mem.tail _ (List.Mem.head _)))) ?_
                refine z_if_ne (pc := 132) (tgt := 140) dX10_rests_132 (by decide) (by omega) (by omega) (fun hb14 => ?_) (fun hb14 => ?_)
                · skip
                  refine x_iload (pc := 140) dX10_rests_140 (List.Mem.tail _ (List.Mem.tail _ (List.Mem.tail _ (List.Mem.tail _ (List.Mem.tail _ (List.Mem.head _)))))) ?_
                  refine z_ireturn (pc := 142) dX10_rests_142 rfl (Or.inl rfl) ok10 (by omega) (by omega) ?_
                  have ei : i = k.toNat + 1 := by omega
                  have e : S_rests (H.1 2) k m what = ((if what = 0 then (rout (H.1 2) k m (k.toNat + 1)).1 else (rout (H.1 2) k m (k.toNat + 1)).2), 6) := by unfold S_rests; rw [if_pos (by omega), if_pos (by omega)]
                  rw [e]
                  rw [← ei]
                  refine ⟨?_, rfl⟩
                  first | exact (if_pos (by omega)).symm | exact (if_neg (by omega)).symm
                · skip
                  refine x_iload (pc := 135) dX10_rests_135 (List.Mem.tail _ (List.Mem.tail _ (List.Mem.tail _ (List.Mem.tail _ (List.Mem.head _))))) ?_
                  refine x_goto (pc := 137) (tgt := 142) dX10_rests_137 (by decide) ?_
                  refine z_ireturn (pc := 142) dX10_rests_142 rfl (Or.inl rfl) ok10 (by omega) (by omega) ?_
                  have ei : i = k.toNat + 1 := by omega
                  have e : S_rests (H.1 2) k m what = ((if what = 0 then (rout (H.1 2) k m (k.toNat + 1)).1 else (rout (H.1 2) k m (k.toNat + 1)).2), 6) := by unfold S_rests; rw [if_pos (by omega), if_pos (by omega)]
                  rw [e]
                  rw [← ei]
                  refine ⟨?_, rfl⟩
                  first | exact (if_pos (by omega)).symm | exact (if_neg (by omega)).symm
              · skip
                refine z_iconst (pc := 54) dX10_rests_54 ?_
                refine x_istore (pc := 55) dX10_rests_55 (Nat.le_of_ble_eq_true rfl) ?_
                show Ev _ _ _ _ _ [(7, .int (zN (0))), (0, .ref 20), (1, .int (zN (k))), (2, .int (zN (m))), (3, .int (zN (what))), (4, .int (zN ((rout (H.1 2) k m i).1))), (5, .int (zN ((rout (H.1 2) k m i).2))), (6, .int (zN ((i : Int))))] _ _
                have lp57 : ∀ (nF : Nat) (j : Nat), ((j : Int) ≤ m + 1) → m.toNat + 1 - j < nF → Ev zX mX10_rests (EvC zX (d + 2)) (zPi (fun (r : Int) (H1 : ZH) => r = (S_rests (H.1 2) k m what).1 ∧ H1 = bumpC (S_rests (H.1 2) k m what).2 H)) 57 [(0, .ref 20), (1, .int (zN (k))), (2, .int (zN (m))), (3, .int (zN (what))), (4, .int (zN ((rin (H.1 2) k m i j (rout (H.1 2) k m i)).1))), (5, .int (zN ((rin (H.1 2) k m i j (rout (H.1 2) k m i)).2))), (6, .int (zN ((i : Int)))), (7, .int (zN ((j : Int))))] [] (eh H) := by
                  intro nF
                  induction nF with
                  | zero => intro j hj hm; exact absurd hm (Nat.not_lt_zero _)
                  | succ nF ih57 =>
                    intro j hj hm
                    have ri := rin_ok (A := H.1 2) (k := k) (m := m) ro (i := i) (by omega) j (by omega)
                    have ri1 := ri.1
                    have ri2 := ri.2
                    refine x_iload (pc := 57) dX10_rests_57 (List.Mem.tail _ (List.Mem.tail _ (List.Mem.tail _ (List.Mem.tail _ (List.Mem.tail _ (List.Mem.tail _ (List.Mem.tail _ (List.Mem.head _)))))))) ?_
                    refine x_iload_n (pc := 59) dX10_rests_59 (List.Mem.tail _ (List.Mem.tail _ (List.Mem.head _))) ?_
                    refine z_icmp_gt (pc := 60) (tgt := 125) dX10_rests_60 (by decide) (by omega) (by omega) (by omega) (by omega) (fun hb15 => ?_) (fun hb15 => ?_)
                    · skip
                      refine z_iinc (pc := 125) dX10_rests_125 (List.Mem.tail _ (List.Mem.tail _ (List.Mem.tail _ (List.Mem.tail _ (List.Mem.tail _ (List.Mem.tail _ (List.Mem.head _))))))) (Nat.le_of_ble_eq_true rfl) ?_
                      show Ev _ _ _ _ _ [(6, .int (zN ((i : Int) + 1))), (0, .ref 20), (1, .int (zN (k))), (2, .int (zN (m))), (3, .int (zN (what))), (4, .int (zN ((rin (H.1 2) k m i j (rout (H.1 2) k m i)).1))), (5, .int (zN ((rin (H.1 2) k m i j (rout (H.1 2) k m i)).2))), (7, .int (zN ((j : Int))))] _ _
                      refine x_goto (pc := 128) (tgt := 48) dX10_rests_128 (by decide) ?_
                      refine x_weaken (L1 := [(0, .ref 20), (1, .int (zN (k))), (2, .int (zN (m))), (3, .int (zN (what))), (4, .int (zN ((rout (H.1 2) k m (i + 1)).1))), (5, .int (zN ((rout (H.1 2) k m (i + 1)).2))), (6, .int (zN ((((i + 1) : Nat) : Int))))]) (List.forall_mem_cons.mpr ⟨(List.Mem.tail _ (List.Mem.head _)), (List.forall_mem_cons.mpr ⟨(List.Mem.tail _ (List.Mem.tail _ (List.Mem.head _))), (List.forall_mem_cons.mpr ⟨(List.Mem.tail _ (List.Mem.tail _ (List.Mem.tail _ (List.Mem.head _)))), (List.forall_mem_cons.mpr ⟨(List.Mem.tail _ (List.Mem.tail _ (List.Mem.tail _ (List.Mem.tail _ (List.Mem.head _))))), (List.forall_mem_cons.mpr ⟨(mem_ci (by rw [show j = m.toNat + 1 by omega]; rfl) (List.Mem.tail _ (List.Mem.tail _ (List.Mem.tail _ (List.Mem.tail _ (List.Mem.tail _ (List.Mem.head _))))))), (List.forall_mem_cons.mpr ⟨(mem_ci (by rw [show j = m.toNat + 1 by omega]; rfl) (List.Mem.tail _ (List.Mem.tail _ (List.Mem.tail _ (List.Mem.tail _ (List.Mem.tail _ (List.Mem.tail _ (List.Mem.head _)))))))), (List.forall_mem_cons.mpr ⟨(mem_ci (by omega) (List.Mem.head _)), (fun _ h => absurd h List.not_mem_nil)⟩)⟩)⟩)⟩)⟩)⟩)⟩) ?_
                      exact ih48 ((i + 1)) (by first | assumption | omega) (by omega)
                    · skip
                      refine x_aload_n (pc := 63) dX10_rests_63 (List.Mem.head _) ?_
                      refine z_getR (pc := 64) (k := 3) (r := 98) dX10_rests_64 lf_X10_23 sh_20 rfl rf_20_3 ?_
                      refine z_iconst (pc := 67) dX10_rests_67 ?_
                      refine x_iload (pc := 68) dX10_rests_68 (List.Mem.tail _ (List.Mem.tail _ (List.Mem.tail _ (List.Mem.tail _ (List.Mem.tail _ (List.Mem.tail _ (List.Mem.head _))))))) ?_
                      refine x_iload_n (pc := 70) dX10_rests_70 (List.Mem.tail _ (List.Mem.head _)) ?_
                      refine x_iload (pc := 71) dX10_rests_71 (List.Mem.tail _ (List.Mem.tail _ (List.Mem.tail _ (List.Mem.tail _ (List.Mem.tail _ (List.Mem.tail _ (List.Mem.tail _ (List.Mem.head _)))))))) ?_
                      refine z_callVbp (pc := 73) (i := mX8_areContent) (S := []) [.int (zN (0)), .int (zN ((i : Int))), .int (zN (k)), .int (zN ((j : Int)))] dX10_rests_73 ml_X10_416 ok_X8_areContent rfl sh_98 rfl (Or.inr rfl) (Nat.le_of_ble_eq_true rfl) (c_X8_areContent (d := d) (w := 0) (og := j) (hw := (by omega)) (hg := (by omega)) (g := ((i : Int))) (al := k) (g1 := (by omega)) (g2 := (by omega)) (al1 := (by omega)) (al2 := (by omega)) (ok := ok10) (wy := (by first | assumption | omega)) (ry := (by first | assumption | omega))) (fun hc18 ok17 => ?_) (fun hc18 ok17 => ?_)
                      · skip
                        refine z_if_eq (pc := 76) (tgt := 119) dX10_rests_76 (by decide) (by decide) (by decide) (fun h => absurd h (by decide)) (fun _ => ?_)
                        refine x_aload_n (pc := 79) dX10_rests_79 (List.Mem.head _) ?_
                        refine z_getR (pc := 80) (k := 3) (r := 98) dX10_rests_80 lf_X10_23 sh_20 rfl rf_20_3 ?_
                        refine z_iconst (pc := 83) dX10_rests_83 ?_
                        refine x_iload (pc := 84) dX10_rests_84 (List.Mem.tail _ (List.Mem.tail _ (List.Mem.tail _ (List.Mem.tail _ (List.Mem.tail _ (List.Mem.tail _ (List.Mem.tail _ (List.Mem.head _)))))))) ?_
                        refine x_iload_n (pc := 86) dX10_rests_86 (List.Mem.tail _ (List.Mem.tail _ (List.Mem.head _))) ?_
                        refine x_iload (pc := 87) dX10_rests_87 (List.Mem.tail _ (List.Mem.tail _ (List.Mem.tail _ (List.Mem.tail _ (List.Mem.tail _ (List.Mem.tail _ (List.Mem.head _))))))) ?_
                        refine z_callVbp (pc := 89) (i := mX8_areContent) (S := []) [.int (zN (1)), .int (zN ((j : Int))), .int (zN (m)), .int (zN ((i : Int)))] dX10_rests_89 ml_X10_416 ok_X8_areContent rfl sh_98 rfl (Or.inr rfl) (Nat.le_of_ble_eq_true rfl) (c_X8_areContent (d := d) (w := 1) (og := i) (hw := (by omega)) (hg := (by omega)) (g := ((j : Int))) (al := m) (g1 := (by omega)) (g2 := (by omega)) (al1 := (by omega)) (al2 := (by omega)) (ok := ok17) (wy := (by first | assumption | omega)) (ry := (by first | assumption | omega))) (fun hc22 ok21 => ?_) (fun hc22 ok21 => ?_)
                        · skip
                          refine z_if_eq (pc := 92) (tgt := 119) dX10_rests_92 (by decide) (by decide) (by decide) (fun h => absurd h (by decide)) (fun _ => ?_)
                          refine z_iinc (pc := 95) dX10_rests_95 (List.Mem.tail _ (List.Mem.tail _ (List.Mem.tail _ (List.Mem.tail _ (List.Mem.head _))))) (Nat.le_of_ble_eq_true rfl) ?_
                          show Ev _ _ _ _ _ [(4, .int (zN ((rin (H.1 2) k m i j (rout (H.1 2) k m i)).1 + 1))), (0, .ref 20), (1, .int (zN (k))), (2, .int (zN (m))), (3, .int (zN (what))), (5, .int (zN ((rin (H.1 2) k m i j (rout (H.1 2) k m i)).2))), (6, .int (zN ((i : Int)))), (7, .int (zN ((j : Int))))] _ _
                          refine x_iload (pc := 98) dX10_rests_98 (List.Mem.tail _ (List.Mem.tail _ (List.Mem.tail _ (List.Mem.tail _ (List.Mem.tail _ (List.Mem.head _)))))) ?_
                          refine z_iconst (pc := 100) dX10_rests_100 ?_
                          refine z_icmp_ne (pc := 101) (tgt := 115) dX10_rests_101 (by decide) (by omega) (by omega) (by decide) (by decide) (fun hb24 => ?_) (fun hb24 => ?_)
                          · skip
                            refine x_iload (pc := 115) dX10_rests_115 (List.Mem.tail _ (List.Mem.tail _ (List.Mem.tail _ (List.Mem.tail _ (List.Mem.tail _ (List.Mem.head _)))))) ?_
                            refine x_istore (pc := 117) dX10_rests_117 (Nat.le_of_ble_eq_true rfl) ?_
                            show Ev _ _ _ _ _ [(5, .int (zN ((rin (H.1 2) k m i j (rout (H.1 2) k m i)).2))), (4, .int (zN ((rin (H.1 2) k m i j (rout (H.1 2) k m i)).1 + 1))), (0, .ref 20), (1, .int (zN (k))), (2, .int (zN (m))), (3, .int (zN (what))), (6, .int (zN ((i : Int)))), (7, .int (zN ((j : Int))))] _ _
                            refine z_iinc (pc := 119) dX10_rests_119 (List.Mem.tail _ (List.Mem.tail _ (List.Mem.tail _ (List.Mem.tail _ (List.Mem.tail _ (List.Mem.tail _ (List.Mem.tail _ (List.Mem.head _)))))))) (Nat.le_of_ble_eq_true rfl) ?_
                            show Ev _ _ _ _ _ [(7, .int (zN ((j : Int) + 1))), (5, .int (zN ((rin (H.1 2) k m i j (rout (H.1 2) k m i)).2))), (4, .int (zN ((rin (H.1 2) k m i j (rout (H.1 2) k m i)).1 + 1))), (0, .ref 20), (1, .int (zN (k))), (2, .int (zN (m))), (3, .int (zN (what))), (6, .int (zN ((i : Int))))] _ _
                            refine x_goto (pc := 122) (tgt := 57) dX10_rests_122 (by decide) ?_
                            refine x_weaken (L1 := [(0, .ref 20), (1, .int (zN (k))), (2, .int (zN (m))), (3, .int (zN (what))), (4, .int (zN ((rin (H.1 2) k m i (j + 1) (rout (H.1 2) k m i)).1))), (5, .int (zN ((rin (H.1 2) k m i (j + 1) (rout (H.1 2) k m i)).2))), (6, .int (zN ((i : Int)))), (7, .int (zN ((((j + 1) : Nat) : Int))))]) (List.forall_mem_cons.mpr ⟨(List.Mem.tail _ (List.Mem.tail _ (List.Mem.tail _ (List.Mem.head _)))), (List.forall_mem_cons.mpr ⟨(List.Mem.tail _ (List.Mem.tail _ (List.Mem.tail _ (List.Mem.tail _ (List.Mem.head _))))), (List.forall_mem_cons.mpr ⟨(List.Mem.tail _ (List.Mem.tail _ (List.Mem.tail _ (List.Mem.tail _ (List.Mem.tail _ (List.Mem.head _)))))), (List.forall_mem_cons.mpr ⟨(List.Mem.tail _ (List.Mem.tail _ (List.Mem.tail _ (List.Mem.tail _ (List.Mem.tail _ (List.Mem.tail _ (List.Mem.head _))))))), (List.forall_mem_cons.mpr ⟨(mem_ci (by first | exact congrArg (fun q : Int × Int => q.1) (if_neg (fun q => absurd q.1 ‹_›)) | exact congrArg (fun q : Int × Int => q.1) (if_neg (fun q => absurd q.2 ‹_›)) | exact congrArg (fun q : Int × Int => q.1) (if_pos ⟨‹_›, ‹_›⟩) | exact (congrArg (fun q : Int × Int => q.1) (if_pos ⟨‹_›, ‹_›⟩)).trans (if_pos (by omega)) | exact (congrArg (fun q : Int × Int => q.1) (if_pos ⟨‹_›, ‹_›⟩)).trans (if_neg (by omega))) (List.Mem.tail _ (List.Mem.tail _ (List.Mem.head _)))), (List.forall_mem_cons.mpr ⟨(mem_ci (by first | exact congrArg (fun q : Int × Int => q.2) (if_neg (fun q => absurd q.1 ‹_›)) | exact congrArg (fun q : Int × Int => q.2) (if_neg (fun q => absurd q.2 ‹_›)) | exact congrArg (fun q : Int × Int => q.2) (if_pos ⟨‹_›, ‹_›⟩) | exact (congrArg (fun q : Int × Int => q.2) (if_pos ⟨‹_›, ‹_›⟩)).trans (if_pos (by omega)) | exact (congrArg (fun q : Int × Int => q.2) (if_pos ⟨‹_›, ‹_›⟩)).trans (if_neg (by omega))) (List.Mem.tail _ (List.Mem.head _))), (List.forall_mem_cons.mpr ⟨(List.Mem.tail _ (List.Mem.tail _ (List.Mem.tail _ (List.Mem.tail _ (List.Mem.tail _ (List.Mem.tail _ (List.Mem.tail _ (List.Mem.head _)))))))), (List.forall_mem_cons.mpr ⟨(mem_ci (by omega) (List.Mem.head _)), (fun _ h => absurd h List.not_mem_nil)⟩)⟩)⟩)⟩)⟩)⟩)⟩)⟩) ?_
                            exact ih57 ((j + 1)) (by first | assumption | omega) (by omega)
                          · skip
                            refine z_bipush (pc := 104) dX10_rests_104 bp_10 ?_
                            refine x_iload (pc := 106) dX10_rests_106 (List.Mem.tail _ (List.Mem.tail _ (List.Mem.tail _ (List.Mem.tail _ (List.Mem.tail _ (List.Mem.tail _ (List.Mem.head _))))))) ?_
                            refine z_imul (pc := 108) dX10_rests_108 ?_
                            refine x_iload (pc := 109) dX10_rests_109 (List.Mem.tail _ (List.Mem.tail _ (List.Mem.tail _ (List.Mem.tail _ (List.Mem.tail _ (List.Mem.tail _ (List.Mem.tail _ (List.Mem.head _)))))))) ?_
                            refine z_iadd (pc := 111) dX10_rests_111 ?_
                            refine x_goto (pc := 112) (tgt := 117) dX10_rests_112 (by decide) ?_
                            refine x_istore (pc := 117) dX10_rests_117 (Nat.le_of_ble_eq_true rfl) ?_
                            show Ev _ _ _ _ _ [(5, .int (zN (((10 * (i : Int)) + (j : Int))))), (4, .int (zN ((rin (H.1 2) k m i j (rout (H.1 2) k m i)).1 + 1))), (0, .ref 20), (1, .int (zN (k))), (2, .int (zN (m))), (3, .int (zN (what))), (6, .int (zN ((i : Int)))), (7, .int (zN ((j : Int))))] _ _
                            refine z_iinc (pc := 119) dX10_rests_119 (List.Mem.tail _ (List.Mem.tail _ (List.Mem.tail _ (List.Mem.tail _ (List.Mem.tail _ (List.Mem.tail _ (List.Mem.tail _ (List.Mem.head _)))))))) (Nat.le_of_ble_eq_true rfl) ?_
                            show Ev _ _ _ _ _ [(7, .int (zN ((j : Int) + 1))), (5, .int (zN (((10 * (i : Int)) + (j : Int))))), (4, .int (zN ((rin (H.1 2) k m i j (rout (H.1 2) k m i)).1 + 1))), (0, .ref 20), (1, .int (zN (k))), (2, .int (zN (m))), (3, .int (zN (what))), (6, .int (zN ((i : Int))))] _ _
                            refine x_goto (pc := 122) (tgt := 57) dX10_rests_122 (by decide) ?_
                            refine x_weaken (L1 := [(0, .ref 20), (1, .int (zN (k))), (2, .int (zN (m))), (3, .int (zN (what))), (4, .int (zN ((rin (H.1 2) k m i (j + 1) (rout (H.1 2) k m i)).1))), (5, .int (zN ((rin (H.1 2) k m i (j + 1) (rout (H.1 2) k m i)).2))), (6, .int (zN ((i : Int)))), (7, .int (zN ((((j + 1) : Nat) : Int))))]) (List.forall_mem_cons.mpr ⟨(List.Mem.tail _ (List.Mem.tail _ (List.Mem.tail _ (List.Mem.head _)))), (List.forall_mem_cons.mpr ⟨(List.Mem.tail _ (List.Mem.tail _ (List.Mem.tail _ (List.Mem.tail _ (List.Mem.head _))))), (List.forall_mem_cons.mpr ⟨(List.Mem.tail _ (List.Mem.tail _ (List.Mem.tail _ (List.Mem.tail _ (List.Mem.tail _ (List.Mem.head _)))))), (List.forall_mem_cons.mpr ⟨(List.Mem.tail _ (List.Mem.tail _ (List.Mem.tail _ (List.Mem.tail _ (List.Mem.tail _ (List.Mem.tail _ (List.Mem.head _))))))), (List.forall_mem_cons.mpr ⟨(mem_ci (by first | exact congrArg (fun q : Int × Int => q.1) (if_neg (fun q => absurd q.1 ‹_›)) | exact congrArg (fun q : Int × Int => q.1) (if_neg (fun q => absurd q.2 ‹_›)) | exact congrArg (fun q : Int × Int => q.1) (if_pos ⟨‹_›, ‹_›⟩) | exact (congrArg (fun q : Int × Int => q.1) (if_pos ⟨‹_›, ‹_›⟩)).trans (if_pos (by omega)) | exact (congrArg (fun q : Int × Int => q.1) (if_pos ⟨‹_›, ‹_›⟩)).trans (if_neg (by omega))) (List.Mem.tail _ (List.Mem.tail _ (List.Mem.head _)))), (List.forall_mem_cons.mpr ⟨(mem_ci (by first | exact congrArg (fun q : Int × Int => q.2) (if_neg (fun q => absurd q.1 ‹_›)) | exact congrArg (fun q : Int × Int => q.2) (if_neg (fun q => absurd q.2 ‹_›)) | exact congrArg (fun q : Int × Int => q.2) (if_pos ⟨‹_›, ‹_›⟩) | exact (congrArg (fun q : Int × Int => q.2) (if_pos ⟨‹_›, ‹_›⟩)).trans (if_pos (by omega)) | exact (congrArg (fun q : Int × Int => q.2) (if_pos ⟨‹_›, ‹_›⟩)).trans (if_neg (by omega))) (List.Mem.tail _ (List.Mem.head _))), (List.forall_mem_cons.mpr ⟨(List.Mem.tail _ (List.Mem.tail _ (List.Mem.tail _ (List.Mem.tail _ (List.Mem.tail _ (List.Mem.tail _ (List.Mem.tail _ (List.Mem.head _)))))))), (List.forall_mem_cons.mpr ⟨(mem_ci (by omega) (List.Mem.head _)), (fun _ h => absurd h List.not_mem_nil)⟩)⟩)⟩)⟩)⟩)⟩)⟩)⟩) ?_
                            exact ih57 ((j + 1)) (by first | assumption | omega) (by omega)
                        · skip
                          refine z_if_eq (pc := 92) (tgt := 119) dX10_rests_92 (by decide) (by decide) (by decide) (fun _ => ?_) (fun h => absurd h (by decide))
                          refine z_iinc (pc := 119) dX10_rests_119 (List.Mem.tail _ (List.Mem.tail _ (List.Mem.tail _ (List.Mem.tail _ (List.Mem.tail _ (List.Mem.tail _ (List.Mem.tail _ (List.Mem.head _)))))))) (Nat.le_of_ble_eq_true rfl) ?_
                          show Ev _ _ _ _ _ [(7, .int (zN ((j : Int) + 1))), (0, .ref 20), (1, .int (zN (k))), (2, .int (zN (m))), (3, .int (zN (what))), (4, .int (zN ((rin (H.1 2) k m i j (rout (H.1 2) k m i)).1))), (5, .int (zN ((rin (H.1 2) k m i j (rout (H.1 2) k m i)).2))), (6, .int (zN ((i : Int))))] _ _
                          refine x_goto (pc := 122) (tgt := 57) dX10_rests_122 (by decide) ?_
                          refine x_weaken (L1 := [(0, .ref 20), (1, .int (zN (k))), (2, .int (zN (m))), (3, .int (zN (what))), (4, .int (zN ((rin (H.1 2) k m i (j + 1) (rout (H.1 2) k m i)).1))), (5, .int (zN ((rin (H.1 2) k m i (j + 1) (rout (H.1 2) k m i)).2))), (6, .int (zN ((i : Int)))), (7, .int (zN ((((j + 1) : Nat) : Int))))]) (List.forall_mem_cons.mpr ⟨(List.Mem.tail _ (List.Mem.head _)), (List.forall_mem_cons.mpr ⟨(List.Mem.tail _ (List.Mem.tail _ (List.Mem.head _))), (List.forall_mem_cons.mpr ⟨(List.Mem.tail _ (List.Mem.tail _ (List.Mem.tail _ (List.Mem.head _)))), (List.forall_mem_cons.mpr ⟨(List.Mem.tail _ (List.Mem.tail _ (List.Mem.tail _ (List.Mem.tail _ (List.Mem.head _))))), (List.forall_mem_cons.mpr ⟨(mem_ci (by first | exact congrArg (fun q : Int × Int => q.1) (if_neg (fun q => absurd q.1 ‹_›)) | exact congrArg (fun q : Int × Int => q.1) (if_neg (fun q => absurd q.2 ‹_›)) | exact congrArg (fun q : Int × Int => q.1) (if_pos ⟨‹_›, ‹_›⟩) | exact (congrArg (fun q : Int × Int => q.1) (if_pos ⟨‹_›, ‹_›⟩)).trans (if_pos (by omega)) | exact (congrArg (fun q : Int × Int => q.1) (if_pos ⟨‹_›, ‹_›⟩)).trans (if_neg (by omega))) (List.Mem.tail _ (List.Mem.tail _ (List.Mem.tail _ (List.Mem.tail _ (List.Mem.tail _ (List.Mem.head _))))))), (List.forall_mem_cons.mpr ⟨(mem_ci (by first | exact congrArg (fun q : Int × Int => q.2) (if_neg (fun q => absurd q.1 ‹_›)) | exact congrArg (fun q : Int × Int => q.2) (if_neg (fun q => absurd q.2 ‹_›)) | exact congrArg (fun q : Int × Int => q.2) (if_pos ⟨‹_›, ‹_›⟩) | exact (congrArg (fun q : Int × Int => q.2) (if_pos ⟨‹_›, ‹_›⟩)).trans (if_pos (by omega)) | exact (congrArg (fun q : Int × Int => q.2) (if_pos ⟨‹_›, ‹_›⟩)).trans (if_neg (by omega))) (List.Mem.tail _ (List.Mem.tail _ (List.Mem.tail _ (List.Mem.tail _ (List.Mem.tail _ (List.Mem.tail _ (List.Mem.head _)))))))), (List.forall_mem_cons.mpr ⟨(List.Mem.tail _ (List.Mem.tail _ (List.Mem.tail _ (List.Mem.tail _ (List.Mem.tail _ (List.Mem.tail _ (List.Mem.tail _ (List.Mem.head _)))))))), (List.forall_mem_cons.mpr ⟨(mem_ci (by omega) (List.Mem.head _)), (fun _ h => absurd h List.not_mem_nil)⟩)⟩)⟩)⟩)⟩)⟩)⟩)⟩) ?_
                          exact ih57 ((j + 1)) (by first | assumption | omega) (by omega)
                      · skip
                        refine z_if_eq (pc := 76) (tgt := 119) dX10_rests_76 (by decide) (by decide) (by decide) (fun _ => ?_) (fun h => absurd h (by decide))
                        refine z_iinc (pc := 119) dX10_rests_119 (List.Mem.tail _ (List.Mem.tail _ (List.Mem.tail _ (List.Mem.tail _ (List.Mem.tail _ (List.Mem.tail _ (List.Mem.tail _ (List.Mem.head _)))))))) (Nat.le_of_ble_eq_true rfl) ?_
                        show Ev _ _ _ _ _ [(7, .int (zN ((j : Int) + 1))), (0, .ref 20), (1, .int (zN (k))), (2, .int (zN (m))), (3, .int (zN (what))), (4, .int (zN ((rin (H.1 2) k m i j (rout (H.1 2) k m i)).1))), (5, .int (zN ((rin (H.1 2) k m i j (rout (H.1 2) k m i)).2))), (6, .int (zN ((i : Int))))] _ _
                        refine x_goto (pc := 122) (tgt := 57) dX10_rests_122 (by decide) ?_
                        refine x_weaken (L1 := [(0, .ref 20), (1, .int (zN (k))), (2, .int (zN (m))), (3, .int (zN (what))), (4, .int (zN ((rin (H.1 2) k m i (j + 1) (rout (H.1 2) k m i)).1))), (5, .int (zN ((rin (H.1 2) k m i (j + 1) (rout (H.1 2) k m i)).2))), (6, .int (zN ((i : Int)))), (7, .int (zN ((((j + 1) : Nat) : Int))))]) (List.forall_mem_cons.mpr ⟨(List.Mem.tail _ (List.Mem.head _)), (List.forall_mem_cons.mpr ⟨(List.Mem.tail _ (List.Mem.tail _ (List.Mem.head _))), (List.forall_mem_cons.mpr ⟨(List.Mem.tail _ (List.Mem.tail _ (List.Mem.tail _ (List.Mem.head _)))), (List.forall_mem_cons.mpr ⟨(List.Mem.tail _ (List.Mem.tail _ (List.Mem.tail _ (List.Mem.tail _ (List.Mem.head _))))), (List.forall_mem_cons.mpr ⟨(mem_ci (by first | exact congrArg (fun q : Int × Int => q.1) (if_neg (fun q => absurd q.1 ‹_›)) | exact congrArg (fun q : Int × Int => q.1) (if_neg (fun q => absurd q.2 ‹_›)) | exact congrArg (fun q : Int × Int => q.1) (if_pos ⟨‹_›, ‹_›⟩) | exact (congrArg (fun q : Int × Int => q.1) (if_pos ⟨‹_›, ‹_›⟩)).trans (if_pos (by omega)) | exact (congrArg (fun q : Int × Int => q.1) (if_pos ⟨‹_›, ‹_›⟩)).trans (if_neg (by omega))) (List.Mem.tail _ (List.Mem.tail _ (List.Mem.tail _ (List.Mem.tail _ (List.Mem.tail _ (List.Mem.head _))))))), (List.forall_mem_cons.mpr ⟨(mem_ci (by first | exact congrArg (fun q : Int × Int => q.2) (if_neg (fun q => absurd q.1 ‹_›)) | exact congrArg (fun q : Int × Int => q.2) (if_neg (fun q => absurd q.2 ‹_›)) | exact congrArg (fun q : Int × Int => q.2) (if_pos ⟨‹_›, ‹_›⟩) | exact (congrArg (fun q : Int × Int => q.2) (if_pos ⟨‹_›, ‹_›⟩)).trans (if_pos (by omega)) | exact (congrArg (fun q : Int × Int => q.2) (if_pos ⟨‹_›, ‹_›⟩)).trans (if_neg (by omega))) (List.Mem.tail _ (List.Mem.tail _ (List.Mem.tail _ (List.Mem.tail _ (List.Mem.tail _ (List.Mem.tail _ (List.Mem.head _)))))))), (List.forall_mem_cons.mpr ⟨(List.Mem.tail _ (List.Mem.tail _ (List.Mem.tail _ (List.Mem.tail _ (List.Mem.tail _ (List.Mem.tail _ (List.Mem.tail _ (List.Mem.head _)))))))), (List.forall_mem_cons.mpr ⟨(mem_ci (by omega) (List.Mem.head _)), (fun _ h => absurd h List.not_mem_nil)⟩)⟩)⟩)⟩)⟩)⟩)⟩)⟩) ?_
                        exact ih57 ((j + 1)) (by first | assumption | omega) (by omega)
                refine x_weaken (L1 := [(0, .ref 20), (1, .int (zN (k))), (2, .int (zN (m))), (3, .int (zN (what))), (4, .int (zN ((rin (H.1 2) k m i 0 (rout (H.1 2) k m i)).1))), (5, .int (zN ((rin (H.1 2) k m i 0 (rout (H.1 2) k m i)).2))), (6, .int (zN ((i : Int)))), (7, .int (zN (((0 : Nat) : Int))))]) (List.forall_mem_cons.mpr ⟨(List.Mem.tail _ (List.Mem.head _)), (List.forall_mem_cons.mpr ⟨(List.Mem.tail _ (List.Mem.tail _ (List.Mem.head _))), (List.forall_mem_cons.mpr ⟨(List.Mem.tail _ (List.Mem.tail _ (List.Mem.tail _ (List.Mem.head _)))), (List.forall_mem_cons.mpr ⟨(List.Mem.tail _ (List.Mem.tail _ (List.Mem.tail _ (List.Mem.tail _ (List.Mem.head _))))), (List.forall_mem_cons.mpr ⟨(mem_ci (rfl) (List.Mem.tail _ (List.Mem.tail _ (List.Mem.tail _ (List.Mem.tail _ (List.Mem.tail _ (List.Mem.head _))))))), (List.forall_mem_cons.mpr ⟨(mem_ci (rfl) (List.Mem.tail _ (List.Mem.tail _ (List.Mem.tail _ (List.Mem.tail _ (List.Mem.tail _ (List.Mem.tail _ (List.Mem.head _)))))))), (List.forall_mem_cons.mpr ⟨(List.Mem.tail _ (List.Mem.tail _ (List.Mem.tail _ (List.Mem.tail _ (List.Mem.tail _ (List.Mem.tail _ (List.Mem.tail _ (List.Mem.head _)))))))), (List.forall_mem_cons.mpr ⟨(mem_ci (by omega) (List.Mem.head _)), (fun _ h => absurd h List.not_mem_nil)⟩)⟩)⟩)⟩)⟩)⟩)⟩)⟩) ?_
                exact lp57 (m.toNat + 1 - 0 + 1) (0) (by first | assumption | omega) (Nat.lt_succ_self _)
          refine x_weaken (L1 := [(0, .ref 20), (1, .int (zN (k))), (2, .int (zN (m))), (3, .int (zN (what))), (4, .int (zN ((rout (H.1 2) k m 0).1))), (5, .int (zN ((rout (H.1 2) k m 0).2))), (6, .int (zN (((0 : Nat) : Int))))]) (List.forall_mem_cons.mpr ⟨(List.Mem.tail _ (List.Mem.tail _ (List.Mem.tail _ (List.Mem.head _)))), (List.forall_mem_cons.mpr ⟨(List.Mem.tail _ (List.Mem.tail _ (List.Mem.tail _ (List.Mem.tail _ (List.Mem.head _))))), (List.forall_mem_cons.mpr ⟨(List.Mem.tail _ (List.Mem.tail _ (List.Mem.tail _ (List.Mem.tail _ (List.Mem.tail _ (List.Mem.head _)))))), (List.forall_mem_cons.mpr ⟨(List.Mem.tail _ (List.Mem.tail _ (List.Mem.tail _ (List.Mem.tail _ (List.Mem.tail _ (List.Mem.tail _ (List.Mem.head _))))))), (List.forall_mem_cons.mpr ⟨(mem_ci (rfl) (List.Mem.tail _ (List.Mem.tail _ (List.Mem.head _)))), (List.forall_mem_cons.mpr ⟨(mem_ci (rfl) (List.Mem.tail _ (List.Mem.head _))), (List.forall_mem_cons.mpr ⟨(mem_ci (by omega) (List.Mem.head _)), (fun _ h => absurd h List.not_mem_nil)⟩)⟩)⟩)⟩)⟩)⟩)⟩) ?_
          exact lp48 (k.toNat + 1 - 0 + 1) (0) (by first | assumption | omega) (Nat.lt_succ_self _)
        · skip
          refine z_if_ne (pc := 29) (tgt := 39) dX10_rests_29 (by decide) (by decide) (by decide) (fun h => absurd h (by decide)) (fun _ => ?_)
          refine x_aload_n (pc := 32) dX10_rests_32 (List.Mem.head _) ?_
          refine z_bipush (pc := 33) dX10_rests_33 bp_m3 ?_
          refine z_callVip (pc := 35) (i := mX10_refuse) (S := []) [.int (zN ((-3)))] dX10_rests_35 ml_X10_97 ok_X10_refuse rfl sh_20 rfl (Or.inl rfl) (Nat.le_of_ble_eq_true rfl) (c_X10_refuse (d := d + 1) (code := ((-3))) (code1 := (by omega)) (code2 := (by omega)) (ok := ok10) (cn := (by first | assumption | omega))) (fun r28a r28b ok29 => ?_)
          show Ev _ _ _ _ _ _ _ (eh (wI H 25 ((refIx ((-3)))) (H.1 25 (refIx ((-3))) + 1)))
          refine z_ireturn (pc := 38) dX10_rests_38 rfl (Or.inl rfl) ok29 (by omega) (by omega) ?_
          have e : S_rests (H.1 2) k m what = (-3, 1) := by unfold S_rests; rw [if_pos (by omega), if_neg (by omega)]
          rw [e]
          exact ⟨rfl, rfl⟩
      · skip
        refine z_if_eq (pc := 21) (tgt := 32) dX10_rests_21 (by decide) (by decide) (by decide) (fun _ => ?_) (fun h => absurd h (by decide))
        refine x_aload_n (pc := 32) dX10_rests_32 (List.Mem.head _) ?_
        refine z_bipush (pc := 33) dX10_rests_33 bp_m3 ?_
        refine z_callVip (pc := 35) (i := mX10_refuse) (S := []) [.int (zN ((-3)))] dX10_rests_35 ml_X10_97 ok_X10_refuse rfl sh_20 rfl (Or.inl rfl) (Nat.le_of_ble_eq_true rfl) (c_X10_refuse (d := d + 1) (code := ((-3))) (code1 := (by omega)) (code2 := (by omega)) (ok := ok6) (cn := (by first | assumption | omega))) (fun r31a r31b ok32 => ?_)
        show Ev _ _ _ _ _ _ _ (eh (wI H 25 ((refIx ((-3)))) (H.1 25 (refIx ((-3))) + 1)))
        refine z_ireturn (pc := 38) dX10_rests_38 rfl (Or.inl rfl) ok32 (by omega) (by omega) ?_
        have e : S_rests (H.1 2) k m what = (-3, 1) := by unfold S_rests; rw [if_pos (by omega), if_neg (by omega)]
        rw [e]
        exact ⟨rfl, rfl⟩
    · skip
      refine x_aload_n (pc := 9) dX10_rests_9 (List.Mem.head _) ?_
      refine z_bipush (pc := 10) dX10_rests_10 bp_m2 ?_
      refine z_callVip (pc := 12) (i := mX10_refuse) (S := []) [.int (zN ((-2)))] dX10_rests_12 ml_X10_97 ok_X10_refuse rfl sh_20 rfl (Or.inl rfl) (Nat.le_of_ble_eq_true rfl) (c_X10_refuse (d := d + 1) (code := ((-2))) (code1 := (by omega)) (code2 := (by omega)) (ok := ok) (cn := (by first | assumption | omega))) (fun r33a r33b ok34 => ?_)
      show Ev _ _ _ _ _ _ _ (eh (wI H 25 ((refIx ((-2)))) (H.1 25 (refIx ((-2))) + 1)))
      refine z_ireturn (pc := 15) dX10_rests_15 rfl (Or.inl rfl) ok34 (by omega) (by omega) ?_
      have e : S_rests (H.1 2) k m what = (-2, 0) := by unfold S_rests; rw [if_neg (by omega)]
      rw [e]
      exact ⟨rfl, rfl⟩

theorem c_X11_rests {d : Nat} {H : ZH} (ok : okZ H) {k m what : Int} (k1 : -2147483648 ≤ k) (k2 : k ≤ 2147483647) (m1 : -2147483648 ≤ m) (m2 : m ≤ 2147483647) (what1 : -2147483648 ≤ what) (what2 : what ≤ 2147483647) (cm : cntOK H 1) (th : H.1 0 0 = 0) (wy : WFY (H.1 2)) : EvC zX (d + 3) mX11_rests [.ref 0, .int (zN (k)), .int (zN (m)), .int (zN (what))] (eh H) (zPi (fun (r : Int) (H1 : ZH) => r = (S_rests (H.1 2) k m what).1 ∧ H1 = bumpM (S_rests (H.1 2) k m what).2 H)) := by
  show _ ∧ Ev zX mX11_rests (EvC zX (d + 2)) (zPi (fun (r : Int) (H1 : ZH) => r = (S_rests (H.1 2) k m what).1 ∧ H1 = bumpM (S_rests (H.1 2) k m what).2 H)) 0 [(0, .ref 0), (1, .int (zN (k))), (2, .int (zN (m))), (3, .int (zN (what)))] [] (eh H)
  refine ⟨Nat.le_of_ble_eq_true rfl, ?_⟩
  refine x_aload_n (pc := 0) dX11_rests_0 (List.Mem.head _) ?_
  refine z_iconst (pc := 1) dX11_rests_1 ?_
  refine z_putI (pc := 2) (k := 0) dX11_rests_2 lp_X11_1 sh_0 rfl ?_
  have ok1 := okI ok 0 0 (v := 0) (by decide) (by decide)
  rw [wI_same th]
  refine x_iload_n (pc := 5) dX11_rests_5 (List.Mem.tail _ (List.Mem.tail _ (List.Mem.tail _ (List.Mem.head _)))) ?_
  refine z_i2l (pc := 6) dX11_rests_6 (by omega) (by omega) ?_
  refine z_lconst (pc := 7) 0 dX11_rests_7 rfl ?_
  refine z_lconst (pc := 8) 1 dX11_rests_8 rfl ?_
  refine z_callSbp (pc := 9) (i := mX11_within) (S := []) [.long (zL (what)), .long (zL (0)), .long (zL (1))] dX11_rests_9 ml_X11_152 ok_X11_within rfl (Or.inr rfl) (Nat.le_of_ble_eq_true rfl) (c_X11_within (d := d + 1) (v := what) (lo := 0) (hi := 1) (v1 := (by omega)) (v2 := (by omega)) (lo1 := (by omega)) (lo2 := (by omega)) (hi1 := (by omega)) (hi2 := (by omega)) (ok := ok)) (fun hc4 ok3 => ?_) (fun hc4 ok3 => ?_)
  · skip
    refine z_if_ne (pc := 12) (tgt := 22) dX11_rests_12 (by decide) (by decide) (by decide) (fun _ => ?_) (fun h => absurd h (by decide))
    refine x_iload_n (pc := 22) dX11_rests_22 (List.Mem.tail _ (List.Mem.head _)) ?_
    refine z_i2l (pc := 23) dX11_rests_23 (by omega) (by omega) ?_
    refine z_lconst (pc := 24) 0 dX11_rests_24 rfl ?_
    refine z_ldc2_w (pc := 25) 4 dX11_rests_25 cl_X11_361 (by decide) ?_
    refine z_callSbp (pc := 28) (i := mX11_within) (S := []) [.long (zL (k)), .long (zL (0)), .long (zL (4))] dX11_rests_28 ml_X11_152 ok_X11_within rfl (Or.inr rfl) (Nat.le_of_ble_eq_true rfl) (c_X11_within (d := d + 1) (v := k) (lo := 0) (hi := 4) (v1 := (by omega)) (v2 := (by omega)) (lo1 := (by omega)) (lo2 := (by omega)) (hi1 := (by omega)) (hi2 := (by omega)) (ok := ok3)) (fun hc8 ok7 => ?_) (fun hc8 ok7 => ?_)
    · skip
      refine z_if_eq (pc := 31) (tgt := 46) dX11_rests_31 (by decide) (by decide) (by decide) (fun h => absurd h (by decide)) (fun _ => ?_)
      refine x_iload_n (pc := 34) dX11_rests_34 (List.Mem.tail _ (List.Mem.tail _ (List.Mem.head _))) ?_
      refine z_i2l (pc := 35) dX11_rests_35 (by omega) (by omega) ?_
      refine z_lconst (pc := 36) 0 dX11_rests_36 rfl ?_
      refine z_ldc2_w (pc := 37) 4 dX11_rests_37 cl_X11_361 (by decide) ?_
      refine z_callSbp (pc := 40) (i := mX11_within) (S := []) [.long (zL (m)), .long (zL (0)), .long (zL (4))] dX11_rests_40 ml_X11_152 ok_X11_within rfl (Or.inr rfl) (Nat.le_of_ble_eq_true rfl) (c_X11_within (d := d + 1) (v := m) (lo := 0) (hi := 4) (v1 := (by omega)) (v2 := (by omega)) (lo1 := (by omega)) (lo2 := (by omega)) (hi1 := (by omega)) (hi2 := (by omega)) (ok := ok7)) (fun hc12 ok11 => ?_) (fun hc12 ok11 => ?_)
      · skip
        refine z_if_ne (pc := 43) (tgt := 53) dX11_rests_43 (by decide) (by decide) (by decide) (fun _ => ?_) (fun h => absurd h (by decide))
        refine z_iconst (pc := 53) dX11_rests_53 ?_
        refine x_istore (pc := 54) dX11_rests_54 (Nat.le_of_ble_eq_true rfl) ?_
        show Ev _ _ _ _ _ [(4, .int (zN (0))), (0, .ref 0), (1, .int (zN (k))), (2, .int (zN (m))), (3, .int (zN (what)))] _ _
        refine z_iconst (pc := 56) dX11_rests_56 ?_
        refine x_istore (pc := 57) dX11_rests_57 (Nat.le_of_ble_eq_true rfl) ?_
        show Ev _ _ _ _ _ [(5, .int (zN ((-1)))), (4, .int (zN (0))), (0, .ref 0), (1, .int (zN (k))), (2, .int (zN (m))), (3, .int (zN (what)))] _ _
        refine z_iconst (pc := 59) dX11_rests_59 ?_
        refine x_istore (pc := 60) dX11_rests_60 (Nat.le_of_ble_eq_true rfl) ?_
        show Ev _ _ _ _ _ [(6, .int (zN (0))), (5, .int (zN ((-1)))), (4, .int (zN (0))), (0, .ref 0), (1, .int (zN (k))), (2, .int (zN (m))), (3, .int (zN (what)))] _ _
        have lp62 : ∀ (nF : Nat) (i : Nat), ((i : Int) ≤ k + 1) → k.toNat + 1 - i < nF → Ev zX mX11_rests (EvC zX (d + 2)) (zPi (fun (r : Int) (H1 : ZH) => r = (S_rests (H.1 2) k m what).1 ∧ H1 = bumpM (S_rests (H.1 2) k m what).2 H)) 62 [(0, .ref 0), (1, .int (zN (k))), (2, .int (zN (m))), (3, .int (zN (what))), (4, .int (zN ((rout (H.1 2) k m i).1))), (5, .int (zN ((rout (H.1 2) k m i).2))), (6, .int (zN ((i : Int))))] [] (eh H) := by
          intro nF
          induction nF with
          | zero => intro i hi hm; exact absurd hm (Nat.not_lt_zero _)
          | succ nF ih62 =>
            intro i hi hm
            have ro := rout_ok (A := H.1 2) (k := k) (m := m) (by omega) i (by omega)
            have ro1 := ro.1
            have ro2 := ro.2
            refine x_iload (pc := 62) dX11_rests_62 (List.Mem.tail _ (List.Mem.tail _ (List.Mem.tail _ (List.Mem.tail _ (List.Mem.tail _ (List.Mem.tail _ (List.Mem.head _))))))) ?_
            refine x_iload_n (pc := 64) dX11_rests_64 (List.Mem.tail _ (List.Mem.head _)) ?_
            refine z_icmp_gt (pc := 65) (tgt := 142) dX11_rests_65 (by decide) (by omega) (by omega) (by omega) (by omega) (fun hb14 => ?_) (fun hb14 => ?_)
            · skip
              refine x_iload_n (pc := 142) dX11_rests_142 (List.Mem.tail _ (List.Mem.tail _ (List.Mem.tail _ (List.Mem.head _)))) ?_
              refine z_if_ne (pc := 143) (tgt := 151) dX11_rests_143 (by decide) (by omega) (by omega) (fun hb15 => ?_) (fun hb15 => ?_)
              · skip
                refine x_iload (pc := 151) dX11_rests_151 (List.Mem.tail _ (List.Mem.tail _ (List.Mem.tail _ (List.Mem.tail _ (List.Mem.tail _ (List.Mem.head _)))))) ?_
                refine z_ireturn (pc := 153) dX11_rests_153 rfl (Or.inl rfl) ok11 (by omega) (by omega) ?_
                have ei : i = k.toNat + 1 := by omega
                have e : S_rests (H.1 2) k m what = ((if what = 0 then (rout (H.1 2) k m (k.toNat + 1)).1 else (rout (H.1 2) k m (k.toNat + 1)).2), 6) := by unfold S_rests; rw [if_pos (by omega), if_pos (by omega)]
                rw [e]
                rw [← ei]
                refine ⟨?_, rfl⟩
                first | exact (if_pos (by omega)).symm | exact (if_neg (by omega)).symm
              · skip
                refine x_iload (pc := 146) dX11_rests_146 (List.Mem.tail _ (List.Mem.tail _ (List.Mem.tail _ (List.Mem.tail _ (List.Mem.head _))))) ?_
                refine x_goto (pc := 148) (tgt := 153) dX11_rests_148 (by decide) ?_
                refine z_ireturn (pc := 153) dX11_rests_153 rfl (Or.inl rfl) ok11 (by omega) (by omega) ?_
                have ei : i = k.toNat + 1 := by omega
                have e : S_rests (H.1 2) k m what = ((if what = 0 then (rout (H.1 2) k m (k.toNat + 1)).1 else (rout (H.1 2) k m (k.toNat + 1)).2), 6) := by unfold S_rests; rw [if_pos (by omega), if_pos (by omega)]
                rw [e]
                rw [← ei]
                refine ⟨?_, rfl⟩
                first | exact (if_pos (by omega)).symm | exact (if_neg (by omega)).symm
            · skip
              refine z_iconst (pc := 68) dX11_rests_68 ?_
              refine x_istore (pc := 69) dX11_rests_69 (Nat.le_of_ble_eq_true rfl) ?_
              show Ev _ _ _ _ _ [(7, .int (zN (0))), (0, .ref 0), (1, .int (zN (k))), (2, .int (zN (m))), (3, .int (zN (what))), (4, .int (zN ((rout (H.1 2) k m i).1))), (5, .int (zN ((rout (H.1 2) k m i).2))), (6, .int (zN ((i : Int))))] _ _
              have lp71 : ∀ (nF : Nat) (j : Nat), ((j : Int) ≤ m + 1) → m.toNat + 1 - j < nF → Ev zX mX11_rests (EvC zX (d + 2)) (zPi (fun (r : Int) (H1 : ZH) => r = (S_rests (H.1 2) k m what).1 ∧ H1 = bumpM (S_rests (H.1 2) k m what).2 H)) 71 [(0, .ref 0), (1, .int (zN (k))), (2, .int (zN (m))), (3, .int (zN (what))), (4, .int (zN ((rin (H.1 2) k m i j (rout (H.1 2) k m i)).1))), (5, .int (zN ((rin (H.1 2) k m i j (rout (H.1 2) k m i)).2))), (6, .int (zN ((i : Int)))), (7, .int (zN ((j : Int))))] [] (eh H) := by
                intro nF
                induction nF with
                | zero => intro j hj hm; exact absurd hm (Nat.not_lt_zero _)
                | succ nF ih71 =>
                  intro j hj hm
                  have ri := rin_ok (A := H.1 2) (k := k) (m := m) ro (i := i) (by omega) j (by omega)
                  have ri1 := ri.1
                  have ri2 := ri.2
                  refine x_iload (pc := 71) dX11_rests_71 (List.Mem.tail _ (List.Mem.tail _ (List.Mem.tail _ (List.Mem.tail _ (List.Mem.tail _ (List.Mem.tail _ (List.Mem.tail _ (List.Mem.head _)))))))) ?_
                  refine x_iload_n (pc := 73) dX11_rests_73 (List.Mem.tail _ (List.Mem.tail _ (List.Mem.head _))) ?_
                  refine z_icmp_gt (pc := 74) (tgt := 136) dX11_rests_74 (by decide) (by omega) (by omega) (by omega) (by omega) (fun hb16 => ?_) (fun hb16 => ?_)
                  · skip
                    refine z_iinc (pc := 136) dX11_rests_136 (List.Mem.tail _ (List.Mem.tail _ (List.Mem.tail _ (List.Mem.tail _ (List.Mem.tail _ (List.Mem.tail _ (List.Mem.head _))))))) (Nat.le_of_ble_eq_true rfl) ?_
                    show Ev _ _ _ _ _ [(6, .int (zN ((i : Int) + 1))), (0, .ref 0), (1, .int (zN (k))), (2, .int (zN (m))), (3, .int (zN (what))), (4, .int (zN ((rin (H.1 2) k m i j (rout (H.1 2) k m i)).1))), (5, .int (zN ((rin (H.1 2) k m i j (rout (H.1 2) k m i)).2))), (7, .int (zN ((j : Int))))] _ _
                    refine x_goto (pc := 139) (tgt := 62) dX11_rests_139 (by decide) ?_
                    refine x_weaken (L1 := [(0, .ref 0), (1, .int (zN (k))), (2, .int (zN (m))), (3, .int (zN (what))), (4, .int (zN ((rout (H.1 2) k m (i + 1)).1))), (5, .int (zN ((rout (H.1 2) k m (i + 1)).2))), (6, .int (zN ((((i + 1) : Nat) : Int))))]) (List.forall_mem_cons.mpr ⟨(List.Mem.tail _ (List.Mem.head _)), (List.forall_mem_cons.mpr ⟨(List.Mem.tail _ (List.Mem.tail _ (List.Mem.head _))), (List.forall_mem_cons.mpr ⟨(List.Mem.tail _ (List.Mem.tail _ (List.Mem.tail _ (List.Mem.head _)))), (List.forall_mem_cons.mpr ⟨(List.Mem.tail _ (List.Mem.tail _ (List.Mem.tail _ (List.Mem.tail _ (List.Mem.head _))))), (List.forall_mem_cons.mpr ⟨(mem_ci (by rw [show j = m.toNat + 1 by omega]; rfl) (List.Mem.tail _ (List.Mem.tail _ (List.Mem.tail _ (List.Mem.tail _ (List.Mem.tail _ (List.Mem.head _))))))), (List.forall_mem_cons.mpr ⟨(mem_ci (by rw [show j = m.toNat + 1 by omega]; rfl) (List.Mem.tail _ (List.Mem.tail _ (List.Mem.tail _ (List.Mem.tail _ (List.Mem.tail _ (List.Mem.tail _ (List.Mem.head _)))))))), (List.forall_mem_cons.mpr ⟨(mem_ci (by omega) (List.Mem.head _)), (fun _ h => absurd h List.not_mem_nil)⟩)⟩)⟩)⟩)⟩)⟩)⟩) ?_
                    exact ih62 ((i + 1)) (by first | assumption | omega) (by omega)
                  · skip
                    refine x_aload_n (pc := 77) dX11_rests_77 (List.Mem.head _) ?_
                    refine z_iconst (pc := 78) dX11_rests_78 ?_
                    refine x_iload (pc := 79) dX11_rests_79 (List.Mem.tail _ (List.Mem.tail _ (List.Mem.tail _ (List.Mem.tail _ (List.Mem.tail _ (List.Mem.tail _ (List.Mem.head _))))))) ?_
                    refine x_iload_n (pc := 81) dX11_rests_81 (List.Mem.tail _ (List.Mem.head _)) ?_
                    refine x_iload (pc := 82) dX11_rests_82 (List.Mem.tail _ (List.Mem.tail _ (List.Mem.tail _ (List.Mem.tail _ (List.Mem.tail _ (List.Mem.tail _ (List.Mem.tail _ (List.Mem.head _)))))))) ?_
                    refine z_callVbp (pc := 84) (i := mX11_isRest) (S := []) [.int (zN (0)), .int (zN ((i : Int))), .int (zN (k)), .int (zN ((j : Int)))] dX11_rests_84 ml_X11_373 ok_X11_isRest rfl sh_0 rfl (Or.inr rfl) (Nat.le_of_ble_eq_true rfl) (c_X11_isRest (d := d) (w := 0) (og := j) (hw := (by omega)) (hg := (by omega)) (g := ((i : Int))) (al := k) (g1 := (by omega)) (g2 := (by omega)) (al1 := (by omega)) (al2 := (by omega)) (ok := ok11) (wy := (by first | assumption | omega))) (fun hc19 ok18 => ?_) (fun hc19 ok18 => ?_)
                    · skip
                      refine z_if_eq (pc := 87) (tgt := 130) dX11_rests_87 (by decide) (by decide) (by decide) (fun h => absurd h (by decide)) (fun _ => ?_)
                      refine x_aload_n (pc := 90) dX11_rests_90 (List.Mem.head _) ?_
                      refine z_iconst (pc := 91) dX11_rests_91 ?_
                      refine x_iload (pc := 92) dX11_rests_92 (List.Mem.tail _ (List.Mem.tail _ (List.Mem.tail _ (List.Mem.tail _ (List.Mem.tail _ (List.Mem.tail _ (List.Mem.tail _ (List.Mem.head _)))))))) ?_
                      refine x_iload_n (pc := 94) dX11_rests_94 (List.Mem.tail _ (List.Mem.tail _ (List.Mem.head _))) ?_
                      refine x_iload (pc := 95) dX11_rests_95 (List.Mem.tail _ (List.Mem.tail _ (List.Mem.tail _ (List.Mem.tail _ (List.Mem.tail _ (List.Mem.tail _ (List.Mem.head _))))))) ?_
                      refine z_callVbp (pc := 97) (i := mX11_isRest) (S := []) [.int (zN (1)), .int (zN ((j : Int))), .int (zN (m)), .int (zN ((i : Int)))] dX11_rests_97 ml_X11_373 ok_X11_isRest rfl sh_0 rfl (Or.inr rfl) (Nat.le_of_ble_eq_true rfl) (c_X11_isRest (d := d) (w := 1) (og := i) (hw := (by omega)) (hg := (by omega)) (g := ((j : Int))) (al := m) (g1 := (by omega)) (g2 := (by omega)) (al1 := (by omega)) (al2 := (by omega)) (ok := ok18) (wy := (by first | assumption | omega))) (fun hc23 ok22 => ?_) (fun hc23 ok22 => ?_)
                      · skip
                        refine z_if_ne (pc := 100) (tgt := 106) dX11_rests_100 (by decide) (by decide) (by decide) (fun _ => ?_) (fun h => absurd h (by decide))
                        refine z_iinc (pc := 106) dX11_rests_106 (List.Mem.tail _ (List.Mem.tail _ (List.Mem.tail _ (List.Mem.tail _ (List.Mem.head _))))) (Nat.le_of_ble_eq_true rfl) ?_
                        show Ev _ _ _ _ _ [(4, .int (zN ((rin (H.1 2) k m i j (rout (H.1 2) k m i)).1 + 1))), (0, .ref 0), (1, .int (zN (k))), (2, .int (zN (m))), (3, .int (zN (what))), (5, .int (zN ((rin (H.1 2) k m i j (rout (H.1 2) k m i)).2))), (6, .int (zN ((i : Int)))), (7, .int (zN ((j : Int))))] _ _
                        refine x_iload (pc := 109) dX11_rests_109 (List.Mem.tail _ (List.Mem.tail _ (List.Mem.tail _ (List.Mem.tail _ (List.Mem.tail _ (List.Mem.head _)))))) ?_
                        refine z_iconst (pc := 111) dX11_rests_111 ?_
                        refine z_icmp_ne (pc := 112) (tgt := 126) dX11_rests_112 (by decide) (by omega) (by omega) (by decide) (by decide) (fun hb25 => ?_) (fun hb25 => ?_)
                        · skip
                          refine x_iload (pc := 126) dX11_rests_126 (List.Mem.tail _ (List.Mem.tail _ (List.Mem.tail _ (List.Mem.tail _ (List.Mem.tail _ (List.Mem.head _)))))) ?_
                          refine x_istore (pc := 128) dX11_rests_128 (Nat.le_of_ble_eq_true rfl) ?_
                          show Ev _ _ _ _ _ [(5, .int (zN ((rin (H.1 2) k m i j (rout (H.1 2) k m i)).2))), (4, .int (zN ((rin (H.1 2) k m i j (rout (H.1 2) k m i)).1 + 1))), (0, .ref 0), (1, .int (zN (k))), (2, .int (zN (m))), (3, .int (zN (what))), (6, .int (zN ((i : Int)))), (7, .int (zN ((j : Int))))] _ _
                          refine z_iinc (pc := 130) dX11_rests_130 (List.Mem.tail _ (List.Mem.tail _ (List.Mem.tail _ (List.Mem.tail _ (List.Mem.tail _ (List.Mem.tail _ (List.Mem.tail _ (List.Mem.head _)))))))) (Nat.le_of_ble_eq_true rfl) ?_
                          show Ev _ _ _ _ _ [(7, .int (zN ((j : Int) + 1))), (5, .int (zN ((rin (H.1 2) k m i j (rout (H.1 2) k m i)).2))), (4, .int (zN ((rin (H.1 2) k m i j (rout (H.1 2) k m i)).1 + 1))), (0, .ref 0), (1, .int (zN (k))), (2, .int (zN (m))), (3, .int (zN (what))), (6, .int (zN ((i : Int))))] _ _
                          refine x_goto (pc := 133) (tgt := 71) dX11_rests_133 (by decide) ?_
                          refine x_weaken (L1 := [(0, .ref 0), (1, .int (zN (k))), (2, .int (zN (m))), (3, .int (zN (what))), (4, .int (zN ((rin (H.1 2) k m i (j + 1) (rout (H.1 2) k m i)).1))), (5, .int (zN ((rin (H.1 2) k m i (j + 1) (rout (H.1 2) k m i)).2))), (6, .int (zN ((i : Int)))), (7, .int (zN ((((j + 1) : Nat) : Int))))]) (List.forall_mem_cons.mpr ⟨(List.Mem.tail _ (List.Mem.tail _ (List.Mem.tail _ (List.Mem.head _)))), (List.forall_mem_cons.mpr ⟨(List.Mem.tail _ (List.Mem.tail _ (List.Mem.tail _ (List.Mem.tail _ (List.Mem.head _))))), (List.forall_mem_cons.mpr ⟨(List.Mem.tail _ (List.Mem.tail _ (List.Mem.tail _ (List.Mem.tail _ (List.Mem.tail _ (List.Mem.head _)))))), (List.forall_mem_cons.mpr ⟨(List.Mem.tail _ (List.Mem.tail _ (List.Mem.tail _ (List.Mem.tail _ (List.Mem.tail _ (List.Mem.tail _ (List.Mem.head _))))))), (List.forall_mem_cons.mpr ⟨(mem_ci (by first | exact congrArg (fun q : Int × Int => q.1) (if_neg (fun q => absurd q.1 ‹_›)) | exact congrArg (fun q : Int × Int => q.1) (if_neg (fun q => absurd q.2 ‹_›)) | exact congrArg (fun q : Int × Int => q.1) (if_pos ⟨‹_›, ‹_›⟩) | exact (congrArg (fun q : Int × Int => q.1) (if_pos ⟨‹_›, ‹_›⟩)).trans (if_pos (by omega)) | exact (congrArg (fun q : Int × Int => q.1) (if_pos ⟨‹_›, ‹_›⟩)).trans (if_neg (by omega))) (List.Mem.tail _ (List.Mem.tail _ (List.Mem.head _)))), (List.forall_mem_cons.mpr ⟨(mem_ci (by first | exact congrArg (fun q : Int × Int => q.2) (if_neg (fun q => absurd q.1 ‹_›)) | exact congrArg (fun q : Int × Int => q.2) (if_neg (fun q => absurd q.2 ‹_›)) | exact congrArg (fun q : Int × Int => q.2) (if_pos ⟨‹_›, ‹_›⟩) | exact (congrArg (fun q : Int × Int => q.2) (if_pos ⟨‹_›, ‹_›⟩)).trans (if_pos (by omega)) | exact (congrArg (fun q : Int × Int => q.2) (if_pos ⟨‹_›, ‹_›⟩)).trans (if_neg (by omega))) (List.Mem.tail _ (List.Mem.head _))), (List.forall_mem_cons.mpr ⟨(List.Mem.tail _ (List.Mem.tail _ (List.Mem.tail _ (List.Mem.tail _ (List.Mem.tail _ (List.Mem.tail _ (List.Mem.tail _ (List.Mem.head _)))))))), (List.forall_mem_cons.mpr ⟨(mem_ci (by omega) (List.Mem.head _)), (fun _ h => absurd h List.not_mem_nil)⟩)⟩)⟩)⟩)⟩)⟩)⟩)⟩) ?_
                          exact ih71 ((j + 1)) (by first | assumption | omega) (by omega)
                        · skip
                          refine z_bipush (pc := 115) dX11_rests_115 bp_10 ?_
                          refine x_iload (pc := 117) dX11_rests_117 (List.Mem.tail _ (List.Mem.tail _ (List.Mem.tail _ (List.Mem.tail _ (List.Mem.tail _ (List.Mem.tail _ (List.Mem.head _))))))) ?_
                          refine z_imul (pc := 119) dX11_rests_119 ?_
                          refine x_iload (pc := 120) dX11_rests_120 (List.Mem.tail _ (List.Mem.tail _ (List.Mem.tail _ (List.Mem.tail _ (List.Mem.tail _ (List.Mem.tail _ (List.Mem.tail _ (List.Mem.head _)))))))) ?_
                          refine z_iadd (pc := 122) dX11_rests_122 ?_
                          refine x_goto (pc := 123) (tgt := 128) dX11_rests_123 (by decide) ?_
                          refine x_istore (pc := 128) dX11_rests_128 (Nat.le_of_ble_eq_true rfl) ?_
                          show Ev _ _ _ _ _ [(5, .int (zN (((10 * (i : Int)) + (j : Int))))), (4, .int (zN ((rin (H.1 2) k m i j (rout (H.1 2) k m i)).1 + 1))), (0, .ref 0), (1, .int (zN (k))), (2, .int (zN (m))), (3, .int (zN (what))), (6, .int (zN ((i : Int)))), (7, .int (zN ((j : Int))))] _ _
                          refine z_iinc (pc := 130) dX11_rests_130 (List.Mem.tail _ (List.Mem.tail _ (List.Mem.tail _ (List.Mem.tail _ (List.Mem.tail _ (List.Mem.tail _ (List.Mem.tail _ (List.Mem.head _)))))))) (Nat.le_of_ble_eq_true rfl) ?_
                          show Ev _ _ _ _ _ [(7, .int (zN ((j : Int) + 1))), (5, .int (zN (((10 * (i : Int)) + (j : Int))))), (4, .int (zN ((rin (H.1 2) k m i j (rout (H.1 2) k m i)).1 + 1))), (0, .ref 0), (1, .int (zN (k))), (2, .int (zN (m))), (3, .int (zN (what))), (6, .int (zN ((i : Int))))] _ _
                          refine x_goto (pc := 133) (tgt := 71) dX11_rests_133 (by decide) ?_
                          refine x_weaken (L1 := [(0, .ref 0), (1, .int (zN (k))), (2, .int (zN (m))), (3, .int (zN (what))), (4, .int (zN ((rin (H.1 2) k m i (j + 1) (rout (H.1 2) k m i)).1))), (5, .int (zN ((rin (H.1 2) k m i (j + 1) (rout (H.1 2) k m i)).2))), (6, .int (zN ((i : Int)))), (7, .int (zN ((((j + 1) : Nat) : Int))))]) (List.forall_mem_cons.mpr ⟨(List.Mem.tail _ (List.Mem.tail _ (List.Mem.tail _ (List.Mem.head _)))), (List.forall_mem_cons.mpr ⟨(List.Mem.tail _ (List.Mem.tail _ (List.Mem.tail _ (List.Mem.tail _ (List.Mem.head _))))), (List.forall_mem_cons.mpr ⟨(List.Mem.tail _ (List.Mem.tail _ (List.Mem.tail _ (List.Mem.tail _ (List.Mem.tail _ (List.Mem.head _)))))), (List.forall_mem_cons.mpr ⟨(List.Mem.tail _ (List.Mem.tail _ (List.Mem.tail _ (List.Mem.tail _ (List.Mem.tail _ (List.Mem.tail _ (List.Mem.head _))))))), (List.forall_mem_cons.mpr ⟨(mem_ci (by first | exact congrArg (fun q : Int × Int => q.1) (if_neg (fun q => absurd q.1 ‹_›)) | exact congrArg (fun q : Int × Int => q.1) (if_neg (fun q => absurd q.2 ‹_›)) | exact congrArg (fun q : Int × Int => q.1) (if_pos ⟨‹_›, ‹_›⟩) | exact (congrArg (fun q : Int × Int => q.1) (if_pos ⟨‹_›, ‹_›⟩)).trans (if_pos (by omega)) | exact (congrArg (fun q : Int × Int => q.1) (if_pos ⟨‹_›, ‹_›⟩)).trans (if_neg (by omega))) (List.Mem.tail _ (List.Mem.tail _ (List.Mem.head _)))), (List.forall_mem_cons.mpr ⟨(mem_ci (by first | exact congrArg (fun q : Int × Int => q.2) (if_neg (fun q => absurd q.1 ‹_›)) | exact congrArg (fun q : Int × Int => q.2) (if_neg (fun q => absurd q.2 ‹_›)) | exact congrArg (fun q : Int × Int => q.2) (if_pos ⟨‹_›, ‹_›⟩) | exact (congrArg (fun q : Int × Int => q.2) (if_pos ⟨‹_›, ‹_›⟩)).trans (if_pos (by omega)) | exact (congrArg (fun q : Int × Int => q.2) (if_pos ⟨‹_›, ‹_›⟩)).trans (if_neg (by omega))) (List.Mem.tail _ (List.Mem.head _))), (List.forall_mem_cons.mpr ⟨(List.Mem.tail _ (List.Mem.tail _ (List.Mem.tail _ (List.Mem.tail _ (List.Mem.tail _ (List.Mem.tail _ (List.Mem.tail _ (List.Mem.head _)))))))), (List.forall_mem_cons.mpr ⟨(mem_ci (by omega) (List.Mem.head _)), (fun _ h => absurd h List.not_mem_nil)⟩)⟩)⟩)⟩)⟩)⟩)⟩)⟩) ?_
                          exact ih71 ((j + 1)) (by first | assumption | omega) (by omega)
                      · skip
                        refine z_if_ne (pc := 100) (tgt := 106) dX11_rests_100 (by decide) (by decide) (by decide) (fun h => absurd h (by decide)) (fun _ => ?_)
                        refine x_goto (pc := 103) (tgt := 130) dX11_rests_103 (by decide) ?_
                        refine z_iinc (pc := 130) dX11_rests_130 (List.Mem.tail _ (List.Mem.tail _ (List.Mem.tail _ (List.Mem.tail _ (List.Mem.tail _ (List.Mem.tail _ (List.Mem.tail _ (List.Mem.head _)))))))) (Nat.le_of_ble_eq_true rfl) ?_
                        show Ev _ _ _ _ _ [(7, .int (zN ((j : Int) + 1))), (0, .ref 0), (1, .int (zN (k))), (2, .int (zN (m))), (3, .int (zN (what))), (4, .int (zN ((rin (H.1 2) k m i j (rout (H.1 2) k m i)).1))), (5, .int (zN ((rin (H.1 2) k m i j (rout (H.1 2) k m i)).2))), (6, .int (zN ((i : Int))))] _ _
                        refine x_goto (pc := 133) (tgt := 71) dX11_rests_133 (by decide) ?_
                        refine x_weaken (L1 := [(0, .ref 0), (1, .int (zN (k))), (2, .int (zN (m))), (3, .int (zN (what))), (4, .int (zN ((rin (H.1 2) k m i (j + 1) (rout (H.1 2) k m i)).1))), (5, .int (zN ((rin (H.1 2) k m i (j + 1) (rout (H.1 2) k m i)).2))), (6, .int (zN ((i : Int)))), (7, .int (zN ((((j + 1) : Nat) : Int))))]) (List.forall_mem_cons.mpr ⟨(List.Mem.tail _ (List.Mem.head _)), (List.forall_mem_cons.mpr ⟨(List.Mem.tail _ (List.Mem.tail _ (List.Mem.head _))), (List.forall_mem_cons.mpr ⟨(List.Mem.tail _ (List.Mem.tail _ (List.Mem.tail _ (List.Mem.head _)))), (List.forall_mem_cons.mpr ⟨(List.Mem.tail _ (List.Mem.tail _ (List.Mem.tail _ (List.Mem.tail _ (List.Mem.head _))))), (List.forall_mem_cons.mpr ⟨(mem_ci (by first | exact congrArg (fun q : Int × Int => q.1) (if_neg (fun q => absurd q.1 ‹_›)) | exact congrArg (fun q : Int × Int => q.1) (if_neg (fun q => absurd q.2 ‹_›)) | exact congrArg (fun q : Int × Int => q.1) (if_pos ⟨‹_›, ‹_›⟩) | exact (congrArg (fun q : Int × Int => q.1) (if_pos ⟨‹_›, ‹_›⟩)).trans (if_pos (by omega)) | exact (congrArg (fun q : Int × Int => q.1) (if_pos ⟨‹_›, ‹_›⟩)).trans (if_neg (by omega))) (List.Mem.tail _ (List.Mem.tail _ (List.Mem.tail _ (List.Mem.tail _ (List.Mem.tail _ (List.Mem.head _))))))), (List.forall_mem_cons.mpr ⟨(mem_ci (by first | exact congrArg (fun q : Int × Int => q.2) (if_neg (fun q => absurd q.1 ‹_›)) | exact congrArg (fun q : Int × Int => q.2) (if_neg (fun q => absurd q.2 ‹_›)) | exact congrArg (fun q : Int × Int => q.2) (if_pos ⟨‹_›, ‹_›⟩) | exact (congrArg (fun q : Int × Int => q.2) (if_pos ⟨‹_›, ‹_›⟩)).trans (if_pos (by omega)) | exact (congrArg (fun q : Int × Int => q.2) (if_pos ⟨‹_›, ‹_›⟩)).trans (if_neg (by omega))) (List.Mem.tail _ (List.Mem.tail _ (List.Mem.tail _ (List.Mem.tail _ (List.Mem.tail _ (List.Mem.tail _ (List.Mem.head _)))))))), (List.forall_mem_cons.mpr ⟨(List.Mem.tail _ (List.Mem.tail _ (List.Mem.tail _ (List.Mem.tail _ (List.Mem.tail _ (List.Mem.tail _ (List.Mem.tail _ (List.Mem.head _)))))))), (List.forall_mem_cons.mpr ⟨(mem_ci (by omega) (List.Mem.head _)), (fun _ h => absurd h List.not_mem_nil)⟩)⟩)⟩)⟩)⟩)⟩)⟩)⟩) ?_
                        exact ih71 ((j + 1)) (by first | assumption | omega) (by omega)
                    · skip
                      refine z_if_eq (pc := 87) (tgt := 130) dX11_rests_87 (by decide) (by decide) (by decide) (fun _ => ?_) (fun h => absurd h (by decide))
                      refine z_iinc (pc := 130) dX11_rests_130 (List.Mem.tail _ (List.Mem.tail _ (List.Mem.tail _ (List.Mem.tail _ (List.Mem.tail _ (List.Mem.tail _ (List.Mem.tail _ (List.Mem.head _)))))))) (Nat.le_of_ble_eq_true rfl) ?_
                      show Ev _ _ _ _ _ [(7, .int (zN ((j : Int) + 1))), (0, .ref 0), (1, .int (zN (k))), (2, .int (zN (m))), (3, .int (zN (what))), (4, .int (zN ((rin (H.1 2) k m i j (rout (H.1 2) k m i)).1))), (5, .int (zN ((rin (H.1 2) k m i j (rout (H.1 2) k m i)).2))), (6, .int (zN ((i : Int))))] _ _
                      refine x_goto (pc := 133) (tgt := 71) dX11_rests_133 (by decide) ?_
                      refine x_weaken (L1 := [(0, .ref 0), (1, .int (zN (k))), (2, .int (zN (m))), (3, .int (zN (what))), (4, .int (zN ((rin (H.1 2) k m i (j + 1) (rout (H.1 2) k m i)).1))), (5, .int (zN ((rin (H.1 2) k m i (j + 1) (rout (H.1 2) k m i)).2))), (6, .int (zN ((i : Int)))), (7, .int (zN ((((j + 1) : Nat) : Int))))]) (List.forall_mem_cons.mpr ⟨(List.Mem.tail _ (List.Mem.head _)), (List.forall_mem_cons.mpr ⟨(List.Mem.tail _ (List.Mem.tail _ (List.Mem.head _))), (List.forall_mem_cons.mpr ⟨(List.Mem.tail _ (List.Mem.tail _ (List.Mem.tail _ (List.Mem.head _)))), (List.forall_mem_cons.mpr ⟨(List.Mem.tail _ (List.Mem.tail _ (List.Mem.tail _ (List.Mem.tail _ (List.Mem.head _))))), (List.forall_mem_cons.mpr ⟨(mem_ci (by first | exact congrArg (fun q : Int × Int => q.1) (if_neg (fun q => absurd q.1 ‹_›)) | exact congrArg (fun q : Int × Int => q.1) (if_neg (fun q => absurd q.2 ‹_›)) | exact congrArg (fun q : Int × Int => q.1) (if_pos ⟨‹_›, ‹_›⟩) | exact (congrArg (fun q : Int × Int => q.1) (if_pos ⟨‹_›, ‹_›⟩)).trans (if_pos (by omega)) | exact (congrArg (fun q : Int × Int => q.1) (if_pos ⟨‹_›, ‹_›⟩)).trans (if_neg (by omega))) (List.Mem.tail _ (List.Mem.tail _ (List.Mem.tail _ (List.Mem.tail _ (List.Mem.tail _ (List.Mem.head _))))))), (List.forall_mem_cons.mpr ⟨(mem_ci (by first | exact congrArg (fun q : Int × Int => q.2) (if_neg (fun q => absurd q.1 ‹_›)) | exact congrArg (fun q : Int × Int => q.2) (if_neg (fun q => absurd q.2 ‹_›)) | exact congrArg (fun q : Int × Int => q.2) (if_pos ⟨‹_›, ‹_›⟩) | exact (congrArg (fun q : Int × Int => q.2) (if_pos ⟨‹_›, ‹_›⟩)).trans (if_pos (by omega)) | exact (congrArg (fun q : Int × Int => q.2) (if_pos ⟨‹_›, ‹_›⟩)).trans (if_neg (by omega))) (List.Mem.tail _ (List.Mem.tail _ (List.Mem.tail _ (List.Mem.tail _ (List.Mem.tail _ (List.Mem.tail _ (List.Mem.head _)))))))), (List.forall_mem_cons.mpr ⟨(List.Mem.tail _ (List.Mem.tail _ (List.Mem.tail _ (List.Mem.tail _ (List.Mem.tail _ (List.Mem.tail _ (List.Mem.tail _ (List.Mem.head _)))))))), (List.forall_mem_cons.mpr ⟨(mem_ci (by omega) (List.Mem.head _)), (fun _ h => absurd h List.not_mem_nil)⟩)⟩)⟩)⟩)⟩)⟩)⟩)⟩) ?_
                      exact ih71 ((j + 1)) (by first | assumption | omega) (by omega)
              refine x_weaken (L1 := [(0, .ref 0), (1, .int (zN (k))), (2, .int (zN (m))), (3, .int (zN (what))), (4, .int (zN ((rin (H.1 2) k m i 0 (rout (H.1 2) k m i)).1))), (5, .int (zN ((rin (H.1 2) k m i 0 (rout (H.1 2) k m i)).2))), (6, .int (zN ((i : Int)))), (7, .int (zN (((0 : Nat) : Int))))]) (List.forall_mem_cons.mpr ⟨(List.Mem.tail _ (List.Mem.head _)), (List.forall_mem_cons.mpr ⟨(List.Mem.tail _ (List.Mem.tail _ (List.Mem.head _))), (List.forall_mem_cons.mpr ⟨(List.Mem.tail _ (List.Mem.tail _ (List.Mem.tail _ (List.Mem.head _)))), (List.forall_mem_cons.mpr ⟨(List.Mem.tail _ (List.Mem.tail _ (List.Mem.tail _ (List.Mem.tail _ (List.Mem.head _))))), (List.forall_mem_cons.mpr ⟨(mem_ci (rfl) (List.Mem.tail _ (List.Mem.tail _ (List.Mem.tail _ (List.Mem.tail _ (List.Mem.tail _ (List.Mem.head _))))))), (List.forall_mem_cons.mpr ⟨(mem_ci (rfl) (List.Mem.tail _ (List.Mem.tail _ (List.Mem.tail _ (List.Mem.tail _ (List.Mem.tail _ (List.Mem.tail _ (List.Mem.head _)))))))), (List.forall_mem_cons.mpr ⟨(List.Mem.tail _ (List.Mem.tail _ (List.Mem.tail _ (List.Mem.tail _ (List.Mem.tail _ (List.Mem.tail _ (List.Mem.tail _ (List.Mem.head _)))))))), (List.forall_mem_cons.mpr ⟨(mem_ci (by omega) (List.Mem.head _)), (fun _ h => absurd h List.not_mem_nil)⟩)⟩)⟩)⟩)⟩)⟩)⟩)⟩) ?_
              exact lp71 (m.toNat + 1 - 0 + 1) (0) (by first | assumption | omega) (Nat.lt_succ_self _)
        refine x_weaken (L1 := [(0, .ref 0), (1, .int (zN (k))), (2, .int (zN (m))), (3, .int (zN (what))), (4, .int (zN ((rout (H.1 2) k m 0).1))), (5, .int (zN ((rout (H.1 2) k m 0).2))), (6, .int (zN (((0 : Nat) : Int))))]) (List.forall_mem_cons.mpr ⟨(List.Mem.tail _ (List.Mem.tail _ (List.Mem.tail _ (List.Mem.head _)))), (List.forall_mem_cons.mpr ⟨(List.Mem.tail _ (List.Mem.tail _ (List.Mem.tail _ (List.Mem.tail _ (List.Mem.head _))))), (List.forall_mem_cons.mpr ⟨(List.Mem.tail _ (List.Mem.tail _ (List.Mem.tail _ (List.Mem.tail _ (List.Mem.tail _ (List.Mem.head _)))))), (List.forall_mem_cons.mpr ⟨(List.Mem.tail _ (List.Mem.tail _ (List.Mem.tail _ (List.Mem.tail _ (List.Mem.tail _ (List.Mem.tail _ (List.Mem.head _))))))), (List.forall_mem_cons.mpr ⟨(mem_ci (rfl) (List.Mem.tail _ (List.Mem.tail _ (List.Mem.head _)))), (List.forall_mem_cons.mpr ⟨(mem_ci (rfl) (List.Mem.tail _ (List.Mem.head _))), (List.forall_mem_cons.mpr ⟨(mem_ci (by omega) (List.Mem.head _)), (fun _ h => absurd h List.not_mem_nil)⟩)⟩)⟩)⟩)⟩)⟩)⟩) ?_
        exact lp62 (k.toNat + 1 - 0 + 1) (0) (by first | assumption | omega) (Nat.lt_succ_self _)
      · skip
        refine z_if_ne (pc := 43) (tgt := 53) dX11_rests_43 (by decide) (by decide) (by decide) (fun h => absurd h (by decide)) (fun _ => ?_)
        refine x_aload_n (pc := 46) dX11_rests_46 (List.Mem.head _) ?_
        refine z_bipush (pc := 47) dX11_rests_47 bp_m3 ?_
        refine z_callVip (pc := 49) (i := mX11_no) (S := []) [.int (zN ((-3)))] dX11_rests_49 ml_X11_89 ok_X11_no rfl sh_0 rfl (Or.inl rfl) (Nat.le_of_ble_eq_true rfl) (c_X11_no (d := d + 1) (code := ((-3))) (code1 := (by omega)) (code2 := (by omega)) (ok := ok11) (cn := (by first | assumption | omega))) (fun r29a r29b ok30 => ?_)
        show Ev _ _ _ _ _ _ _ (eh (wI H 1 ((refIx ((-3)))) (H.1 1 (refIx ((-3))) + 1)))
        refine z_ireturn (pc := 52) dX11_rests_52 rfl (Or.inl rfl) ok30 (by omega) (by omega) ?_
        have e : S_rests (H.1 2) k m what = (-3, 1) := by unfold S_rests; rw [if_pos (by omega), if_neg (by omega)]
        rw [e]
        exact ⟨rfl, rfl⟩
    · skip
      refine z_if_eq (pc := 31) (tgt := 46) dX11_rests_31 (by decide) (by decide) (by decide) (fun _ => ?_) (fun h => absurd h (by decide))
      refine x_aload_n (pc := 46) dX11_rests_46 (List.Mem.head _) ?_
      refine z_bipush (pc := 47) dX11_rests_47 bp_m3 ?_
      refine z_callVip (pc := 49) (i := mX11_no) (S := []) [.int (zN ((-3)))] dX11_rests_49 ml_X11_89 ok_X11_no rfl sh_0 rfl (Or.inl rfl) (Nat.le_of_ble_eq_true rfl) (c_X11_no (d := d + 1) (code := ((-3))) (code1 := (by omega)) (code2 := (by omega)) (ok := ok7) (cn := (by first | assumption | omega))) (fun r32a r32b ok33 => ?_)
      show Ev _ _ _ _ _ _ _ (eh (wI H 1 ((refIx ((-3)))) (H.1 1 (refIx ((-3))) + 1)))
      refine z_ireturn (pc := 52) dX11_rests_52 rfl (Or.inl rfl) ok33 (by omega) (by omega) ?_
      have e : S_rests (H.1 2) k m what = (-3, 1) := by unfold S_rests; rw [if_pos (by omega), if_neg (by omega)]
      rw [e]
      exact ⟨rfl, rfl⟩
  · skip
    refine z_if_ne (pc := 12) (tgt := 22) dX11_rests_12 (by decide) (by decide) (by decide) (fun h => absurd h (by decide)) (fun _ => ?_)
    refine x_aload_n (pc := 15) dX11_rests_15 (List.Mem.head _) ?_
    refine z_bipush (pc := 16) dX11_rests_16 bp_m2 ?_
    refine z_callVip (pc := 18) (i := mX11_no) (S := []) [.int (zN ((-2)))] dX11_rests_18 ml_X11_89 ok_X11_no rfl sh_0 rfl (Or.inl rfl) (Nat.le_of_ble_eq_true rfl) (c_X11_no (d := d + 1) (code := ((-2))) (code1 := (by omega)) (code2 := (by omega)) (ok := ok3) (cn := (by first | assumption | omega))) (fun r35a r35b ok36 => ?_)
    show Ev _ _ _ _ _ _ _ (eh (wI H 1 ((refIx ((-2)))) (H.1 1 (refIx ((-2))) + 1)))
    refine z_ireturn (pc := 21) dX11_rests_21 rfl (Or.inl rfl) ok36 (by omega) (by omega) ?_
    have e : S_rests (H.1 2) k m what = (-2, 0) := by unfold S_rests; rw [if_neg (by omega)]
    rw [e]
    exact ⟨rfl, rfl⟩

theorem c_X10_status {d : Nat} {H : ZH} (ok : okZ H) {what : Int} (what1 : -2147483648 ≤ what) (what2 : what ≤ 2147483647) : EvC zX (d + 1) mX10_status [.ref 20, .int (zN (what))] (eh H) (zPi (fun (rz : Int) (Hz : ZH) => rz = (S_status (H.1 25) what) ∧ Hz = H)) := by
  show _ ∧ Ev zX mX10_status (EvC zX d) (zPi (fun (rz : Int) (Hz : ZH) => rz = (S_status (H.1 25) what) ∧ Hz = H)) 0 [(0, .ref 20), (1, .int (zN (what)))] [] (eh H)
  refine ⟨Nat.le_of_ble_eq_true rfl, ?_⟩
  refine x_iload_n (pc := 0) dX10_status_0 (List.Mem.tail _ (List.Mem.head _)) ?_
  refine z_if_lt (pc := 1) (tgt := 22) dX10_status_1 (by decide) (by omega) (by omega) (fun hb1 => ?_) (fun hb1 => ?_)
  · skip
    refine z_iconst (pc := 22) dX10_status_22 ?_
    refine z_ireturn (pc := 23) dX10_status_23 rfl (Or.inl rfl) ok (by decide) (by decide) ?_
    refine ⟨?_, rfl⟩
    unfold S_status
    first | exact (if_pos (by omega)).symm | exact (if_neg (by omega)).symm
  · skip
    refine x_iload_n (pc := 4) dX10_status_4 (List.Mem.tail _ (List.Mem.head _)) ?_
    refine x_aload_n (pc := 5) dX10_status_5 (List.Mem.head _) ?_
    refine z_getR (pc := 6) (k := 15) (r := 25) dX10_status_6 lf_X10_89 sh_20 rfl rf_20_15 ?_
    refine z_alen (pc := 9) dX10_status_9 sh_25 (by decide) ?_
    refine z_icmp_ge (pc := 10) (tgt := 22) dX10_status_10 (by decide) (by omega) (by omega) (by decide) (by decide) (fun hb2 => ?_) (fun hb2 => ?_)
    · skip
      refine z_iconst (pc := 22) dX10_status_22 ?_
      refine z_ireturn (pc := 23) dX10_status_23 rfl (Or.inl rfl) ok (by decide) (by decide) ?_
      refine ⟨?_, rfl⟩
      unfold S_status
      first | exact (if_pos (by omega)).symm | exact (if_neg (by omega)).symm
    · skip
      refine x_aload_n (pc := 13) dX10_status_13 (List.Mem.head _) ?_
      refine z_getR (pc := 14) (k := 15) (r := 25) dX10_status_14 lf_X10_89 sh_20 rfl rf_20_15 ?_
      refine x_iload_n (pc := 17) dX10_status_17 (List.Mem.tail _ (List.Mem.head _)) ?_
      have rd3 := ok.1 25 what.toNat
      refine z_iald (pc := 18) (j := what.toNat) (v := H.1 25 what.toNat) dX10_status_18 sh_25 (by omega) (by omega) (by decide) rfl ?_
      refine x_goto (pc := 19) (tgt := 23) dX10_status_19 (by decide) ?_
      refine z_ireturn (pc := 23) dX10_status_23 rfl (Or.inl rfl) ok (by omega) (by omega) ?_
      refine ⟨?_, rfl⟩
      unfold S_status
      first | exact (if_pos (by omega)).symm | exact (if_neg (by omega)).symm

theorem c_X11_status {d : Nat} {H : ZH} (ok : okZ H) {what : Int} (what1 : -2147483648 ≤ what) (what2 : what ≤ 2147483647) (th : H.1 0 0 = 0) : EvC zX (d + 2) mX11_status [.ref 0, .int (zN (what))] (eh H) (zPi (fun (rz : Int) (Hz : ZH) => rz = (S_status (H.1 1) what) ∧ Hz = H)) := by
  show _ ∧ Ev zX mX11_status (EvC zX (d + 1)) (zPi (fun (rz : Int) (Hz : ZH) => rz = (S_status (H.1 1) what) ∧ Hz = H)) 0 [(0, .ref 0), (1, .int (zN (what)))] [] (eh H)
  refine ⟨Nat.le_of_ble_eq_true rfl, ?_⟩
  refine x_aload_n (pc := 0) dX11_status_0 (List.Mem.head _) ?_
  refine z_iconst (pc := 1) dX11_status_1 ?_
  refine z_putI (pc := 2) (k := 0) dX11_status_2 lp_X11_1 sh_0 rfl ?_
  have ok1 := okI ok 0 0 (v := 0) (by decide) (by decide)
  rw [wI_same th]
  refine x_iload_n (pc := 5) dX11_status_5 (List.Mem.tail _ (List.Mem.head _)) ?_
  refine z_i2l (pc := 6) dX11_status_6 (by omega) (by omega) ?_
  refine z_lconst (pc := 7) 0 dX11_status_7 rfl ?_
  refine z_ldc2_w (pc := 8) 5 dX11_status_8 cl_X11_172 (by decide) ?_
  refine z_callSbp (pc := 11) (i := mX11_within) (S := []) [.long (zL (what)), .long (zL (0)), .long (zL (5))] dX11_status_11 ml_X11_152 ok_X11_within rfl (Or.inr rfl) (Nat.le_of_ble_eq_true rfl) (c_X11_within (d := d) (v := what) (lo := 0) (hi := 5) (v1 := (by omega)) (v2 := (by omega)) (lo1 := (by omega)) (lo2 := (by omega)) (hi1 := (by omega)) (hi2 := (by omega)) (ok := ok)) (fun hc4 ok3 => ?_) (fun hc4 ok3 => ?_)
  · skip
    refine z_if_eq (pc := 14) (tgt := 26) dX11_status_14 (by decide) (by decide) (by decide) (fun h => absurd h (by decide)) (fun _ => ?_)
    refine x_aload_n (pc := 17) dX11_status_17 (List.Mem.head _) ?_
    refine z_getR (pc := 18) (k := 1) (r := 1) dX11_status_18 lf_X11_7 sh_0 rfl rf_0_1 ?_
    refine x_iload_n (pc := 21) dX11_status_21 (List.Mem.tail _ (List.Mem.head _)) ?_
    have rd6 := ok3.1 1 what.toNat
    refine z_iald (pc := 22) (j := what.toNat) (v := H.1 1 what.toNat) dX11_status_22 sh_1 (by omega) (by omega) (by decide) rfl ?_
    refine x_goto (pc := 23) (tgt := 27) dX11_status_23 (by decide) ?_
    refine z_ireturn (pc := 27) dX11_status_27 rfl (Or.inl rfl) ok3 (by omega) (by omega) ?_
    refine ⟨?_, rfl⟩
    unfold S_status
    first | exact (if_pos (by omega)).symm | exact (if_neg (by omega)).symm
  · skip
    refine z_if_eq (pc := 14) (tgt := 26) dX11_status_14 (by decide) (by decide) (by decide) (fun _ => ?_) (fun h => absurd h (by decide))
    refine z_iconst (pc := 26) dX11_status_26 ?_
    refine z_ireturn (pc := 27) dX11_status_27 rfl (Or.inl rfl) ok3 (by decide) (by decide) ?_
    refine ⟨?_, rfl⟩
    unfold S_status
    first | exact (if_pos (by omega)).symm | exact (if_neg (by omega)).symm

theorem c_X10_fault {d : Nat} {H : ZH} (ok : okZ H) {what : Int} (what1 : -2147483648 ≤ what) (what2 : what ≤ 2147483647) : EvC zX (d + 1) mX10_fault [.ref 20, .int (zN (what))] (eh H) (zPi (fun (rz : Int) (Hz : ZH) => rz = (if what = 0 then H.1 28 2 else if what = 1 then H.1 28 3 else -1) ∧ Hz = H)) := by
  show _ ∧ Ev zX mX10_fault (EvC zX d) (zPi (fun (rz : Int) (Hz : ZH) => rz = (if what = 0 then H.1 28 2 else if what = 1 then H.1 28 3 else -1) ∧ Hz = H)) 0 [(0, .ref 20), (1, .int (zN (what)))] [] (eh H)
  refine ⟨Nat.le_of_ble_eq_true rfl, ?_⟩
  refine x_iload_n (pc := 0) dX10_fault_0 (List.Mem.tail _ (List.Mem.head _)) ?_
  refine z_if_ne (pc := 1) (tgt := 12) dX10_fault_1 (by decide) (by omega) (by omega) (fun hb1 => ?_) (fun hb1 => ?_)
  · skip
    refine x_iload_n (pc := 12) dX10_fault_12 (List.Mem.tail _ (List.Mem.head _)) ?_
    refine z_iconst (pc := 13) dX10_fault_13 ?_
    refine z_icmp_ne (pc := 14) (tgt := 27) dX10_fault_14 (by decide) (by omega) (by omega) (by decide) (by decide) (fun hb2 => ?_) (fun hb2 => ?_)
    · skip
      refine z_iconst (pc := 27) dX10_fault_27 ?_
      refine z_ireturn (pc := 28) dX10_fault_28 rfl (Or.inl rfl) ok (by decide) (by decide) ?_
      refine ⟨?_, rfl⟩
      (repeat' split) <;> omega
    · skip
      refine x_aload_n (pc := 17) dX10_fault_17 (List.Mem.head _) ?_
      refine z_getR (pc := 18) (k := 2) (r := 28) dX10_fault_18 lf_X10_16 sh_20 rfl rf_20_2 ?_
      have rd3 := ok.1 28 3
      refine z_getI (pc := 21) (k := 3) (v := H.1 28 3) dX10_fault_21 lf_X10_134 sh_28 rfl rfl ?_
      refine x_goto (pc := 24) (tgt := 28) dX10_fault_24 (by decide) ?_
      refine z_ireturn (pc := 28) dX10_fault_28 rfl (Or.inl rfl) ok (by omega) (by omega) ?_
      refine ⟨?_, rfl⟩
      (repeat' split) <;> omega
  · skip
    refine x_aload_n (pc := 4) dX10_fault_4 (List.Mem.head _) ?_
    refine z_getR (pc := 5) (k := 2) (r := 28) dX10_fault_5 lf_X10_16 sh_20 rfl rf_20_2 ?_
    have rd4 := ok.1 28 2
    refine z_getI (pc := 8) (k := 2) (v := H.1 28 2) dX10_fault_8 lf_X10_112 sh_28 rfl rfl ?_
    refine z_ireturn (pc := 11) dX10_fault_11 rfl (Or.inl rfl) ok (by omega) (by omega) ?_
    refine ⟨?_, rfl⟩
    (repeat' split) <;> omega

theorem c_X11_fault {d : Nat} {H : ZH} (ok : okZ H) {what : Int} (what1 : -2147483648 ≤ what) (what2 : what ≤ 2147483647) (th : H.1 0 0 = 0) : EvC zX (d + 1) mX11_fault [.ref 0, .int (zN (what))] (eh H) (zPi (fun (rz : Int) (Hz : ZH) => rz = (if what = 0 then H.1 0 16 else if what = 1 then H.1 0 17 else -1) ∧ Hz = H)) := by
  show _ ∧ Ev zX mX11_fault (EvC zX d) (zPi (fun (rz : Int) (Hz : ZH) => rz = (if what = 0 then H.1 0 16 else if what = 1 then H.1 0 17 else -1) ∧ Hz = H)) 0 [(0, .ref 0), (1, .int (zN (what)))] [] (eh H)
  refine ⟨Nat.le_of_ble_eq_true rfl, ?_⟩
  refine x_aload_n (pc := 0) dX11_fault_0 (List.Mem.head _) ?_
  refine z_iconst (pc := 1) dX11_fault_1 ?_
  refine z_putI (pc := 2) (k := 0) dX11_fault_2 lp_X11_1 sh_0 rfl ?_
  have ok1 := okI ok 0 0 (v := 0) (by decide) (by decide)
  rw [wI_same th]
  refine x_iload_n (pc := 5) dX11_fault_5 (List.Mem.tail _ (List.Mem.head _)) ?_
  refine z_if_ne (pc := 6) (tgt := 16) dX11_fault_6 (by decide) (by omega) (by omega) (fun hb2 => ?_) (fun hb2 => ?_)
  · skip
    refine x_iload_n (pc := 16) dX11_fault_16 (List.Mem.tail _ (List.Mem.head _)) ?_
    refine z_iconst (pc := 17) dX11_fault_17 ?_
    refine z_icmp_ne (pc := 18) (tgt := 28) dX11_fault_18 (by decide) (by omega) (by omega) (by decide) (by decide) (fun hb3 => ?_) (fun hb3 => ?_)
    · skip
      refine z_iconst (pc := 28) dX11_fault_28 ?_
      refine z_ireturn (pc := 29) dX11_fault_29 rfl (Or.inl rfl) ok (by decide) (by decide) ?_
      refine ⟨?_, rfl⟩
      (repeat' split) <;> omega
    · skip
      refine x_aload_n (pc := 21) dX11_fault_21 (List.Mem.head _) ?_
      have rd4 := ok.1 0 17
      refine z_getI (pc := 22) (k := 17) (v := H.1 0 17) dX11_fault_22 lf_X11_30 sh_0 rfl rfl ?_
      refine x_goto (pc := 25) (tgt := 29) dX11_fault_25 (by decide) ?_
      refine z_ireturn (pc := 29) dX11_fault_29 rfl (Or.inl rfl) ok (by omega) (by omega) ?_
      refine ⟨?_, rfl⟩
      (repeat' split) <;> omega
  · skip
    refine x_aload_n (pc := 9) dX11_fault_9 (List.Mem.head _) ?_
    have rd5 := ok.1 0 16
    refine z_getI (pc := 10) (k := 16) (v := H.1 0 16) dX11_fault_10 lf_X11_207 sh_0 rfl rfl ?_
    refine x_goto (pc := 13) (tgt := 29) dX11_fault_13 (by decide) ?_
    refine z_ireturn (pc := 29) dX11_fault_29 rfl (Or.inl rfl) ok (by omega) (by omega) ?_
    refine ⟨?_, rfl⟩
    (repeat' split) <;> omega

theorem c_X11_rate {d : Nat} {H : ZH} (ok : okZ H) {w what : Int} (w01 : w = 0 ∨ w = 1) (what1 : -2147483648 ≤ what) (what2 : what ≤ 2147483647) (cm : cntOK H 1) (th : H.1 0 0 = 0) (wp : WFP (H.1 2)) : EvC zX (d + 2) mX11_rate [.ref 0, .int (zN (w)), .int (zN (what))] (eh H) (zPi (fun (r : Int) (H1 : ZH) => r = (S_rate (H.1 2) w what).1 ∧ H1 = bumpM (S_rate (H.1 2) w what).2 H)) := by
  show _ ∧ Ev zX mX11_rate (EvC zX (d + 1)) (zPi (fun (r : Int) (H1 : ZH) => r = (S_rate (H.1 2) w what).1 ∧ H1 = bumpM (S_rate (H.1 2) w what).2 H)) 0 [(0, .ref 0), (1, .int (zN (w))), (2, .int (zN (what)))] [] (eh H)
  refine ⟨Nat.le_of_ble_eq_true rfl, ?_⟩
  have wpx := wp
  obtain ⟨wpA, wpB, wpC⟩ := wpx
  refine x_aload_n (pc := 0) dX11_rate_0 (List.Mem.head _) ?_
  refine z_iconst (pc := 1) dX11_rate_1 ?_
  refine z_putI (pc := 2) (k := 0) dX11_rate_2 lp_X11_1 sh_0 rfl ?_
  have ok1 := okI ok 0 0 (v := 0) (by decide) (by decide)
  rw [wI_same th]
  refine x_iload_n (pc := 5) dX11_rate_5 (List.Mem.tail _ (List.Mem.tail _ (List.Mem.head _))) ?_
  refine z_i2l (pc := 6) dX11_rate_6 (by omega) (by omega) ?_
  refine z_lconst (pc := 7) 0 dX11_rate_7 rfl ?_
  refine z_lconst (pc := 8) 1 dX11_rate_8 rfl ?_
  refine z_callSbp (pc := 9) (i := mX11_within) (S := []) [.long (zL (what)), .long (zL (0)), .long (zL (1))] dX11_rate_9 ml_X11_152 ok_X11_within rfl (Or.inr rfl) (Nat.le_of_ble_eq_true rfl) (c_X11_within (d := d) (v := what) (lo := 0) (hi := 1) (v1 := (by omega)) (v2 := (by omega)) (lo1 := (by omega)) (lo2 := (by omega)) (hi1 := (by omega)) (hi2 := (by omega)) (ok := ok)) (fun hc4 ok3 => ?_) (fun hc4 ok3 => ?_)
  · skip
    refine z_if_ne (pc := 12) (tgt := 22) dX11_rate_12 (by decide) (by decide) (by decide) (fun _ => ?_) (fun h => absurd h (by decide))
    refine x_iload_n (pc := 22) dX11_rate_22 (List.Mem.tail _ (List.Mem.head _)) ?_
    refine z_if_eq (pc := 23) (tgt := 30) dX11_rate_23 (by decide) (by omega) (by omega) (fun hb6 => ?_) (fun hb6 => ?_)
    · skip
      have ew : w = 0 := by omega
      have sm := psums12 wp 0
      have sw := psums wp 0
      unfold rhurt rcros at sm
      have gg : 0 < (psum (H.1 2) 490 0 (H.1 2 477).toNat + psum (H.1 2) 502 0 (H.1 2 477).toNat) → _ := fun hz => And.intro (gcd_bd (a := (psum (H.1 2) 514 0 (H.1 2 477).toNat + psum (H.1 2) 526 0 (H.1 2 477).toNat)) (b := (psum (H.1 2) 490 0 (H.1 2 477).toNat + psum (H.1 2) 502 0 (H.1 2 477).toNat)) hz) (And.intro (gcd_div_bd (a := (psum (H.1 2) 514 0 (H.1 2 477).toNat + psum (H.1 2) 526 0 (H.1 2 477).toNat)) (b := (psum (H.1 2) 490 0 (H.1 2 477).toNat + psum (H.1 2) 502 0 (H.1 2 477).toNat)) (x := (psum (H.1 2) 514 0 (H.1 2 477).toNat + psum (H.1 2) 526 0 (H.1 2 477).toNat)) (by omega) (by omega) hz) (gcd_div_bd (a := (psum (H.1 2) 514 0 (H.1 2 477).toNat + psum (H.1 2) 526 0 (H.1 2 477).toNat)) (b := (psum (H.1 2) 490 0 (H.1 2 477).toNat + psum (H.1 2) 502 0 (H.1 2 477).toNat)) (x := (psum (H.1 2) 490 0 (H.1 2 477).toNat + psum (H.1 2) 502 0 (H.1 2 477).toNat)) (by omega) (by omega) hz))
      refine z_iconst (pc := 30) dX11_rate_30 ?_
      refine x_istore_n (pc := 31) dX11_rate_31 (Nat.le_of_ble_eq_true rfl) ?_
      show Ev _ _ _ _ _ [(3, .int (zN (0))), (0, .ref 0), (1, .int (zN (w))), (2, .int (zN (what)))] _ _
      refine x_aload_n (pc := 32) dX11_rate_32 (List.Mem.tail _ (List.Mem.head _)) ?_
      refine z_sipush (pc := 33) dX11_rate_33 sp_514 ?_
      refine x_iload_n (pc := 36) dX11_rate_36 (List.Mem.head _) ?_
      refine z_callVlp (pc := 37) (i := mX11_sumOf) (S := []) [.int (zN (514)), .int (zN (0))] dX11_rate_37 ml_X11_321 ok_X11_sumOf rfl sh_0 rfl rfl (Nat.le_of_ble_eq_true rfl) (c_X11_sumOf (d := d) (fr := 514) (f1 := (by omega)) (w := 0) (w01 := (by omega)) (ok := ok3) (wp := (by first | assumption | omega)) (hc := (fun p hp => by have := wpB p hp; omega))) (fun r7a r7b ok8 => ?_)
      refine x_aload_n (pc := 40) dX11_rate_40 (List.Mem.tail _ (List.Mem.head _)) ?_
      refine z_sipush (pc := 41) dX11_rate_41 sp_526 ?_
      refine x_iload_n (pc := 44) dX11_rate_44 (List.Mem.head _) ?_
      refine z_callVlp (pc := 45) (i := mX11_sumOf) (S := [.long (zL ((psum (H.1 2) 514 0 (H.1 2 477).toNat)))]) [.int (zN (526)), .int (zN (0))] dX11_rate_45 ml_X11_321 ok_X11_sumOf rfl sh_0 rfl rfl (Nat.le_of_ble_eq_true rfl) (c_X11_sumOf (d := d) (fr := 526) (f1 := (by omega)) (w := 0) (w01 := (by omega)) (ok := ok8) (wp := (by first | assumption | omega)) (hc := (fun p hp => by have := wpB p hp; omega))) (fun r9a r9b ok10 => ?_)
      refine z_ladd (pc := 48) dX11_rate_48 ?_
      refine x_lstore (pc := 49) dX11_rate_49 (Nat.le_of_ble_eq_true rfl) ?_
      show Ev _ _ _ _ _ [(4, .long (zL (((psum (H.1 2) 514 0 (H.1 2 477).toNat) + (psum (H.1 2) 526 0 (H.1 2 477).toNat))))), (3, .int (zN (0))), (0, .ref 0), (1, .int (zN (w))), (2, .int (zN (what)))] _ _
      refine x_aload_n (pc := 51) dX11_rate_51 (List.Mem.tail _ (List.Mem.tail _ (List.Mem.head _))) ?_
      refine z_sipush (pc := 52) dX11_rate_52 sp_490 ?_
      refine x_iload_n (pc := 55) dX11_rate_55 (List.Mem.tail _ (List.Mem.head _)) ?_
      refine z_callVlp (pc := 56) (i := mX11_sumOf) (S := []) [.int (zN (490)), .int (zN (0))] dX11_rate_56 ml_X11_321 ok_X11_sumOf rfl sh_0 rfl rfl (Nat.le_of_ble_eq_true rfl) (c_X11_sumOf (d := d) (fr := 490) (f1 := (by omega)) (w := 0) (w01 := (by omega)) (ok := ok10) (wp := (by first | assumption | omega)) (hc := (fun p hp => by have := wpB p hp; omega))) (fun r11a r11b ok12 => ?_)
      refine x_aload_n (pc := 59) dX11_rate_59 (List.Mem.tail _ (List.Mem.tail _ (List.Mem.head _))) ?_
      refine z_sipush (pc := 60) dX11_rate_60 sp_502 ?_
      refine x_iload_n (pc := 63) dX11_rate_63 (List.Mem.tail _ (List.Mem.head _)) ?_
      refine z_callVlp (pc := 64) (i := mX11_sumOf) (S := [.long (zL ((psum (H.1 2) 490 0 (H.1 2 477).toNat)))]) [.int (zN (502)), .int (zN (0))] dX11_rate_64 ml_X11_321 ok_X11_sumOf rfl sh_0 rfl rfl (Nat.le_of_ble_eq_true rfl) (c_X11_sumOf (d := d) (fr := 502) (f1 := (by omega)) (w := 0) (w01 := (by omega)) (ok := ok12) (wp := (by first | assumption | omega)) (hc := (fun p hp => by have := wpB p hp; omega))) (fun r13a r13b ok14 => ?_)
      refine z_ladd (pc := 67) dX11_rate_67 ?_
      refine x_lstore (pc := 68) dX11_rate_68 (Nat.le_of_ble_eq_true rfl) ?_
      show Ev _ _ _ _ _ [(6, .long (zL (((psum (H.1 2) 490 0 (H.1 2 477).toNat) + (psum (H.1 2) 502 0 (H.1 2 477).toNat))))), (4, .long (zL (((psum (H.1 2) 514 0 (H.1 2 477).toNat) + (psum (H.1 2) 526 0 (H.1 2 477).toNat))))), (3, .int (zN (0))), (0, .ref 0), (1, .int (zN (w))), (2, .int (zN (what)))] _ _
      refine x_lload (pc := 70) dX11_rate_70 (List.Mem.head _) ?_
      refine z_lconst (pc := 72) 0 dX11_rate_72 rfl ?_
      refine z_lcmp_ne (pc := 73) (tgt := 79) dX11_rate_73 dX11_rate_74 (by decide) (by omega) (by omega) (by decide) (by decide) (fun hb15 => ?_) (fun hb15 => ?_)
      · skip
        have gh := gg (by omega)
        refine x_lload (pc := 79) dX11_rate_79 (List.Mem.tail _ (List.Mem.head _)) ?_
        refine x_lload (pc := 81) dX11_rate_81 (List.Mem.head _) ?_
        refine z_callSlp (pc := 83) (i := mX11_common) (S := []) [.long (zL (((psum (H.1 2) 514 0 (H.1 2 477).toNat) + (psum (H.1 2) 526 0 (H.1 2 477).toNat)))), .long (zL (((psum (H.1 2) 490 0 (H.1 2 477).toNat) + (psum (H.1 2) 502 0 (H.1 2 477).toNat))))] dX11_rate_83 ml_X11_310 ok_X11_common rfl rfl (Nat.le_of_ble_eq_true rfl) (c_X11_common (d := d) (a := (((psum (H.1 2) 514 0 (H.1 2 477).toNat) + (psum (H.1 2) 526 0 (H.1 2 477).toNat)))) (b := (((psum (H.1 2) 490 0 (H.1 2 477).toNat) + (psum (H.1 2) 502 0 (H.1 2 477).toNat)))) (a1 := (by omega)) (a2 := (by omega)) (b1 := (by omega)) (b2 := (by omega)) (ok := ok14)) (fun r16a r16b ok17 => ?_)
        refine x_lstore (pc := 86) dX11_rate_86 (Nat.le_of_ble_eq_true rfl) ?_
        show Ev _ _ _ _ _ [(8, .long (zL ((((Int.gcd (((psum (H.1 2) 514 0 (H.1 2 477).toNat) + (psum (H.1 2) 526 0 (H.1 2 477).toNat))) (((psum (H.1 2) 490 0 (H.1 2 477).toNat) + (psum (H.1 2) 502 0 (H.1 2 477).toNat))) : Nat) : Int))))), (6, .long (zL (((psum (H.1 2) 490 0 (H.1 2 477).toNat) + (psum (H.1 2) 502 0 (H.1 2 477).toNat))))), (4, .long (zL (((psum (H.1 2) 514 0 (H.1 2 477).toNat) + (psum (H.1 2) 526 0 (H.1 2 477).toNat))))), (3, .int (zN (0))), (0, .ref 0), (1, .int (zN (w))), (2, .int (zN (what)))] _ _
        refine x_iload_n (pc := 88) dX11_rate_88 (List.Mem.tail _ (List.Mem.tail _ (List.Mem.tail _ (List.Mem.tail _ (List.Mem.tail _ (List.Mem.tail _ (List.Mem.head _))))))) ?_
        refine z_if_ne (pc := 89) (tgt := 97) dX11_rate_89 (by decide) (by omega) (by omega) (fun hb18 => ?_) (fun hb18 => ?_)
        · skip
          refine x_lload (pc := 97) dX11_rate_97 (List.Mem.tail _ (List.Mem.head _)) ?_
          refine x_lload (pc := 99) dX11_rate_99 (List.Mem.head _) ?_
          refine z_ldivP (pc := 101) dX11_rate_101 (by omega) (by omega) (by omega) (by omega) ?_
          refine z_l2i (pc := 102) dX11_rate_102 ?_
          refine z_ireturn (pc := 103) dX11_rate_103 rfl (Or.inl rfl) ok17 (by omega) (by omega) ?_
          rw [ew]
          unfold S_rate
          rw [if_pos (by omega)]
          refine ⟨?_, rfl⟩
          unfold rcros rhurt
          rw [if_neg (by omega)]
          first | rw [if_pos (by omega)] | rw [if_neg (by omega)]
        · skip
          refine x_lload (pc := 92) dX11_rate_92 (List.Mem.tail _ (List.Mem.tail _ (List.Mem.head _))) ?_
          refine x_goto (pc := 94) (tgt := 99) dX11_rate_94 (by decide) ?_
          refine x_lload (pc := 99) dX11_rate_99 (List.Mem.head _) ?_
          refine z_ldivP (pc := 101) dX11_rate_101 (by omega) (by omega) (by omega) (by omega) ?_
          refine z_l2i (pc := 102) dX11_rate_102 ?_
          refine z_ireturn (pc := 103) dX11_rate_103 rfl (Or.inl rfl) ok17 (by omega) (by omega) ?_
          rw [ew]
          unfold S_rate
          rw [if_pos (by omega)]
          refine ⟨?_, rfl⟩
          unfold rcros rhurt
          rw [if_neg (by omega)]
          first | rw [if_pos (by omega)] | rw [if_neg (by omega)]
      · skip
        refine x_iload_n (pc := 77) dX11_rate_77 (List.Mem.tail _ (List.Mem.tail _ (List.Mem.tail _ (List.Mem.tail _ (List.Mem.tail _ (List.Mem.head _)))))) ?_
        refine z_ireturn (pc := 78) dX11_rate_78 rfl (Or.inl rfl) ok14 (by omega) (by omega) ?_
        rw [ew]
        unfold S_rate
        rw [if_pos (by omega)]
        exact ⟨(if_pos (by unfold rcros; omega)).symm, rfl⟩
    · skip
      have ew : w = 1 := by omega
      have sm := psums12 wp 1
      have sw := psums wp 1
      unfold rhurt rcros at sm
      have gg : 0 < (psum (H.1 2) 490 1 (H.1 2 477).toNat + psum (H.1 2) 502 1 (H.1 2 477).toNat) → _ := fun hz => And.intro (gcd_bd (a := (psum (H.1 2) 514 1 (H.1 2 477).toNat + psum (H.1 2) 526 1 (H.1 2 477).toNat)) (b := (psum (H.1 2) 490 1 (H.1 2 477).toNat + psum (H.1 2) 502 1 (H.1 2 477).toNat)) hz) (And.intro (gcd_div_bd (a := (psum (H.1 2) 514 1 (H.1 2 477).toNat + psum (H.1 2) 526 1 (H.1 2 477).toNat)) (b := (psum (H.1 2) 490 1 (H.1 2 477).toNat + psum (H.1 2) 502 1 (H.1 2 477).toNat)) (x := (psum (H.1 2) 514 1 (H.1 2 477).toNat + psum (H.1 2) 526 1 (H.1 2 477).toNat)) (by omega) (by omega) hz) (gcd_div_bd (a := (psum (H.1 2) 514 1 (H.1 2 477).toNat + psum (H.1 2) 526 1 (H.1 2 477).toNat)) (b := (psum (H.1 2) 490 1 (H.1 2 477).toNat + psum (H.1 2) 502 1 (H.1 2 477).toNat)) (x := (psum (H.1 2) 490 1 (H.1 2 477).toNat + psum (H.1 2) 502 1 (H.1 2 477).toNat)) (by omega) (by omega) hz))
      refine z_iconst (pc := 26) dX11_rate_26 ?_
      refine x_goto (pc := 27) (tgt := 31) dX11_rate_27 (by decide) ?_
      refine x_istore_n (pc := 31) dX11_rate_31 (Nat.le_of_ble_eq_true rfl) ?_
      show Ev _ _ _ _ _ [(3, .int (zN (1))), (0, .ref 0), (1, .int (zN (w))), (2, .int (zN (what)))] _ _
      refine x_aload_n (pc := 32) dX11_rate_32 (List.Mem.tail _ (List.Mem.head _)) ?_
      refine z_sipush (pc := 33) dX11_rate_33 sp_514 ?_
      refine x_iload_n (pc := 36) dX11_rate_36 (List.Mem.head _) ?_
      refine z_callVlp (pc := 37) (i := mX11_sumOf) (S := []) [.int (zN (514)), .int (zN (1))] dX11_rate_37 ml_X11_321 ok_X11_sumOf rfl sh_0 rfl rfl (Nat.le_of_ble_eq_true rfl) (c_X11_sumOf (d := d) (fr := 514) (f1 := (by omega)) (w := 1) (w01 := (by omega)) (ok := ok3) (wp := (by first | assumption | omega)) (hc := (fun p hp => by have := wpB p hp; omega))) (fun r19a r19b ok20 => ?_)
      refine x_aload_n (pc := 40) dX11_rate_40 (List.Mem.tail _ (List.Mem.head _)) ?_
      refine z_sipush (pc := 41) dX11_rate_41 sp_526 ?_
      refine x_iload_n (pc := 44) dX11_rate_44 (List.Mem.head _) ?_
      refine z_callVlp (pc := 45) (i := mX11_sumOf) (S := [.long (zL ((psum (H.1 2) 514 1 (H.1 2 477).toNat)))]) [.int (zN (526)), .int (zN (1))] dX11_rate_45 ml_X11_321 ok_X11_sumOf rfl sh_0 rfl rfl (Nat.le_of_ble_eq_true rfl) (c_X11_sumOf (d := d) (fr := 526) (f1 := (by omega)) (w := 1) (w01 := (by omega)) (ok := ok20) (wp := (by first | assumption | omega)) (hc := (fun p hp => by have := wpB p hp; omega))) (fun r21a r21b ok22 => ?_)
      refine z_ladd (pc := 48) dX11_rate_48 ?_
      refine x_lstore (pc := 49) dX11_rate_49 (Nat.le_of_ble_eq_true rfl) ?_
      show Ev _ _ _ _ _ [(4, .long (zL (((psum (H.1 2) 514 1 (H.1 2 477).toNat) + (psum (H.1 2) 526 1 (H.1 2 477).toNat))))), (3, .int (zN (1))), (0, .ref 0), (1, .int (zN (w))), (2, .int (zN (what)))] _ _
      refine x_aload_n (pc := 51) dX11_rate_51 (List.Mem.tail _ (List.Mem.tail _ (List.Mem.head _))) ?_
      refine z_sipush (pc := 52) dX11_rate_52 sp_490 ?_
      refine x_iload_n (pc := 55) dX11_rate_55 (List.Mem.tail _ (List.Mem.head _)) ?_
      refine z_callVlp (pc := 56) (i := mX11_sumOf) (S := []) [.int (zN (490)), .int (zN (1))] dX11_rate_56 ml_X11_321 ok_X11_sumOf rfl sh_0 rfl rfl (Nat.le_of_ble_eq_true rfl) (c_X11_sumOf (d := d) (fr := 490) (f1 := (by omega)) (w := 1) (w01 := (by omega)) (ok := ok22) (wp := (by first | assumption | omega)) (hc := (fun p hp => by have := wpB p hp; omega))) (fun r23a r23b ok24 => ?_)
      refine x_aload_n (pc := 59) dX11_rate_59 (List.Mem.tail _ (List.Mem.tail _ (List.Mem.head _))) ?_
      refine z_sipush (pc := 60) dX11_rate_60 sp_502 ?_
      refine x_iload_n (pc := 63) dX11_rate_63 (List.Mem.tail _ (List.Mem.head _)) ?_
      refine z_callVlp (pc := 64) (i := mX11_sumOf) (S := [.long (zL ((psum (H.1 2) 490 1 (H.1 2 477).toNat)))]) [.int (zN (502)), .int (zN (1))] dX11_rate_64 ml_X11_321 ok_X11_sumOf rfl sh_0 rfl rfl (Nat.le_of_ble_eq_true rfl) (c_X11_sumOf (d := d) (fr := 502) (f1 := (by omega)) (w := 1) (w01 := (by omega)) (ok := ok24) (wp := (by first | assumption | omega)) (hc := (fun p hp => by have := wpB p hp; omega))) (fun r25a r25b ok26 => ?_)
      refine z_ladd (pc := 67) dX11_rate_67 ?_
      refine x_lstore (pc := 68) dX11_rate_68 (Nat.le_of_ble_eq_true rfl) ?_
      show Ev _ _ _ _ _ [(6, .long (zL (((psum (H.1 2) 490 1 (H.1 2 477).toNat) + (psum (H.1 2) 502 1 (H.1 2 477).toNat))))), (4, .long (zL (((psum (H.1 2) 514 1 (H.1 2 477).toNat) + (psum (H.1 2) 526 1 (H.1 2 477).toNat))))), (3, .int (zN (1))), (0, .ref 0), (1, .int (zN (w))), (2, .int (zN (what)))] _ _
      refine x_lload (pc := 70) dX11_rate_70 (List.Mem.head _) ?_
      refine z_lconst (pc := 72) 0 dX11_rate_72 rfl ?_
      refine z_lcmp_ne (pc := 73) (tgt := 79) dX11_rate_73 dX11_rate_74 (by decide) (by omega) (by omega) (by decide) (by decide) (fun hb27 => ?_) (fun hb27 => ?_)
      · skip
        have gh := gg (by omega)
        refine x_lload (pc := 79) dX11_rate_79 (List.Mem.tail _ (List.Mem.head _)) ?_
        refine x_lload (pc := 81) dX11_rate_81 (List.Mem.head _) ?_
        refine z_callSlp (pc := 83) (i := mX11_common) (S := []) [.long (zL (((psum (H.1 2) 514 1 (H.1 2 477).toNat) + (psum (H.1 2) 526 1 (H.1 2 477).toNat)))), .long (zL (((psum (H.1 2) 490 1 (H.1 2 477).toNat) + (psum (H.1 2) 502 1 (H.1 2 477).toNat))))] dX11_rate_83 ml_X11_310 ok_X11_common rfl rfl (Nat.le_of_ble_eq_true rfl) (c_X11_common (d := d) (a := (((psum (H.1 2) 514 1 (H.1 2 477).toNat) + (psum (H.1 2) 526 1 (H.1 2 477).toNat)))) (b := (((psum (H.1 2) 490 1 (H.1 2 477).toNat) + (psum (H.1 2) 502 1 (H.1 2 477).toNat)))) (a1 := (by omega)) (a2 := (by omega)) (b1 := (by omega)) (b2 := (by omega)) (ok := ok26)) (fun r28a r28b ok29 => ?_)
        refine x_lstore (pc := 86) dX11_rate_86 (Nat.le_of_ble_eq_true rfl) ?_
        show Ev _ _ _ _ _ [(8, .long (zL ((((Int.gcd (((psum (H.1 2) 514 1 (H.1 2 477).toNat) + (psum (H.1 2) 526 1 (H.1 2 477).toNat))) (((psum (H.1 2) 490 1 (H.1 2 477).toNat) + (psum (H.1 2) 502 1 (H.1 2 477).toNat))) : Nat) : Int))))), (6, .long (zL (((psum (H.1 2) 490 1 (H.1 2 477).toNat) + (psum (H.1 2) 502 1 (H.1 2 477).toNat))))), (4, .long (zL (((psum (H.1 2) 514 1 (H.1 2 477).toNat) + (psum (H.1 2) 526 1 (H.1 2 477).toNat))))), (3, .int (zN (1))), (0, .ref 0), (1, .int (zN (w))), (2, .int (zN (what)))] _ _
        refine x_iload_n (pc := 88) dX11_rate_88 (List.Mem.tail _ (List.Mem.tail _ (List.Mem.tail _ (List.Mem.tail _ (List.Mem.tail _ (List.Mem.tail _ (List.Mem.head _))))))) ?_
        refine z_if_ne (pc := 89) (tgt := 97) dX11_rate_89 (by decide) (by omega) (by omega) (fun hb30 => ?_) (fun hb30 => ?_)
        · skip
          refine x_lload (pc := 97) dX11_rate_97 (List.Mem.tail _ (List.Mem.head _)) ?_
          refine x_lload (pc := 99) dX11_rate_99 (List.Mem.head _) ?_
          refine z_ldivP (pc := 101) dX11_rate_101 (by omega) (by omega) (by omega) (by omega) ?_
          refine z_l2i (pc := 102) dX11_rate_102 ?_
          refine z_ireturn (pc := 103) dX11_rate_103 rfl (Or.inl rfl) ok29 (by omega) (by omega) ?_
          rw [ew]
          unfold S_rate
          rw [if_pos (by omega)]
          refine ⟨?_, rfl⟩
          unfold rcros rhurt
          rw [if_neg (by omega)]
          first | rw [if_pos (by omega)] | rw [if_neg (by omega)]
        · skip
          refine x_lload (pc := 92) dX11_rate_92 (List.Mem.tail _ (List.Mem.tail _ (List.Mem.head _))) ?_
          refine x_goto (pc := 94) (tgt := 99) dX11_rate_94 (by decide) ?_
          refine x_lload (pc := 99) dX11_rate_99 (List.Mem.head _) ?_
          refine z_ldivP (pc := 101) dX11_rate_101 (by omega) (by omega) (by omega) (by omega) ?_
          refine z_l2i (pc := 102) dX11_rate_102 ?_
          refine z_ireturn (pc := 103) dX11_rate_103 rfl (Or.inl rfl) ok29 (by omega) (by omega) ?_
          rw [ew]
          unfold S_rate
          rw [if_pos (by omega)]
          refine ⟨?_, rfl⟩
          unfold rcros rhurt
          rw [if_neg (by omega)]
          first | rw [if_pos (by omega)] | rw [if_neg (by omega)]
      · skip
        refine x_iload_n (pc := 77) dX11_rate_77 (List.Mem.tail _ (List.Mem.tail _ (List.Mem.tail _ (List.Mem.tail _ (List.Mem.tail _ (List.Mem.head _)))))) ?_
        refine z_ireturn (pc := 78) dX11_rate_78 rfl (Or.inl rfl) ok26 (by omega) (by omega) ?_
        rw [ew]
        unfold S_rate
        rw [if_pos (by omega)]
        exact ⟨(if_pos (by unfold rcros; omega)).symm, rfl⟩
  · skip
    refine z_if_ne (pc := 12) (tgt := 22) dX11_rate_12 (by decide) (by decide) (by decide) (fun h => absurd h (by decide)) (fun _ => ?_)
    refine x_aload_n (pc := 15) dX11_rate_15 (List.Mem.head _) ?_
    refine z_bipush (pc := 16) dX11_rate_16 bp_m2 ?_
    refine z_callVip (pc := 18) (i := mX11_no) (S := []) [.int (zN ((-2)))] dX11_rate_18 ml_X11_89 ok_X11_no rfl sh_0 rfl (Or.inl rfl) (Nat.le_of_ble_eq_true rfl) (c_X11_no (d := d) (code := ((-2))) (code1 := (by omega)) (code2 := (by omega)) (ok := ok3) (cn := (by first | assumption | omega))) (fun r32a r32b ok33 => ?_)
    show Ev _ _ _ _ _ _ _ (eh (wI H 1 ((refIx ((-2)))) (H.1 1 (refIx ((-2))) + 1)))
    refine z_ireturn (pc := 21) dX11_rate_21 rfl (Or.inl rfl) ok33 (by omega) (by omega) ?_
    have e : S_rate (H.1 2) w what = (-2, 0) := by unfold S_rate; rw [if_neg (by omega)]
    rw [e]
    exact ⟨rfl, rfl⟩
