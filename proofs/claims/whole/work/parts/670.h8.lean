/-! GROUP H8: a LINE of THE SCENE in the reference. -/
def pn (T : Nat → Int) (n : Nat) (a : Int) (o : Int × Nat) : Int × Nat := (pnW T n a o.1 o.2, pnP T n a o.1 o.2)
def pt (T : Nat → Int) (n : Nat) (lo hi : Int) (o : Int × Nat) : Int × Nat := (ptW T n lo hi o.1 o.2, ptP T n lo hi o.1 o.2)
theorem pnW_nz {T : Nat → Int} {n p : Nat} {a w : Int} (h : w ≠ 0) : pnW T n a w p = w ∧ pnP T n a w p = p := ⟨if_pos h, if_pos h⟩
theorem ptW_nz {T : Nat → Int} {n p : Nat} {lo hi w : Int} (h : w ≠ 0) : ptW T n lo hi w p = w ∧ ptP T n lo hi w p = p := ⟨if_pos h, if_pos h⟩
theorem pn_nz {T : Nat → Int} {n : Nat} {a : Int} {o : Int × Nat} (h : o.1 ≠ 0) : pn T n a o = o := Prod.ext (pnW_nz h).1 (pnW_nz h).2
theorem pt_nz {T : Nat → Int} {n : Nat} {lo hi : Int} {o : Int × Nat} (h : o.1 ≠ 0) : pt T n lo hi o = o := Prod.ext (ptW_nz h).1 (ptW_nz h).2
theorem pnW_z {T : Nat → Int} {n p : Nat} {a w : Int} (h : pnW T n a w p = 0) : w = 0 ∧ tkK T n p = a ∧ pnP T n a w p = tkE T n p := by
  by_cases z : w = 0
  · by_cases y : tkK T n p = a
    · exact ⟨z, y, (pn_t ⟨z, y⟩).2⟩
    · have e : pnW T n a w p = if tkK T n p = 35 then 1 else 2 := (if_neg (by omega)).trans (if_neg y)
      have e0 : pnW T n a w p ≠ 0 := by rw [e]; split <;> omega
      exact absurd h e0
  · have e : pnW T n a w p = w := if_pos z
    omega
def crA (T : Nat → Int) (n : Nat) (L : Int) (p : Nat) : Int × Nat := pt T n 0 L (0, tkE T n p)
def crB (T : Nat → Int) (n : Nat) (L : Int) (p : Nat) : Int × Nat := pn T n 2 (crA T n L p)
def crC (T : Nat → Int) (n : Nat) (L : Int) (p : Nat) : Int × Nat := pt T n 1 200 (crB T n L p)
def crD (T : Nat → Int) (n : Nat) (L : Int) (p : Nat) : Int × Nat := pn T n 3 (crC T n L p)
def crE (T : Nat → Int) (n : Nat) (L : Int) (p : Nat) : Int × Nat := pt T n 1 9 (crD T n L p)
def crF (T : Nat → Int) (n : Nat) (L : Int) (p : Nat) : Int × Nat := pn T n 4 (crE T n L p)
def crG (T : Nat → Int) (n : Nat) (L : Int) (p : Nat) : Int × Nat := pt T n 0 3 (crF T n L p)
def crU (q : Nat → Int) (m : Nat) (v1 v2 v3 v4 : Int) : Nat → Int := upA (upA (upA (upA (upA q (2 + m) v1) (10 + m) v2) (18 + m) v3) (26 + m) v4) 1 (q 1 + 1)
/-- THE SCENE with one car more -/
def crQ (T : Nat → Int) (n : Nat) (q : Nat → Int) (p : Nat) : Nat → Int := crU q (q 1).toNat (tkN T n (tkE T n p)) (tkN T n (crB T n (q 0 - 1) p).2) (tkN T n (crD T n (q 0 - 1) p).2) (tkN T n (crF T n (q 0 - 1) p).2)
/-- a car that was read: each piece was there -/
theorem crG_z {T : Nat → Int} {n p : Nat} {L : Int} (h : (crG T n L p).1 = 0) : (crF T n L p).1 = 0 ∧ (crE T n L p).1 = 0 ∧ (crD T n L p).1 = 0 ∧ (crC T n L p).1 = 0 ∧ (crB T n L p).1 = 0 ∧ (crA T n L p).1 = 0 := by
  have f := (pt_z (show ptW T n 0 3 (crF T n L p).1 (crF T n L p).2 = 0 from h)).1
  have e := (pnW_z (show pnW T n 4 (crE T n L p).1 (crE T n L p).2 = 0 from f)).1
  have d := (pt_z (show ptW T n 1 9 (crD T n L p).1 (crD T n L p).2 = 0 from e)).1
  have c := (pnW_z (show pnW T n 3 (crC T n L p).1 (crC T n L p).2 = 0 from d)).1
  have b := (pt_z (show ptW T n 1 200 (crB T n L p).1 (crB T n L p).2 = 0 from c)).1
  have a := (pnW_z (show pnW T n 2 (crA T n L p).1 (crA T n L p).2 = 0 from b)).1
  exact ⟨f, e, d, c, b, a⟩
/-- one LINE ahead of its ;: fault or place, and THE SCENE -/
def lnM (T : Nat → Int) (n p : Nat) (q : Nat → Int) : (Int × Nat) × (Nat → Int) :=
  if tkK T n p = 0 then (pt T n (lnd (fun j => q (2 + j)) (q 1).toNat) 4 (0, tkE T n p), upA q 0 (tkN T n (tkE T n p)))
  else if tkK T n p = 1 then (if q 1 = 8 then ((4, tkA T n p), q) else (crG T n (q 0 - 1) p, crQ T n q p))
  else if tkK T n p = 13 then (pt T n 0 30 (0, tkE T n p), upA q 35 (tkN T n (tkE T n p)))
  else if tkK T n p = 14 then (pt T n 0 20 (0, tkE T n p), upA q 36 (tkN T n (tkE T n p)))
  else if tkK T n p = 15 then (pt T n 0 60 (0, tkE T n p), upA q 37 (tkN T n (tkE T n p)))
  else if tkK T n p = 16 then (pt T n 1 200 (0, tkE T n p), upA q 38 (tkN T n (tkE T n p)))
  else if 5 ≤ tkK T n p ∧ tkK T n p ≤ 12 then ((0, tkE T n p), upA q 34 (((q 34).toNat ||| 2 ^ (tkK T n p - 5).toNat : Nat)))
  else ((pfW T n 2 0 p, tkA T n p), q)
def FrF (H H1 : ZH) : Prop := (∀ cc k, cc ≠ 5 → ¬ (cc = 0 ∧ (k = 7 ∨ k = 8 ∨ (10 ≤ k ∧ k ≤ 13))) → H1.1 cc k = H.1 cc k) ∧ H1.2 = H.2
theorem FrF_T {H H1 : ZH} (a : FrT H H1) : FrF H H1 := ⟨fun cc k _ h => a.1 cc k h, a.2⟩
theorem FrF_tr {H H1 H2 : ZH} (a : FrF H H1) (b : FrF H1 H2) : FrF H H2 := ⟨fun cc k g h => (b.1 cc k g h).trans (a.1 cc k g h), b.2.trans a.2⟩
theorem FrF_w {H H1 : ZH} (a : FrF H H1) (k : Nat) (v : Int) : FrF H (wI H1 5 k v) := ⟨fun cc j g h => by rw [wI1c g]; exact a.1 cc j g h, a.2⟩
theorem FrT_5 {H H1 : ZH} (a : FrT H H1) : H1.1 5 = H.1 5 := funext (fun k => a.1 5 k (by omega))
theorem TkS_5 {H : ZH} {T : Nat → Int} {n p : Nat} {w : Int} (h : TkS H T n w p) (k : Nat) (v : Int) : TkS (wI H 5 k v) T n w p := by
  obtain ⟨t1, t2, t3, t4, t5, t6, t7⟩ := h
  refine ⟨t1, ?_, ?_, t4, ?_, fun z => ?_, fun z => ?_⟩
  · rw [wI1c (by omega)]; exact t2
  · rw [wIf (by omega)]; exact t3
  · rw [wI1c (by omega)]; exact t5
  · rw [wI1c (by omega), wI1c (by omega), wI1c (by omega), wI1c (by omega)]; exact t6 z
  · rw [wI1c (by omega)]; exact t7 z
theorem w5 {H H1 : ZH} {k : Nat} {v : Int} {A : Nat → Int} (h : H.1 5 = A) (a : FrT (wI H 5 k v) H1) : H1.1 5 = upA A k v := by rw [FrT_5 a, wI_up, h]
theorem eat_f {H : ZH} {T : Nat → Int} {n p : Nat} {a r : Int} (hr : r = (if (0 : Int) = 0 ∧ tkK T n p = a then 1 else 0)) (hz : r = 0) (hS : TkS H T n 0 (if (0 : Int) = 0 ∧ tkK T n p = a then tkE T n p else p)) : tkK T n p ≠ a ∧ TkS H T n 0 p := by
  by_cases z : (0 : Int) = 0 ∧ tkK T n p = a
  · rw [if_pos z] at hr; omega
  · rw [if_neg z] at hS; exact ⟨fun y => z ⟨rfl, y⟩, hS⟩
theorem eat_t {H : ZH} {T : Nat → Int} {n p : Nat} {a r : Int} (hr : r = (if (0 : Int) = 0 ∧ tkK T n p = a then 1 else 0)) (hz : r ≠ 0) (hS : TkS H T n 0 (if (0 : Int) = 0 ∧ tkK T n p = a then tkE T n p else p)) : tkK T n p = a ∧ TkS H T n 0 (tkE T n p) := by
  by_cases z : (0 : Int) = 0 ∧ tkK T n p = a
  · rw [if_pos z] at hS; exact ⟨z.2, hS⟩
  · rw [if_neg z] at hr; omega
theorem TkS_12 {H : ZH} {T : Nat → Int} {n p : Nat} {w : Int} (h : TkS H T n w p) : H.1 0 12 = w := h.2.2.2.2.1
theorem TkS_10 {H : ZH} {T : Nat → Int} {n p : Nat} (h : TkS H T n 0 p) : H.1 0 10 = tkK T n p := (h.2.2.2.2.2.1 rfl).2.2.1

theorem c_X11_readCar {d : Nat} {H : ZH} (ok : okZ H) {T : Nat → Int} {n p : Nat} (hn : n ≤ 400) (hT : ∀ k, 0 ≤ T k ∧ T k ≤ 255) (hS : TkS H T n 0 p) (hK : tkK T n p = 1) (q0 : 1 ≤ H.1 5 0 ∧ H.1 5 0 ≤ 4) (q1 : 0 ≤ H.1 5 1 ∧ H.1 5 1 ≤ 8) : EvC zX (d + 5) mX11_readCar [.ref 0] (eh H) (zPv (fun (H1 : ZH) => (H.1 5 1 = 8 → TkS H1 T n 4 (tkA T n p)) ∧ (H.1 5 1 ≠ 8 → TkS H1 T n (crG T n (H.1 5 0 - 1) p).1 (crG T n (H.1 5 0 - 1) p).2 ∧ ((crG T n (H.1 5 0 - 1) p).1 = 0 → H1.1 5 = crQ T n (H.1 5) p)) ∧ H1.1 5 39 = H.1 5 39 ∧ FrF H H1)) := by
  show _ ∧ Ev zX mX11_readCar (EvC zX (d + 4)) (zPv (fun (H1 : ZH) => (H.1 5 1 = 8 → TkS H1 T n 4 (tkA T n p)) ∧ (H.1 5 1 ≠ 8 → TkS H1 T n (crG T n (H.1 5 0 - 1) p).1 (crG T n (H.1 5 0 - 1) p).2 ∧ ((crG T n (H.1 5 0 - 1) p).1 = 0 → H1.1 5 = crQ T n (H.1 5) p)) ∧ H1.1 5 39 = H.1 5 39 ∧ FrF H H1)) 0 [(0, .ref 0)] [] (eh H)
  refine ⟨Nat.le_of_ble_eq_true rfl, ?_⟩
  have t12 := TkS_12 hS
  refine x_aload_n (pc := 0) dX11_readCar_0 (List.Mem.head _) ?_
  refine z_getR (pc := 1) (k := 5) (r := 5) dX11_readCar_1 lf_X11_27 sh_0 rfl rf_0_5 ?_
  refine z_iconst (pc := 4) dX11_readCar_4 ?_
  have rd1 := ok.1 5 1
  refine z_iald (pc := 5) (j := 1) (v := H.1 5 1) dX11_readCar_5 sh_5 rfl (Nat.le_of_ble_eq_true rfl) (by decide) rfl ?_
  refine x_istore_n (pc := 6) dX11_readCar_6 (Nat.le_of_ble_eq_true rfl) ?_
  show Ev _ _ _ _ _ [(1, .int (zN ((H.1 5 1)))), (0, .ref 0)] _ _
  refine x_iload_n (pc := 7) dX11_readCar_7 (List.Mem.head _) ?_
  refine z_bipush (pc := 8) dX11_readCar_8 bp_8 ?_
  refine z_icmp_ne (pc := 10) (tgt := 18) dX11_readCar_10 (by decide) (by omega) (by omega) (by decide) (by decide) (fun hb2 => ?_) (fun hb2 => ?_)
  · skip
    refine x_aload_n (pc := 18) dX11_readCar_18 (List.Mem.tail _ (List.Mem.head _)) ?_
    refine z_getI (pc := 19) (k := 12) (v := 0) dX11_readCar_19 lf_X11_133 sh_0 rfl t12 ?_
    refine z_if_eq (pc := 22) (tgt := 26) dX11_readCar_22 (by decide) (by decide) (by decide) (fun _ => ?_) (fun h => absurd h (by decide))
    refine x_aload_n (pc := 26) dX11_readCar_26 (List.Mem.tail _ (List.Mem.head _)) ?_
    refine z_callVv (pc := 27) (i := mX11_next) (S := []) [] dX11_readCar_27 ml_X11_142 ok_X11_next rfl sh_0 rfl rfl (Nat.le_of_ble_eq_true rfl) (c_X11_next (d := d + 2) (n := n) (b := (tkE T n p)) (hn := hn) (hb := ((tk_bd T hS.1).2.2.1)) (ok := ok) (h8 := ((hS.2.2.2.2.2.1 rfl).2.1)) (h9 := (hS.2.1)) (ht := (fun k => by rw [hS.2.2.1]; exact hT k))) ?_
    intro Ha ok5 hp6
    have hnx := nx2 hS rfl hp6
    have e5a := FrT_5 hnx.2
    refine x_aload_n (pc := 30) dX11_readCar_30 (List.Mem.tail _ (List.Mem.head _)) ?_
    refine z_getR (pc := 31) (k := 5) (r := 5) dX11_readCar_31 lf_X11_27 sh_0 rfl rf_0_5 ?_
    refine z_iconst (pc := 34) dX11_readCar_34 ?_
    refine x_iload_n (pc := 35) dX11_readCar_35 (List.Mem.head _) ?_
    refine z_iadd (pc := 36) dX11_readCar_36 ?_
    refine x_aload_n (pc := 37) dX11_readCar_37 (List.Mem.tail _ (List.Mem.head _)) ?_
    refine z_iconst (pc := 38) dX11_readCar_38 ?_
    refine x_aload_n (pc := 39) dX11_readCar_39 (List.Mem.tail _ (List.Mem.head _)) ?_
    refine z_getR (pc := 40) (k := 5) (r := 5) dX11_readCar_40 lf_X11_27 sh_0 rfl rf_0_5 ?_
    refine z_iconst (pc := 43) dX11_readCar_43 ?_
    refine z_iald (pc := 44) (j := 0) (v := (H.1 5 0)) dX11_readCar_44 sh_5 rfl (Nat.le_of_ble_eq_true rfl) (by decide) (hnx.2.1 5 0 (by omega)) ?_
    refine z_iconst (pc := 45) dX11_readCar_45 ?_
    refine z_isub (pc := 46) dX11_readCar_46 ?_
    refine z_callVi (pc := 47) (i := mX11_takes) (S := [.int (zN ((2 + (H.1 5 1)))), .ref 5]) [.int (zN (0)), .int (zN ((((H.1 5 0)) - 1)))] dX11_readCar_47 ml_X11_156 ok_X11_takes rfl sh_0 rfl (Or.inl rfl) (Nat.le_of_ble_eq_true rfl) (c_X11_takes (d := d + 1) (lo := 0) (hi := ((((H.1 5 0)) - 1))) (hn := hn) (lo1 := (by omega)) (lo2 := (by omega)) (hi1 := (by omega)) (hi2 := (by omega)) (ok := ok5) (hT := hT) (hS := hnx.1)) ?_
    intro r7 Hb r7a r7b ok8 hp9
    obtain ⟨hr1, hS1, hF1⟩ := hp9
    have e5b := (FrT_5 hF1).trans e5a
    have f5b := FrF_tr (FrF_T hnx.2) (FrF_T hF1)
    refine z_iast (pc := 50) (j := 2 + (H.1 5 1).toNat) (v := r7) dX11_readCar_50 sh_5 (by omega) (by omega) (by decide) ?_
    have ok10 := okI ok8 5 (2 + (H.1 5 1).toNat) (v := r7) (by omega) (by omega)
    refine x_aload_n (pc := 51) dX11_readCar_51 (List.Mem.tail _ (List.Mem.head _)) ?_
    refine z_iconst (pc := 52) dX11_readCar_52 ?_
    refine z_callVv (pc := 53) (i := mX11_needs) (S := []) [.int (zN (2))] dX11_readCar_53 ml_X11_160 ok_X11_needs rfl sh_0 rfl rfl (Nat.le_of_ble_eq_true rfl) (c_X11_needs (d := d) (a := 2) (hn := hn) (ha := (by omega)) (ok := ok10) (hT := hT) (hS := (TkS_5 hS1 _ _))) ?_
    intro Hc ok12 hp13
    obtain ⟨hS2, hF2⟩ := hp13
    have e5c := w5 e5b hF2
    have f5c := FrF_tr (FrF_w f5b _ _) (FrF_T hF2)
    refine x_aload_n (pc := 56) dX11_readCar_56 (List.Mem.tail _ (List.Mem.head _)) ?_
    refine z_getR (pc := 57) (k := 5) (r := 5) dX11_readCar_57 lf_X11_27 sh_0 rfl rf_0_5 ?_
    refine z_bipush (pc := 60) dX11_readCar_60 bp_10 ?_
    refine x_iload_n (pc := 62) dX11_readCar_62 (List.Mem.head _) ?_
    refine z_iadd (pc := 63) dX11_readCar_63 ?_
    refine x_aload_n (pc := 64) dX11_readCar_64 (List.Mem.tail _ (List.Mem.head _)) ?_
    refine z_iconst (pc := 65) dX11_readCar_65 ?_
    refine z_sipush (pc := 66) dX11_readCar_66 sp_200 ?_
    refine z_callVi (pc := 69) (i := mX11_takes) (S := [.int (zN ((10 + (H.1 5 1)))), .ref 5]) [.int (zN (1)), .int (zN (200))] dX11_readCar_69 ml_X11_156 ok_X11_takes rfl sh_0 rfl (Or.inl rfl) (Nat.le_of_ble_eq_true rfl) (c_X11_takes (d := d + 1) (lo := 1) (hi := 200) (hn := hn) (lo1 := (by omega)) (lo2 := (by omega)) (hi1 := (by omega)) (hi2 := (by omega)) (ok := ok12) (hT := hT) (hS := hS2)) ?_
    intro r14 Hd r14a r14b ok15 hp16
    obtain ⟨hr3, hS3, hF3⟩ := hp16
    have e5d := (FrT_5 hF3).trans e5c
    have f5d := FrF_tr f5c (FrF_T hF3)
    refine z_iast (pc := 72) (j := 10 + (H.1 5 1).toNat) (v := r14) dX11_readCar_72 sh_5 (by omega) (by omega) (by decide) ?_
    have ok17 := okI ok15 5 (10 + (H.1 5 1).toNat) (v := r14) (by omega) (by omega)
    refine x_aload_n (pc := 73) dX11_readCar_73 (List.Mem.tail _ (List.Mem.head _)) ?_
    refine z_iconst (pc := 74) dX11_readCar_74 ?_
    refine z_callVv (pc := 75) (i := mX11_needs) (S := []) [.int (zN (3))] dX11_readCar_75 ml_X11_160 ok_X11_needs rfl sh_0 rfl rfl (Nat.le_of_ble_eq_true rfl) (c_X11_needs (d := d) (a := 3) (hn := hn) (ha := (by omega)) (ok := ok17) (hT := hT) (hS := (TkS_5 hS3 _ _))) ?_
    intro He ok19 hp20
    obtain ⟨hS4, hF4⟩ := hp20
    have e5e := w5 e5d hF4
    have f5e := FrF_tr (FrF_w f5d _ _) (FrF_T hF4)
    refine x_aload_n (pc := 78) dX11_readCar_78 (List.Mem.tail _ (List.Mem.head _)) ?_
    refine z_getR (pc := 79) (k := 5) (r := 5) dX11_readCar_79 lf_X11_27 sh_0 rfl rf_0_5 ?_
    refine z_bipush (pc := 82) dX11_readCar_82 bp_18 ?_
    refine x_iload_n (pc := 84) dX11_readCar_84 (List.Mem.head _) ?_
    refine z_iadd (pc := 85) dX11_readCar_85 ?_
    refine x_aload_n (pc := 86) dX11_readCar_86 (List.Mem.tail _ (List.Mem.head _)) ?_
    refine z_iconst (pc := 87) dX11_readCar_87 ?_
    refine z_bipush (pc := 88) dX11_readCar_88 bp_9 ?_
    refine z_callVi (pc := 90) (i := mX11_takes) (S := [.int (zN ((18 + (H.1 5 1)))), .ref 5]) [.int (zN (1)), .int (zN (9))] dX11_readCar_90 ml_X11_156 ok_X11_takes rfl sh_0 rfl (Or.inl rfl) (Nat.le_of_ble_eq_true rfl) (c_X11_takes (d := d + 1) (lo := 1) (hi := 9) (hn := hn) (lo1 := (by omega)) (lo2 := (by omega)) (hi1 := (by omega)) (hi2 := (by omega)) (ok := ok19) (hT := hT) (hS := hS4)) ?_
    intro r21 Hf r21a r21b ok22 hp23
    obtain ⟨hr5, hS5, hF5⟩ := hp23
    have e5f := (FrT_5 hF5).trans e5e
    have f5f := FrF_tr f5e (FrF_T hF5)
    refine z_iast (pc := 93) (j := 18 + (H.1 5 1).toNat) (v := r21) dX11_readCar_93 sh_5 (by omega) (by omega) (by decide) ?_
    have ok24 := okI ok22 5 (18 + (H.1 5 1).toNat) (v := r21) (by omega) (by omega)
    refine x_aload_n (pc := 94) dX11_readCar_94 (List.Mem.tail _ (List.Mem.head _)) ?_
    refine z_iconst (pc := 95) dX11_readCar_95 ?_
    refine z_callVv (pc := 96) (i := mX11_needs) (S := []) [.int (zN (4))] dX11_readCar_96 ml_X11_160 ok_X11_needs rfl sh_0 rfl rfl (Nat.le_of_ble_eq_true rfl) (c_X11_needs (d := d) (a := 4) (hn := hn) (ha := (by omega)) (ok := ok24) (hT := hT) (hS := (TkS_5 hS5 _ _))) ?_
    intro Hg ok26 hp27
    obtain ⟨hS6, hF6⟩ := hp27
    have e5g := w5 e5f hF6
    have f5g := FrF_tr (FrF_w f5f _ _) (FrF_T hF6)
    refine x_aload_n (pc := 99) dX11_readCar_99 (List.Mem.tail _ (List.Mem.head _)) ?_
    refine z_getR (pc := 100) (k := 5) (r := 5) dX11_readCar_100 lf_X11_27 sh_0 rfl rf_0_5 ?_
    refine z_bipush (pc := 103) dX11_readCar_103 bp_26 ?_
    refine x_iload_n (pc := 105) dX11_readCar_105 (List.Mem.head _) ?_
    refine z_iadd (pc := 106) dX11_readCar_106 ?_
    refine x_aload_n (pc := 107) dX11_readCar_107 (List.Mem.tail _ (List.Mem.head _)) ?_
    refine z_iconst (pc := 108) dX11_readCar_108 ?_
    refine z_iconst (pc := 109) dX11_readCar_109 ?_
    refine z_callVi (pc := 110) (i := mX11_takes) (S := [.int (zN ((26 + (H.1 5 1)))), .ref 5]) [.int (zN (0)), .int (zN (3))] dX11_readCar_110 ml_X11_156 ok_X11_takes rfl sh_0 rfl (Or.inl rfl) (Nat.le_of_ble_eq_true rfl) (c_X11_takes (d := d + 1) (lo := 0) (hi := 3) (hn := hn) (lo1 := (by omega)) (lo2 := (by omega)) (hi1 := (by omega)) (hi2 := (by omega)) (ok := ok26) (hT := hT) (hS := hS6)) ?_
    intro r28 Hi r28a r28b ok29 hp30
    obtain ⟨hr7, hS7, hF7⟩ := hp30
    have e5h := (FrT_5 hF7).trans e5g
    have f5h := FrF_tr f5g (FrF_T hF7)
    refine z_iast (pc := 113) (j := 26 + (H.1 5 1).toNat) (v := r28) dX11_readCar_113 sh_5 (by omega) (by omega) (by decide) ?_
    have ok31 := okI ok29 5 (26 + (H.1 5 1).toNat) (v := r28) (by omega) (by omega)
    have e5i := (wI_up Hi 5 (26 + (H.1 5 1).toNat) r28).trans (congrArg (fun A => upA A (26 + (H.1 5 1).toNat) r28) e5h)
    refine x_aload_n (pc := 114) dX11_readCar_114 (List.Mem.tail _ (List.Mem.head _)) ?_
    refine z_getR (pc := 115) (k := 5) (r := 5) dX11_readCar_115 lf_X11_27 sh_0 rfl rf_0_5 ?_
    refine z_iconst (pc := 118) dX11_readCar_118 ?_
    refine x_dup2 (pc := 119) dX11_readCar_119 rfl rfl ?_
    refine z_iald (pc := 120) (j := 1) (v := (H.1 5 1)) dX11_readCar_120 sh_5 rfl (Nat.le_of_ble_eq_true rfl) (by decide) (by rw [e5i]; unfold upA; (repeat rw [if_neg (by omega)])) ?_
    refine z_iconst (pc := 121) dX11_readCar_121 ?_
    refine z_iadd (pc := 122) dX11_readCar_122 ?_
    refine z_iast (pc := 123) (j := 1) (v := (((H.1 5 1)) + 1)) dX11_readCar_123 sh_5 rfl (Nat.le_of_ble_eq_true rfl) (by decide) ?_
    have ok32 := okI ok31 5 1 (v := (((H.1 5 1)) + 1)) (by omega) (by omega)
    refine z_vreturn (pc := 124) dX11_readCar_124 rfl ok32 ?_
    refine ⟨fun z => absurd z (by omega), fun _ => ⟨TkS_5 (TkS_5 hS7 _ _) _ _, fun z => ?_⟩, ?_, FrF_w (FrF_w f5h _ _) _ _⟩
    · obtain ⟨z6, z5, z4, z3, z2, z1⟩ := crG_z z
      rw [wI_up, e5i, hr1 z1, hr3 z3, hr5 z5, hr7 z]
      rfl
    · rw [wI_up, e5i]; unfold upA; (repeat rw [if_neg (by omega)])
  · skip
    refine x_aload_n (pc := 13) dX11_readCar_13 (List.Mem.tail _ (List.Mem.head _)) ?_
    refine z_iconst (pc := 14) dX11_readCar_14 ?_
    refine z_callVv (pc := 15) (i := mX11_fails) (S := []) [.int (zN (4))] dX11_readCar_15 ml_X11_148 ok_X11_fails rfl sh_0 rfl rfl (Nat.le_of_ble_eq_true rfl) (c_X11_fails (d := d + 3) (a := 4) (a1 := (by omega)) (a2 := (by omega)) (ok := ok)) ?_
    intro H2 ok34 hp35
    have hfl := fl_TkS (by omega) hS hp35
    have ef : pfW T n 4 0 p = 4 := (if_pos rfl).trans (if_neg (by omega))
    have eg : pfP T n 0 p = tkA T n p := if_pos rfl
    have hS2 := TkS_eq hfl.1 ef.symm eg.symm
    have u12 := TkS_12 hS2
    refine x_aload_n (pc := 18) dX11_readCar_18 (List.Mem.tail _ (List.Mem.head _)) ?_
    refine z_getI (pc := 19) (k := 12) (v := 4) dX11_readCar_19 lf_X11_133 sh_0 rfl u12 ?_
    refine z_if_eq (pc := 22) (tgt := 26) dX11_readCar_22 (by decide) (by decide) (by decide) (fun h => absurd h (by decide)) (fun _ => ?_)
    refine z_vreturn (pc := 25) dX11_readCar_25 rfl ok34 ?_
    exact ⟨fun _ => hS2, fun z => absurd (by omega) z, congrFun (FrT_5 hfl.2.1) 39, FrF_T hfl.2.1⟩

theorem c_X11_readTrait {d : Nat} {H : ZH} (ok : okZ H) {T : Nat → Int} {n p : Nat} (hn : n ≤ 400) (hT : ∀ k, 0 ≤ T k ∧ T k ≤ 255) (hS : TkS H T n 0 p) (q34 : 0 ≤ H.1 5 34 ∧ H.1 5 34 ≤ 255) : EvC zX (d + 3) mX11_readTrait [.ref 0] (eh H) (zPv (fun (H1 : ZH) => (5 ≤ tkK T n p ∧ tkK T n p ≤ 12 → TkS H1 T n 0 (tkE T n p) ∧ H1.1 5 = upA (H.1 5) 34 (((H.1 5 34).toNat ||| 2 ^ (tkK T n p - 5).toNat : Nat))) ∧ (¬ (5 ≤ tkK T n p ∧ tkK T n p ≤ 12) → TkS H1 T n (pfW T n 2 0 p) (tkA T n p)) ∧ H1.1 5 39 = H.1 5 39 ∧ FrF H H1)) := by
  show _ ∧ Ev zX mX11_readTrait (EvC zX (d + 2)) (zPv (fun (H1 : ZH) => (5 ≤ tkK T n p ∧ tkK T n p ≤ 12 → TkS H1 T n 0 (tkE T n p) ∧ H1.1 5 = upA (H.1 5) 34 (((H.1 5 34).toNat ||| 2 ^ (tkK T n p - 5).toNat : Nat))) ∧ (¬ (5 ≤ tkK T n p ∧ tkK T n p ≤ 12) → TkS H1 T n (pfW T n 2 0 p) (tkA T n p)) ∧ H1.1 5 39 = H.1 5 39 ∧ FrF H H1)) 0 [(0, .ref 0)] [] (eh H)
  refine ⟨Nat.le_of_ble_eq_true rfl, ?_⟩
  have t12 := TkS_12 hS
  have t10 := TkS_10 hS
  have kb := (tk_bd T hS.1).2.2.2.1
  refine x_aload_n (pc := 0) dX11_readTrait_0 (List.Mem.head _) ?_
  refine z_getI (pc := 1) (k := 12) (v := 0) dX11_readTrait_1 lf_X11_133 sh_0 rfl t12 ?_
  refine z_if_eq (pc := 4) (tgt := 8) dX11_readTrait_4 (by decide) (by decide) (by decide) (fun _ => ?_) (fun h => absurd h (by decide))
  refine x_aload_n (pc := 8) dX11_readTrait_8 (List.Mem.head _) ?_
  refine z_getI (pc := 9) (k := 10) (v := (tkK T n p)) dX11_readTrait_9 lf_X11_117 sh_0 rfl t10 ?_
  refine z_i2l (pc := 12) dX11_readTrait_12 (by omega) (by omega) ?_
  refine z_ldc2_w (pc := 13) 5 dX11_readTrait_13 cl_X11_172 (by decide) ?_
  refine z_ldc2_w (pc := 16) 12 dX11_readTrait_16 cl_X11_174 (by decide) ?_
  refine z_callSbp (pc := 19) (i := mX11_within) (S := []) [.long (zL (((tkK T n p)))), .long (zL (5)), .long (zL (12))] dX11_readTrait_19 ml_X11_152 ok_X11_within rfl (Or.inr rfl) (Nat.le_of_ble_eq_true rfl) (c_X11_within (d := d + 1) (v := (((tkK T n p)))) (lo := 5) (hi := 12) (v1 := (by omega)) (v2 := (by omega)) (lo1 := (by omega)) (lo2 := (by omega)) (hi1 := (by omega)) (hi2 := (by omega)) (ok := ok)) (fun hc4 ok3 => ?_) (fun hc4 ok3 => ?_)
  · skip
    refine z_if_ne (pc := 22) (tgt := 31) dX11_readTrait_22 (by decide) (by decide) (by decide) (fun _ => ?_) (fun h => absurd h (by decide))
    refine x_aload_n (pc := 31) dX11_readTrait_31 (List.Mem.head _) ?_
    refine z_getR (pc := 32) (k := 5) (r := 5) dX11_readTrait_32 lf_X11_27 sh_0 rfl rf_0_5 ?_
    refine z_bipush (pc := 35) dX11_readTrait_35 bp_34 ?_
    refine x_dup2 (pc := 37) dX11_readTrait_37 rfl rfl ?_
    have rd6 := ok3.1 5 34
    refine z_iald (pc := 38) (j := 34) (v := H.1 5 34) dX11_readTrait_38 sh_5 rfl (Nat.le_of_ble_eq_true rfl) (by decide) rfl ?_
    refine z_iconst (pc := 39) dX11_readTrait_39 ?_
    refine x_aload_n (pc := 40) dX11_readTrait_40 (List.Mem.head _) ?_
    refine z_getI (pc := 41) (k := 10) (v := (tkK T n p)) dX11_readTrait_41 lf_X11_117 sh_0 rfl t10 ?_
    refine z_iconst (pc := 44) dX11_readTrait_44 ?_
    refine z_isub (pc := 45) dX11_readTrait_45 ?_
    have xb : (H.1 5 34).toNat ||| 2 ^ (tkK T n p - 5).toNat < 2 ^ 8 := Nat.or_lt_two_pow (by omega) (Nat.pow_lt_pow_right (by decide) (by omega))
    refine z_ishl1 (pc := 46) (k := (tkK T n p - 5).toNat) dX11_readTrait_46 (by omega) (by omega) ?_
    refine z_ior (pc := 47) (m := (H.1 5 34).toNat) (n := 2 ^ (tkK T n p - 5).toNat) dX11_readTrait_47 (by omega) rfl ?_
    refine z_iast (pc := 48) (j := 34) (v := ((((H.1 5 34).toNat) ||| (2 ^ (tkK T n p - 5).toNat) : Nat) : Int)) dX11_readTrait_48 sh_5 rfl (Nat.le_of_ble_eq_true rfl) (by decide) ?_
    have ok7 := okI ok3 5 34 (v := ((((H.1 5 34).toNat) ||| (2 ^ (tkK T n p - 5).toNat) : Nat) : Int)) (by omega) (by omega)
    refine x_aload_n (pc := 49) dX11_readTrait_49 (List.Mem.head _) ?_
    refine z_callVv (pc := 50) (i := mX11_next) (S := []) [] dX11_readTrait_50 ml_X11_142 ok_X11_next rfl sh_0 rfl rfl (Nat.le_of_ble_eq_true rfl) (c_X11_next (d := d) (n := n) (b := (tkE T n p)) (hn := hn) (hb := ((tk_bd T hS.1).2.2.1)) (ok := ok7) (h8 := (by rw [wI1c (by omega)]; exact (hS.2.2.2.2.2.1 rfl).2.1)) (h9 := (by rw [wI1c (by omega)]; exact hS.2.1)) (ht := (fun k => by rw [wI1c (by omega), hS.2.2.1]; exact hT k))) ?_
    intro H11 ok9 hp10
    have hnx := nx2 (TkS_5 hS _ _) rfl hp10
    have e5 := w5 rfl hnx.2
    refine z_vreturn (pc := 53) dX11_readTrait_53 rfl ok9 ?_
    exact ⟨fun _ => ⟨hnx.1, e5⟩, fun z => absurd (by omega) z, by rw [e5, upA_ne (by omega)], FrF_tr (FrF_w (FrF_T (FrT_rf H)) _ _) (FrF_T hnx.2)⟩
  · skip
    refine z_if_ne (pc := 22) (tgt := 31) dX11_readTrait_22 (by decide) (by decide) (by decide) (fun h => absurd h (by decide)) (fun _ => ?_)
    refine x_aload_n (pc := 25) dX11_readTrait_25 (List.Mem.head _) ?_
    refine z_iconst (pc := 26) dX11_readTrait_26 ?_
    refine z_callVv (pc := 27) (i := mX11_fails) (S := []) [.int (zN (2))] dX11_readTrait_27 ml_X11_148 ok_X11_fails rfl sh_0 rfl rfl (Nat.le_of_ble_eq_true rfl) (c_X11_fails (d := d + 1) (a := 2) (a1 := (by omega)) (a2 := (by omega)) (ok := ok3)) ?_
    intro H2 ok14 hp15
    have hfl := fl_TkS (by omega) hS hp15
    have hS2 := TkS_eq hfl.1 rfl (show tkA T n p = pfP T n 0 p from (if_pos rfl).symm)
    refine z_vreturn (pc := 30) dX11_readTrait_30 rfl ok14 ?_
    exact ⟨fun z => absurd z (by omega), fun _ => hS2, congrFun (FrT_5 hfl.2.1) 39, FrF_T hfl.2.1⟩

theorem c_X11_readLine {d : Nat} {H : ZH} (ok : okZ H) {T : Nat → Int} {n p : Nat} (hn : n ≤ 400) (hT : ∀ k, 0 ≤ T k ∧ T k ≤ 255) (hS : TkS H T n 0 p) (ws : WFS (H.1 5)) : EvC zX (d + 6) mX11_readLine [.ref 0] (eh H) (zPv (fun (H1 : ZH) => TkS H1 T n (pn T n 31 (lnM T n p (H.1 5)).1).1 (pn T n 31 (lnM T n p (H.1 5)).1).2 ∧ ((pn T n 31 (lnM T n p (H.1 5)).1).1 = 0 → H1.1 5 = upA (lnM T n p (H.1 5)).2 39 (H.1 5 39 + 1)) ∧ FrF H H1)) := by
  show _ ∧ Ev zX mX11_readLine (EvC zX (d + 5)) (zPv (fun (H1 : ZH) => TkS H1 T n (pn T n 31 (lnM T n p (H.1 5)).1).1 (pn T n 31 (lnM T n p (H.1 5)).1).2 ∧ ((pn T n 31 (lnM T n p (H.1 5)).1).1 = 0 → H1.1 5 = upA (lnM T n p (H.1 5)).2 39 (H.1 5 39 + 1)) ∧ FrF H H1)) 0 [(0, .ref 0)] [] (eh H)
  refine ⟨Nat.le_of_ble_eq_true rfl, ?_⟩
  obtain ⟨w0, w1, wc, w34, w35, w36, w37, w38, w39⟩ := ws
  have kb := (tk_bd T hS.1).2.2.2.1
  have jn150 : ∀  (Hj : ZH), okZ Hj → (TkS Hj T n (lnM T n p (H.1 5)).1.1 (lnM T n p (H.1 5)).1.2 ∧ ((lnM T n p (H.1 5)).1.1 = 0 → Hj.1 5 = (lnM T n p (H.1 5)).2) ∧ Hj.1 5 39 = H.1 5 39 ∧ FrF H Hj) → Ev zX mX11_readLine (EvC zX (d + 5)) (zPv (fun (H1 : ZH) => TkS H1 T n (pn T n 31 (lnM T n p (H.1 5)).1).1 (pn T n 31 (lnM T n p (H.1 5)).1).2 ∧ ((pn T n 31 (lnM T n p (H.1 5)).1).1 = 0 → H1.1 5 = upA (lnM T n p (H.1 5)).2 39 (H.1 5 39 + 1)) ∧ FrF H H1)) 150 [(0, .ref 0)] [] (eh Hj) := by
    intro Hj okj150 jj
    obtain ⟨ja, jb, jc, jd⟩ := jj
    refine x_aload_n (pc := 150) dX11_readLine_150 (List.Mem.head _) ?_
    refine z_bipush (pc := 151) dX11_readLine_151 bp_31 ?_
    refine z_callVv (pc := 153) (i := mX11_needs) (S := []) [.int (zN (31))] dX11_readLine_153 ml_X11_160 ok_X11_needs rfl sh_0 rfl rfl (Nat.le_of_ble_eq_true rfl) (c_X11_needs (d := d + 1) (a := 31) (hn := hn) (ha := (by omega)) (ok := okj150) (hT := hT) (hS := ja)) ?_
    intro Hl ok2 hp3
    obtain ⟨hSl, hFl⟩ := hp3
    refine x_aload_n (pc := 156) dX11_readLine_156 (List.Mem.head _) ?_
    refine z_getR (pc := 157) (k := 5) (r := 5) dX11_readLine_157 lf_X11_27 sh_0 rfl rf_0_5 ?_
    refine z_bipush (pc := 160) dX11_readLine_160 bp_39 ?_
    refine x_dup2 (pc := 162) dX11_readLine_162 rfl rfl ?_
    refine z_iald (pc := 163) (j := 39) (v := (H.1 5 39)) dX11_readLine_163 sh_5 rfl (Nat.le_of_ble_eq_true rfl) (by decide) ((hFl.1 5 39 (by omega)).trans jc) ?_
    refine z_iconst (pc := 164) dX11_readLine_164 ?_
    refine z_iadd (pc := 165) dX11_readLine_165 ?_
    refine z_iast (pc := 166) (j := 39) (v := (((H.1 5 39)) + 1)) dX11_readLine_166 sh_5 rfl (Nat.le_of_ble_eq_true rfl) (by decide) ?_
    have ok4 := okI ok2 5 39 (v := (((H.1 5 39)) + 1)) (by omega) (by omega)
    refine z_vreturn (pc := 167) dX11_readLine_167 rfl ok4 ?_
    refine ⟨TkS_5 hSl _ _, fun z => ?_, FrF_w (FrF_tr jd (FrF_T hFl)) _ _⟩
    rw [wI_up, FrT_5 hFl, jb (pnW_z z).1]
  refine x_aload_n (pc := 0) dX11_readLine_0 (List.Mem.head _) ?_
  refine z_iconst (pc := 1) dX11_readLine_1 ?_
  refine z_callVi (pc := 2) (i := mX11_eats) (S := []) [.int (zN (0))] dX11_readLine_2 ml_X11_145 ok_X11_eats rfl sh_0 rfl (Or.inr rfl) (Nat.le_of_ble_eq_true rfl) (c_X11_eats (d := d + 2) (a := 0) (hn := hn) (ha := (by omega)) (ok := ok) (hT := hT) (hS := hS)) ?_
  intro r5 H2 r5a r5b ok6 hp7
  obtain ⟨hr2, hS2, hG2⟩ := hp7
  have hF2 : FrT H H2 := FrT_tr (FrT_rf H) hG2
  refine z_if_eq (pc := 5) (tgt := 26) dX11_readLine_5 (by decide) (by omega) (by omega) (fun hb8 => ?_) (fun hb8 => ?_)
  · skip
    obtain ⟨ne0, hT2⟩ := eat_f hr2 hb8 hS2
    refine x_aload_n (pc := 26) dX11_readLine_26 (List.Mem.head _) ?_
    refine z_iconst (pc := 27) dX11_readLine_27 ?_
    refine z_callVbp (pc := 28) (i := mX11_is) (S := []) [.int (zN (1))] dX11_readLine_28 ml_X11_139 ok_X11_is rfl sh_0 rfl (Or.inr rfl) (Nat.le_of_ble_eq_true rfl) (c_X11_is (d := d + 4) (a := 1) (a1 := (by omega)) (a2 := (by omega)) (ok := ok6)) (fun hc11 ok10 => ?_) (fun hc11 ok10 => ?_)
    · skip
      have ek : tkK T n p = 1 := by have y := TkS_10 hT2; omega
      refine z_if_eq (pc := 31) (tgt := 41) dX11_readLine_31 (by decide) (by decide) (by decide) (fun h => absurd h (by decide)) (fun _ => ?_)
      refine x_aload_n (pc := 34) dX11_readLine_34 (List.Mem.head _) ?_
      refine z_callVv (pc := 35) (i := mX11_readCar) (S := []) [] dX11_readLine_35 ml_X11_166 ok_X11_readCar rfl sh_0 rfl rfl (Nat.le_of_ble_eq_true rfl) (c_X11_readCar (d := d) (hn := hn) (ok := ok10) (hT := hT) (hS := hT2) (hK := ek) (q0 := (by rw [FrT_5 hF2]; exact w0)) (q1 := (by rw [FrT_5 hF2]; exact w1))) ?_
      intro Hk ok14 hp15
      rw [FrT_5 hF2] at hp15
      obtain ⟨ha, hb9, hc9, hd9⟩ := hp15
      have hj : TkS Hk T n (lnM T n p (H.1 5)).1.1 (lnM T n p (H.1 5)).1.2 ∧ ((lnM T n p (H.1 5)).1.1 = 0 → Hk.1 5 = (lnM T n p (H.1 5)).2) ∧ Hk.1 5 39 = H.1 5 39 ∧ FrF H Hk := by
        by_cases z8 : H.1 5 1 = 8
        · have hlm : (lnM T n p (H.1 5)) = ((4, tkA T n p), H.1 5) := (if_neg (by omega)).trans ((if_pos ek).trans (if_pos z8))
          rw [hlm]
          exact ⟨ha z8, fun z => absurd z (show (4 : Int) ≠ 0 by decide), hc9, FrF_tr (FrF_T hF2) hd9⟩
        · have hlm : (lnM T n p (H.1 5)) = (crG T n (H.1 5 0 - 1) p, crQ T n (H.1 5) p) := (if_neg (by omega)).trans ((if_pos ek).trans (if_neg z8))
          rw [hlm]
          exact ⟨(hb9 z8).1, (hb9 z8).2, hc9, FrF_tr (FrF_T hF2) hd9⟩
      refine x_goto (pc := 38) (tgt := 150) dX11_readLine_38 (by decide) ?_
      refine x_weaken (L1 := [(0, .ref 0)]) (List.forall_mem_cons.mpr ⟨(List.Mem.head _), (fun _ h => absurd h List.not_mem_nil)⟩) ?_
      exact jn150  Hk ok14 (hj)
    · skip
      have ne1 : tkK T n p ≠ 1 := fun z => hc11 ⟨TkS_12 hT2, (TkS_10 hT2).trans z⟩
      refine z_if_eq (pc := 31) (tgt := 41) dX11_readLine_31 (by decide) (by decide) (by decide) (fun _ => ?_) (fun h => absurd h (by decide))
      refine x_aload_n (pc := 41) dX11_readLine_41 (List.Mem.head _) ?_
      refine z_bipush (pc := 42) dX11_readLine_42 bp_13 ?_
      refine z_callVi (pc := 44) (i := mX11_eats) (S := []) [.int (zN (13))] dX11_readLine_44 ml_X11_145 ok_X11_eats rfl sh_0 rfl (Or.inr rfl) (Nat.le_of_ble_eq_true rfl) (c_X11_eats (d := d + 2) (a := 13) (hn := hn) (ha := (by omega)) (ok := ok10) (hT := hT) (hS := hT2)) ?_
      intro r17 H3 r17a r17b ok18 hp19
      obtain ⟨hr3, hS3, hG3⟩ := hp19
      have hF3 : FrT H H3 := FrT_tr hF2 hG3
      refine z_if_eq (pc := 47) (tgt := 67) dX11_readLine_47 (by decide) (by omega) (by omega) (fun hb20 => ?_) (fun hb20 => ?_)
      · skip
        obtain ⟨ne13, hT3⟩ := eat_f hr3 hb20 hS3
        refine x_aload_n (pc := 67) dX11_readLine_67 (List.Mem.head _) ?_
        refine z_bipush (pc := 68) dX11_readLine_68 bp_14 ?_
        refine z_callVi (pc := 70) (i := mX11_eats) (S := []) [.int (zN (14))] dX11_readLine_70 ml_X11_145 ok_X11_eats rfl sh_0 rfl (Or.inr rfl) (Nat.le_of_ble_eq_true rfl) (c_X11_eats (d := d + 2) (a := 14) (hn := hn) (ha := (by omega)) (ok := ok18) (hT := hT) (hS := hT3)) ?_
        intro r21 H4 r21a r21b ok22 hp23
        obtain ⟨hr4, hS4, hG4⟩ := hp23
        have hF4 : FrT H H4 := FrT_tr hF3 hG4
        refine z_if_eq (pc := 73) (tgt := 93) dX11_readLine_73 (by decide) (by omega) (by omega) (fun hb24 => ?_) (fun hb24 => ?_)
        · skip
          obtain ⟨ne14, hT4⟩ := eat_f hr4 hb24 hS4
          refine x_aload_n (pc := 93) dX11_readLine_93 (List.Mem.head _) ?_
          refine z_bipush (pc := 94) dX11_readLine_94 bp_15 ?_
          refine z_callVi (pc := 96) (i := mX11_eats) (S := []) [.int (zN (15))] dX11_readLine_96 ml_X11_145 ok_X11_eats rfl sh_0 rfl (Or.inr rfl) (Nat.le_of_ble_eq_true rfl) (c_X11_eats (d := d + 2) (a := 15) (hn := hn) (ha := (by omega)) (ok := ok22) (hT := hT) (hS := hT4)) ?_
          intro r25 H5 r25a r25b ok26 hp27
          obtain ⟨hr5, hS5, hG5⟩ := hp27
          have hF5 : FrT H H5 := FrT_tr hF4 hG5
          refine z_if_eq (pc := 99) (tgt := 119) dX11_readLine_99 (by decide) (by omega) (by omega) (fun hb28 => ?_) (fun hb28 => ?_)
          · skip
            obtain ⟨ne15, hT5⟩ := eat_f hr5 hb28 hS5
            refine x_aload_n (pc := 119) dX11_readLine_119 (List.Mem.head _) ?_
            refine z_bipush (pc := 120) dX11_readLine_120 bp_16 ?_
            refine z_callVi (pc := 122) (i := mX11_eats) (S := []) [.int (zN (16))] dX11_readLine_122 ml_X11_145 ok_X11_eats rfl sh_0 rfl (Or.inr rfl) (Nat.le_of_ble_eq_true rfl) (c_X11_eats (d := d + 2) (a := 16) (hn := hn) (ha := (by omega)) (ok := ok26) (hT := hT) (hS := hT5)) ?_
            intro r29 H6 r29a r29b ok30 hp31
            obtain ⟨hr6, hS6, hG6⟩ := hp31
            have hF6 : FrT H H6 := FrT_tr hF5 hG6
            refine z_if_eq (pc := 125) (tgt := 146) dX11_readLine_125 (by decide) (by omega) (by omega) (fun hb32 => ?_) (fun hb32 => ?_)
            · skip
              obtain ⟨ne16, hT6⟩ := eat_f hr6 hb32 hS6
              refine x_aload_n (pc := 146) dX11_readLine_146 (List.Mem.head _) ?_
              refine z_callVv (pc := 147) (i := mX11_readTrait) (S := []) [] dX11_readLine_147 ml_X11_169 ok_X11_readTrait rfl sh_0 rfl rfl (Nat.le_of_ble_eq_true rfl) (c_X11_readTrait (d := d + 2) (hn := hn) (ok := ok30) (hT := hT) (hS := hT6) (q34 := (by rw [FrT_5 hF6]; exact w34))) ?_
              intro Hk ok34 hp35
              rw [FrT_5 hF6] at hp35
              obtain ⟨ha, hb9, hc9, hd9⟩ := hp35
              have hj : TkS Hk T n (lnM T n p (H.1 5)).1.1 (lnM T n p (H.1 5)).1.2 ∧ ((lnM T n p (H.1 5)).1.1 = 0 → Hk.1 5 = (lnM T n p (H.1 5)).2) ∧ Hk.1 5 39 = H.1 5 39 ∧ FrF H Hk := by
                by_cases z8 : 5 ≤ tkK T n p ∧ tkK T n p ≤ 12
                · have hlm : (lnM T n p (H.1 5)) = ((0, tkE T n p), upA (H.1 5) 34 (((H.1 5 34).toNat ||| 2 ^ (tkK T n p - 5).toNat : Nat))) := (if_neg ne0).trans ((if_neg ne1).trans ((if_neg ne13).trans ((if_neg ne14).trans ((if_neg ne15).trans ((if_neg ne16).trans (if_pos z8))))))
                  rw [hlm]
                  exact ⟨(ha z8).1, fun _ => (ha z8).2, hc9, FrF_tr (FrF_T hF6) hd9⟩
                · have hlm : (lnM T n p (H.1 5)) = ((pfW T n 2 0 p, tkA T n p), H.1 5) := (if_neg ne0).trans ((if_neg ne1).trans ((if_neg ne13).trans ((if_neg ne14).trans ((if_neg ne15).trans ((if_neg ne16).trans (if_neg z8))))))
                  rw [hlm]
                  have pfn : pfW T n 2 0 p ≠ 0 := by have e : pfW T n 2 0 p = if tkK T n p = 35 then 1 else 2 := if_pos rfl; rw [e]; split <;> omega
                  exact ⟨hb9 z8, fun z => absurd z pfn, hc9, FrF_tr (FrF_T hF6) hd9⟩
              refine x_weaken (L1 := [(0, .ref 0)]) (List.forall_mem_cons.mpr ⟨(List.Mem.head _), (fun _ h => absurd h List.not_mem_nil)⟩) ?_
              exact jn150  Hk ok34 (hj)
            · skip
              obtain ⟨ek, hS9⟩ := eat_t hr6 hb32 hS6
              have hF9 := hF6
              have e59 := FrT_5 hF9
              refine x_aload_n (pc := 128) dX11_readLine_128 (List.Mem.head _) ?_
              refine z_getR (pc := 129) (k := 5) (r := 5) dX11_readLine_129 lf_X11_27 sh_0 rfl rf_0_5 ?_
              refine z_bipush (pc := 132) dX11_readLine_132 bp_38 ?_
              refine x_aload_n (pc := 134) dX11_readLine_134 (List.Mem.head _) ?_
              refine z_iconst (pc := 135) dX11_readLine_135 ?_
              refine z_sipush (pc := 136) dX11_readLine_136 sp_200 ?_
              refine z_callVi (pc := 139) (i := mX11_takes) (S := [.int (zN (38)), .ref 5]) [.int (zN (1)), .int (zN (200))] dX11_readLine_139 ml_X11_156 ok_X11_takes rfl sh_0 rfl (Or.inl rfl) (Nat.le_of_ble_eq_true rfl) (c_X11_takes (d := d + 2) (lo := 1) (hi := 200) (hn := hn) (lo1 := (by omega)) (lo2 := (by omega)) (hi1 := (by omega)) (hi2 := (by omega)) (ok := ok30) (hT := hT) (hS := hS9)) ?_
              intro r36 Hk r36a r36b ok37 hp38
              obtain ⟨hr9, hS10, hF10⟩ := hp38
              have hlm : (lnM T n p (H.1 5)) = (pt T n 1 200 (0, tkE T n p), upA (H.1 5) 38 (tkN T n (tkE T n p))) := (if_neg ne0).trans ((if_neg ne1).trans ((if_neg ne13).trans ((if_neg ne14).trans ((if_neg ne15).trans (if_pos ek)))))
              refine z_iast (pc := 142) (j := 38) (v := r36) dX11_readLine_142 sh_5 rfl (Nat.le_of_ble_eq_true rfl) (by decide) ?_
              have ok39 := okI ok37 5 38 (v := r36) (by omega) (by omega)
              have hj : TkS (wI Hk 5 38 (r36)) T n (lnM T n p (H.1 5)).1.1 (lnM T n p (H.1 5)).1.2 ∧ ((lnM T n p (H.1 5)).1.1 = 0 → (wI Hk 5 38 (r36)).1 5 = (lnM T n p (H.1 5)).2) ∧ (wI Hk 5 38 (r36)).1 5 39 = H.1 5 39 ∧ FrF H (wI Hk 5 38 (r36)) := by
                rw [hlm]
                refine ⟨TkS_5 hS10 _ _, fun z => ?_, ?_, FrF_w (FrF_tr (FrF_T hF9) (FrF_T hF10)) _ _⟩
                · rw [wI_up, FrT_5 hF10, e59, hr9 z]
                · rw [wI1k (by omega), hF10.1 5 39 (by omega), e59]
              refine x_goto (pc := 143) (tgt := 150) dX11_readLine_143 (by decide) ?_
              refine x_weaken (L1 := [(0, .ref 0)]) (List.forall_mem_cons.mpr ⟨(List.Mem.head _), (fun _ h => absurd h List.not_mem_nil)⟩) ?_
              exact jn150  (wI Hk 5 38 (r36)) ok39 (hj)
          · skip
            obtain ⟨ek, hS9⟩ := eat_t hr5 hb28 hS5
            have hF9 := hF5
            have e59 := FrT_5 hF9
            refine x_aload_n (pc := 102) dX11_readLine_102 (List.Mem.head _) ?_
            refine z_getR (pc := 103) (k := 5) (r := 5) dX11_readLine_103 lf_X11_27 sh_0 rfl rf_0_5 ?_
            refine z_bipush (pc := 106) dX11_readLine_106 bp_37 ?_
            refine x_aload_n (pc := 108) dX11_readLine_108 (List.Mem.head _) ?_
            refine z_iconst (pc := 109) dX11_readLine_109 ?_
            refine z_bipush (pc := 110) dX11_readLine_110 bp_60 ?_
            refine z_callVi (pc := 112) (i := mX11_takes) (S := [.int (zN (37)), .ref 5]) [.int (zN (0)), .int (zN (60))] dX11_readLine_112 ml_X11_156 ok_X11_takes rfl sh_0 rfl (Or.inl rfl) (Nat.le_of_ble_eq_true rfl) (c_X11_takes (d := d + 2) (lo := 0) (hi := 60) (hn := hn) (lo1 := (by omega)) (lo2 := (by omega)) (hi1 := (by omega)) (hi2 := (by omega)) (ok := ok26) (hT := hT) (hS := hS9)) ?_
            intro r40 Hk r40a r40b ok41 hp42
            obtain ⟨hr9, hS10, hF10⟩ := hp42
            have hlm : (lnM T n p (H.1 5)) = (pt T n 0 60 (0, tkE T n p), upA (H.1 5) 37 (tkN T n (tkE T n p))) := (if_neg ne0).trans ((if_neg ne1).trans ((if_neg ne13).trans ((if_neg ne14).trans (if_pos ek))))
            refine z_iast (pc := 115) (j := 37) (v := r40) dX11_readLine_115 sh_5 rfl (Nat.le_of_ble_eq_true rfl) (by decide) ?_
            have ok43 := okI ok41 5 37 (v := r40) (by omega) (by omega)
            have hj : TkS (wI Hk 5 37 (r40)) T n (lnM T n p (H.1 5)).1.1 (lnM T n p (H.1 5)).1.2 ∧ ((lnM T n p (H.1 5)).1.1 = 0 → (wI Hk 5 37 (r40)).1 5 = (lnM T n p (H.1 5)).2) ∧ (wI Hk 5 37 (r40)).1 5 39 = H.1 5 39 ∧ FrF H (wI Hk 5 37 (r40)) := by
              rw [hlm]
              refine ⟨TkS_5 hS10 _ _, fun z => ?_, ?_, FrF_w (FrF_tr (FrF_T hF9) (FrF_T hF10)) _ _⟩
              · rw [wI_up, FrT_5 hF10, e59, hr9 z]
              · rw [wI1k (by omega), hF10.1 5 39 (by omega), e59]
            refine x_goto (pc := 116) (tgt := 150) dX11_readLine_116 (by decide) ?_
            refine x_weaken (L1 := [(0, .ref 0)]) (List.forall_mem_cons.mpr ⟨(List.Mem.head _), (fun _ h => absurd h List.not_mem_nil)⟩) ?_
            exact jn150  (wI Hk 5 37 (r40)) ok43 (hj)
        · skip
          obtain ⟨ek, hS9⟩ := eat_t hr4 hb24 hS4
          have hF9 := hF4
          have e59 := FrT_5 hF9
          refine x_aload_n (pc := 76) dX11_readLine_76 (List.Mem.head _) ?_
          refine z_getR (pc := 77) (k := 5) (r := 5) dX11_readLine_77 lf_X11_27 sh_0 rfl rf_0_5 ?_
          refine z_bipush (pc := 80) dX11_readLine_80 bp_36 ?_
          refine x_aload_n (pc := 82) dX11_readLine_82 (List.Mem.head _) ?_
          refine z_iconst (pc := 83) dX11_readLine_83 ?_
          refine z_bipush (pc := 84) dX11_readLine_84 bp_20 ?_
          refine z_callVi (pc := 86) (i := mX11_takes) (S := [.int (zN (36)), .ref 5]) [.int (zN (0)), .int (zN (20))] dX11_readLine_86 ml_X11_156 ok_X11_takes rfl sh_0 rfl (Or.inl rfl) (Nat.le_of_ble_eq_true rfl) (c_X11_takes (d := d + 2) (lo := 0) (hi := 20) (hn := hn) (lo1 := (by omega)) (lo2 := (by omega)) (hi1 := (by omega)) (hi2 := (by omega)) (ok := ok22) (hT := hT) (hS := hS9)) ?_
          intro r44 Hk r44a r44b ok45 hp46
          obtain ⟨hr9, hS10, hF10⟩ := hp46
          have hlm : (lnM T n p (H.1 5)) = (pt T n 0 20 (0, tkE T n p), upA (H.1 5) 36 (tkN T n (tkE T n p))) := (if_neg ne0).trans ((if_neg ne1).trans ((if_neg ne13).trans (if_pos ek)))
          refine z_iast (pc := 89) (j := 36) (v := r44) dX11_readLine_89 sh_5 rfl (Nat.le_of_ble_eq_true rfl) (by decide) ?_
          have ok47 := okI ok45 5 36 (v := r44) (by omega) (by omega)
          have hj : TkS (wI Hk 5 36 (r44)) T n (lnM T n p (H.1 5)).1.1 (lnM T n p (H.1 5)).1.2 ∧ ((lnM T n p (H.1 5)).1.1 = 0 → (wI Hk 5 36 (r44)).1 5 = (lnM T n p (H.1 5)).2) ∧ (wI Hk 5 36 (r44)).1 5 39 = H.1 5 39 ∧ FrF H (wI Hk 5 36 (r44)) := by
            rw [hlm]
            refine ⟨TkS_5 hS10 _ _, fun z => ?_, ?_, FrF_w (FrF_tr (FrF_T hF9) (FrF_T hF10)) _ _⟩
            · rw [wI_up, FrT_5 hF10, e59, hr9 z]
            · rw [wI1k (by omega), hF10.1 5 39 (by omega), e59]
          refine x_goto (pc := 90) (tgt := 150) dX11_readLine_90 (by decide) ?_
          refine x_weaken (L1 := [(0, .ref 0)]) (List.forall_mem_cons.mpr ⟨(List.Mem.head _), (fun _ h => absurd h List.not_mem_nil)⟩) ?_
          exact jn150  (wI Hk 5 36 (r44)) ok47 (hj)
      · skip
        obtain ⟨ek, hS9⟩ := eat_t hr3 hb20 hS3
        have hF9 := hF3
        have e59 := FrT_5 hF9
        refine x_aload_n (pc := 50) dX11_readLine_50 (List.Mem.head _) ?_
        refine z_getR (pc := 51) (k := 5) (r := 5) dX11_readLine_51 lf_X11_27 sh_0 rfl rf_0_5 ?_
        refine z_bipush (pc := 54) dX11_readLine_54 bp_35 ?_
        refine x_aload_n (pc := 56) dX11_readLine_56 (List.Mem.head _) ?_
        refine z_iconst (pc := 57) dX11_readLine_57 ?_
        refine z_bipush (pc := 58) dX11_readLine_58 bp_30 ?_
        refine z_callVi (pc := 60) (i := mX11_takes) (S := [.int (zN (35)), .ref 5]) [.int (zN (0)), .int (zN (30))] dX11_readLine_60 ml_X11_156 ok_X11_takes rfl sh_0 rfl (Or.inl rfl) (Nat.le_of_ble_eq_true rfl) (c_X11_takes (d := d + 2) (lo := 0) (hi := 30) (hn := hn) (lo1 := (by omega)) (lo2 := (by omega)) (hi1 := (by omega)) (hi2 := (by omega)) (ok := ok18) (hT := hT) (hS := hS9)) ?_
        intro r48 Hk r48a r48b ok49 hp50
        obtain ⟨hr9, hS10, hF10⟩ := hp50
        have hlm : (lnM T n p (H.1 5)) = (pt T n 0 30 (0, tkE T n p), upA (H.1 5) 35 (tkN T n (tkE T n p))) := (if_neg ne0).trans ((if_neg ne1).trans (if_pos ek))
        refine z_iast (pc := 63) (j := 35) (v := r48) dX11_readLine_63 sh_5 rfl (Nat.le_of_ble_eq_true rfl) (by decide) ?_
        have ok51 := okI ok49 5 35 (v := r48) (by omega) (by omega)
        have hj : TkS (wI Hk 5 35 (r48)) T n (lnM T n p (H.1 5)).1.1 (lnM T n p (H.1 5)).1.2 ∧ ((lnM T n p (H.1 5)).1.1 = 0 → (wI Hk 5 35 (r48)).1 5 = (lnM T n p (H.1 5)).2) ∧ (wI Hk 5 35 (r48)).1 5 39 = H.1 5 39 ∧ FrF H (wI Hk 5 35 (r48)) := by
          rw [hlm]
          refine ⟨TkS_5 hS10 _ _, fun z => ?_, ?_, FrF_w (FrF_tr (FrF_T hF9) (FrF_T hF10)) _ _⟩
          · rw [wI_up, FrT_5 hF10, e59, hr9 z]
          · rw [wI1k (by omega), hF10.1 5 39 (by omega), e59]
        refine x_goto (pc := 64) (tgt := 150) dX11_readLine_64 (by decide) ?_
        refine x_weaken (L1 := [(0, .ref 0)]) (List.forall_mem_cons.mpr ⟨(List.Mem.head _), (fun _ h => absurd h List.not_mem_nil)⟩) ?_
        exact jn150  (wI Hk 5 35 (r48)) ok51 (hj)
  · skip
    obtain ⟨ek, hS9⟩ := eat_t hr2 hb8 hS2
    have hF9 := hF2
    have e59 := FrT_5 hF9
    refine x_aload_n (pc := 8) dX11_readLine_8 (List.Mem.head _) ?_
    refine z_getR (pc := 9) (k := 5) (r := 5) dX11_readLine_9 lf_X11_27 sh_0 rfl rf_0_5 ?_
    refine z_iconst (pc := 12) dX11_readLine_12 ?_
    refine x_aload_n (pc := 13) dX11_readLine_13 (List.Mem.head _) ?_
    refine x_aload_n (pc := 14) dX11_readLine_14 (List.Mem.head _) ?_
    refine z_callVip (pc := 15) (i := mX11_lanesNeeded) (S := [.ref 0, .int (zN (0)), .ref 5]) [] dX11_readLine_15 ml_X11_163 ok_X11_lanesNeeded rfl sh_0 rfl (Or.inl rfl) (Nat.le_of_ble_eq_true rfl) (c_X11_lanesNeeded (d := d + 4) (ok := ok6) (hn8 := (by rw [e59]; exact w1)) (hl := (fun j hj => by rw [e59] at hj ⊢; have y := wc j hj; omega))) (fun r52a r52b ok53 => ?_)
    have lb := lnd_bd (f := fun j => H2.1 5 (2 + j)) (H2.1 5 1).toNat (fun j hj => by rw [e59] at hj; have y := wc j (by omega); show H2.1 5 (2 + j) ≤ 3; rw [e59]; omega)
    refine z_iconst (pc := 18) dX11_readLine_18 ?_
    refine z_callVi (pc := 19) (i := mX11_takes) (S := [.int (zN (0)), .ref 5]) [.int (zN ((lnd (fun j => H2.1 5 (2 + j)) (H2.1 5 1).toNat))), .int (zN (4))] dX11_readLine_19 ml_X11_156 ok_X11_takes rfl sh_0 rfl (Or.inl rfl) (Nat.le_of_ble_eq_true rfl) (c_X11_takes (d := d + 2) (lo := ((lnd (fun j => H2.1 5 (2 + j)) (H2.1 5 1).toNat))) (hi := 4) (hn := hn) (lo1 := (by omega)) (lo2 := (by omega)) (hi1 := (by omega)) (hi2 := (by omega)) (ok := ok53) (hT := hT) (hS := hS9)) ?_
    intro r54 Hk r54a r54b ok55 hp56
    obtain ⟨hr9, hS10, hF10⟩ := hp56
    rw [e59] at hr9 hS10
    have hlm : (lnM T n p (H.1 5)) = (pt T n (lnd (fun j => H.1 5 (2 + j)) (H.1 5 1).toNat) 4 (0, tkE T n p), upA (H.1 5) 0 (tkN T n (tkE T n p))) := if_pos ek
    refine z_iast (pc := 22) (j := 0) (v := r54) dX11_readLine_22 sh_5 rfl (Nat.le_of_ble_eq_true rfl) (by decide) ?_
    have ok57 := okI ok55 5 0 (v := r54) (by omega) (by omega)
    have hj : TkS (wI Hk 5 0 (r54)) T n (lnM T n p (H.1 5)).1.1 (lnM T n p (H.1 5)).1.2 ∧ ((lnM T n p (H.1 5)).1.1 = 0 → (wI Hk 5 0 (r54)).1 5 = (lnM T n p (H.1 5)).2) ∧ (wI Hk 5 0 (r54)).1 5 39 = H.1 5 39 ∧ FrF H (wI Hk 5 0 (r54)) := by
      rw [hlm]
      refine ⟨TkS_5 hS10 _ _, fun z => ?_, ?_, FrF_w (FrF_tr (FrF_T hF9) (FrF_T hF10)) _ _⟩
      · rw [wI_up, FrT_5 hF10, e59, hr9 z]
      · rw [wI1k (by omega), hF10.1 5 39 (by omega), e59]
    refine x_goto (pc := 23) (tgt := 150) dX11_readLine_23 (by decide) ?_
    refine x_weaken (L1 := [(0, .ref 0)]) (List.forall_mem_cons.mpr ⟨(List.Mem.head _), (fun _ h => absurd h List.not_mem_nil)⟩) ?_
    exact jn150  (wI Hk 5 0 (r54)) ok57 (hj)
