/-! GROUP H9: a LINE of THE SCENE in the class. -/
theorem ClO_t {H : ZH} {T : Nat → Int} {n p : Nat} {r w : Int} (h : ClO H T n r w p) (hr : r ≠ 0) : w = 0 ∧ ClS H T n p := by
  by_cases z : w = 0
  · exact ⟨z, (h.1 z).2⟩
  · exact absurd (h.2 z).1 hr
theorem ClO_f {H : ZH} {T : Nat → Int} {n p : Nat} {r w : Int} (h : ClO H T n r w p) (hr : r = 0) : w ≠ 0 ∧ H.1 28 2 = w ∧ H.1 28 3 = (p : Int) := by
  by_cases z : w = 0
  · have y := (h.1 z).1
    omega
  · exact ⟨z, (h.2 z).2⟩
theorem ClO_01 {H : ZH} {T : Nat → Int} {n p : Nat} {r w : Int} (h : ClO H T n r w p) : r = 0 ∨ r = 1 := by
  by_cases z : w = 0
  · exact Or.inr (h.1 z).1
  · exact Or.inl (h.2 z).1
theorem ClO_0 {H : ZH} {T : Nat → Int} {n p : Nat} {w : Int} (h : w ≠ 0 ∧ H.1 28 2 = w ∧ H.1 28 3 = (p : Int)) : ClO H T n 0 w p := ⟨fun z => absurd z h.1, fun _ => ⟨rfl, h.2⟩⟩
theorem ClS_w {H : ZH} {T : Nat → Int} {n p : Nat} (h : ClS H T n p) {c k : Nat} {v : Int} (hc : 29 ≤ c) : ClS (wI H c k v) T n p := by
  obtain ⟨t1, t2, t3, t4, t5, t6, t7, t8, t9, t10⟩ := h
  refine ⟨t1, ?_, ?_, TpC_c (wIf (by omega)) t4, ?_, ?_, ?_, fun z => ?_, ?_, ?_⟩
  · rw [wI1c (by omega)]; exact t2
  · rw [wI1c (by omega)]; exact t3
  · rw [wI1c (by omega)]; exact t5
  · rw [wI1c (by omega)]; exact t6
  · rw [wI1c (by omega)]; exact t7
  · rw [wI1c (by omega)]; exact t8 z
  · rw [wI1c (by omega)]; exact t9
  · rw [wI1c (by omega)]; exact t10
def FrS (H H1 : ZH) : Prop := (∀ cc k, ¬ (30 ≤ cc ∧ cc ≤ 34) → ¬ (cc = 28 ∧ (k = 2 ∨ k = 3 ∨ (6 ≤ k ∧ k ≤ 10))) → H1.1 cc k = H.1 cc k) ∧ H1.2 = H.2
theorem FrS_rf (H : ZH) : FrS H H := ⟨fun _ _ _ _ => rfl, rfl⟩
theorem FrS_K {H H1 : ZH} (a : FcK H H1) : FrS H H1 := ⟨fun cc k _ h => a.1 cc k h, a.2⟩
theorem FrS_tr {H H1 H2 : ZH} (a : FrS H H1) (b : FrS H1 H2) : FrS H H2 := ⟨fun cc k g h => (b.1 cc k g h).trans (a.1 cc k g h), b.2.trans a.2⟩
theorem FrS_w {H H1 : ZH} (a : FrS H H1) {c k : Nat} {v : Int} (hc : 30 ≤ c ∧ c ≤ 34) : FrS H (wI H1 c k v) := ⟨fun cc j g h => by rw [wI1c (by omega)]; exact a.1 cc j g h, a.2⟩
theorem RepSc_cg {H H1 : ZH} {q : Nat → Int} (h : ∀ cc k, 30 ≤ cc → cc ≤ 34 → H1.1 cc k = H.1 cc k) (r : RepSc H 30 q) : RepSc H1 30 q := by
  obtain ⟨r0, r1, rc, r6, r7, r8, r9, r10, r11⟩ := r
  exact ⟨(h 30 0 (by omega) (by omega)).trans r0, (h 30 1 (by omega) (by omega)).trans r1, fun c hc => ⟨(h 31 c (by omega) (by omega)).trans (rc c hc).1, (h 32 c (by omega) (by omega)).trans (rc c hc).2.1, (h 33 c (by omega) (by omega)).trans (rc c hc).2.2.1, (h 34 c (by omega) (by omega)).trans (rc c hc).2.2.2⟩, (h 30 6 (by omega) (by omega)).trans r6, (h 30 7 (by omega) (by omega)).trans r7, (h 30 8 (by omega) (by omega)).trans r8, (h 30 9 (by omega) (by omega)).trans r9, (h 30 10 (by omega) (by omega)).trans r10, (h 30 11 (by omega) (by omega)).trans r11⟩
theorem RepSc_K {H H1 : ZH} {q : Nat → Int} (a : FcK H H1) (r : RepSc H 30 q) : RepSc H1 30 q := RepSc_cg (fun cc k h1 h2 => a.1 cc k (by omega)) r
theorem RepSc_x {H : ZH} {q : Nat → Int} {c k : Nat} {v : Int} (hc : 31 ≤ c ∧ c ≤ 34) (hk : q 1 ≤ (k : Int)) (r : RepSc H 30 q) : RepSc (wI H c k v) 30 q := by
  obtain ⟨r0, r1, rc, r6, r7, r8, r9, r10, r11⟩ := r
  have e : ∀ j, (wI H c k v).1 30 j = H.1 30 j := fun j => wI1c (by omega)
  exact ⟨(e 0).trans r0, (e 1).trans r1, fun d hd => ⟨(wI1k (by omega)).trans (rc d hd).1, (wI1k (by omega)).trans (rc d hd).2.1, (wI1k (by omega)).trans (rc d hd).2.2.1, (wI1k (by omega)).trans (rc d hd).2.2.2⟩, (e 6).trans r6, (e 7).trans r7, (e 8).trans r8, (e 9).trans r9, (e 10).trans r10, (e 11).trans r11⟩
theorem RepSc_0 {H : ZH} {q : Nat → Int} {v : Int} (r : RepSc H 30 q) : RepSc (wI H 30 0 v) 30 (upA q 0 v) := by
  obtain ⟨r0, r1, rc, r6, r7, r8, r9, r10, r11⟩ := r
  have e : ∀ j, j ≠ 0 → (wI H 30 0 v).1 30 j = H.1 30 j := fun j hj => wI1k hj
  refine ⟨by rw [wI1, upA_at], ?_, fun c hc => ?_, ?_, ?_, ?_, ?_, ?_, ?_⟩
  · rw [e 1 (by omega), upA_ne (by omega)]; exact r1
  · rw [upA_ne (by omega)] at hc
    rw [wI1c (by omega), wI1c (by omega), wI1c (by omega), wI1c (by omega), upA_ne (by omega), upA_ne (by omega), upA_ne (by omega), upA_ne (by omega)]
    exact rc c hc
  · rw [e 6 (by omega), upA_ne (by omega)]; exact r6
  · rw [e 7 (by omega), upA_ne (by omega)]; exact r7
  · rw [e 8 (by omega), upA_ne (by omega)]; exact r8
  · rw [e 9 (by omega), upA_ne (by omega)]; exact r9
  · rw [e 10 (by omega), upA_ne (by omega)]; exact r10
  · rw [e 11 (by omega), upA_ne (by omega)]; exact r11
theorem wup {H : ZH} {q : Nat → Int} {k j : Nat} {v : Int} (h : H.1 30 j = q (28 + j)) : (wI H 30 k v).1 30 j = upA q (28 + k) v (28 + j) := by
  by_cases z : j = k
  · rw [z, wI1, upA_at]
  · rw [wI1k z, upA_ne (by omega)]; exact h
theorem RepSc_i {H : ZH} {q : Nat → Int} {v : Int} {k : Nat} (hk : 6 ≤ k) (h8 : q 1 ≤ 8) (r : RepSc H 30 q) : RepSc (wI H 30 k v) 30 (upA q (28 + k) v) := by
  obtain ⟨r0, r1, rc, r6, r7, r8, r9, r10, r11⟩ := r
  refine ⟨?_, ?_, fun c hc => ?_, wup r6, wup r7, wup r8, wup r9, wup r10, wup r11⟩
  · rw [wI1k (by omega), upA_ne (by omega)]; exact r0
  · rw [wI1k (by omega), upA_ne (by omega)]; exact r1
  · rw [upA_ne (by omega)] at hc
    rw [wI1c (by omega), wI1c (by omega), wI1c (by omega), wI1c (by omega), upA_ne (by omega), upA_ne (by omega), upA_ne (by omega), upA_ne (by omega)]
    exact rc c hc
theorem car_end {H : ZH} {q : Nat → Int} {v1 v2 v3 v4 : Int} {m : Nat} (hm : q 1 = (m : Int)) (h7 : m ≤ 7) (r : RepSc H 30 q) (a1 : H.1 31 m = v1) (a2 : H.1 32 m = v2) (a3 : H.1 33 m = v3) (a4 : H.1 34 m = v4) : RepSc (wI H 30 1 (q 1 + 1)) 30 (crU q m v1 v2 v3 v4) := by
  obtain ⟨r0, r1, rc, r6, r7, r8, r9, r10, r11⟩ := r
  have u1 : crU q m v1 v2 v3 v4 1 = q 1 + 1 := upA_at _ _ _
  have ux : ∀ j, (j = 0 ∨ 34 ≤ j) → crU q m v1 v2 v3 v4 j = q j := fun j hj => by
    unfold crU
    rw [upA_ne (by omega), upA_ne (by omega), upA_ne (by omega), upA_ne (by omega), upA_ne (by omega)]
  have e : ∀ j, j ≠ 1 → (wI H 30 1 (q 1 + 1)).1 30 j = H.1 30 j := fun j hj => wI1k hj
  refine ⟨by rw [e 0 (by omega), ux 0 (by omega)]; exact r0, by rw [wI1, u1], fun c hc => ?_, by rw [e 6 (by omega), ux 34 (by omega)]; exact r6, by rw [e 7 (by omega), ux 35 (by omega)]; exact r7, by rw [e 8 (by omega), ux 36 (by omega)]; exact r8, by rw [e 9 (by omega), ux 37 (by omega)]; exact r9, by rw [e 10 (by omega), ux 38 (by omega)]; exact r10, by rw [e 11 (by omega), ux 39 (by omega)]; exact r11⟩
  rw [u1] at hc
  rw [wI1c (by omega), wI1c (by omega), wI1c (by omega), wI1c (by omega)]
  by_cases z : c = m
  · rw [z, a1, a2, a3, a4]
    unfold crU
    refine ⟨?_, ?_, ?_, ?_⟩
    · rw [upA_ne (by omega), upA_ne (by omega), upA_ne (by omega), upA_ne (by omega), upA_at]
    · rw [upA_ne (by omega), upA_ne (by omega), upA_ne (by omega), upA_at]
    · rw [upA_ne (by omega), upA_ne (by omega), upA_at]
    · rw [upA_ne (by omega), upA_at]
  · have hcm := rc c (by omega)
    have uc : ∀ j, (j = 2 + c ∨ j = 10 + c ∨ j = 18 + c ∨ j = 26 + c) → crU q m v1 v2 v3 v4 j = q j := fun j hj => by
      unfold crU
      rw [upA_ne (by omega), upA_ne (by omega), upA_ne (by omega), upA_ne (by omega), upA_ne (by omega)]
    rw [uc (2 + c) (by omega), uc (10 + c) (by omega), uc (18 + c) (by omega), uc (26 + c) (by omega)]
    exact hcm
theorem lnd_cg {f g : Nat → Int} (k : Nat) (h : ∀ j, j < k → f j = g j) : lnd f k = lnd g k := by
  induction k with
  | zero => rfl
  | succ k ih =>
    show (if lnd f k < f k + 1 then f k + 1 else lnd f k) = (if lnd g k < g k + 1 then g k + 1 else lnd g k)
    rw [ih (fun j hj => h j (by omega)), h k (by omega)]
theorem pn_of {T : Nat → Int} {n : Nat} {a : Int} {o : Int × Nat} (h : o.1 = 0) : pn T n a o = (pnW T n a 0 o.2, pnP T n a 0 o.2) := by unfold pn; rw [h]
theorem pt_of {T : Nat → Int} {n : Nat} {lo hi : Int} {o : Int × Nat} (h : o.1 = 0) : pt T n lo hi o = (ptW T n lo hi 0 o.2, ptP T n lo hi 0 o.2) := by unfold pt; rw [h]
theorem cr_fF {T : Nat → Int} {n p : Nat} {L : Int} (h : (crF T n L p).1 ≠ 0) : crG T n L p = crF T n L p := pt_nz h
theorem cr_fE {T : Nat → Int} {n p : Nat} {L : Int} (h : (crE T n L p).1 ≠ 0) : crG T n L p = crE T n L p := by
  have e : crF T n L p = crE T n L p := pn_nz h
  rw [cr_fF (by rw [e]; exact h), e]
theorem cr_fD {T : Nat → Int} {n p : Nat} {L : Int} (h : (crD T n L p).1 ≠ 0) : crG T n L p = crD T n L p := by
  have e : crE T n L p = crD T n L p := pt_nz h
  rw [cr_fE (by rw [e]; exact h), e]
theorem cr_fC {T : Nat → Int} {n p : Nat} {L : Int} (h : (crC T n L p).1 ≠ 0) : crG T n L p = crC T n L p := by
  have e : crD T n L p = crC T n L p := pn_nz h
  rw [cr_fD (by rw [e]; exact h), e]
theorem cr_fB {T : Nat → Int} {n p : Nat} {L : Int} (h : (crB T n L p).1 ≠ 0) : crG T n L p = crB T n L p := by
  have e : crC T n L p = crB T n L p := pt_nz h
  rw [cr_fC (by rw [e]; exact h), e]
theorem cr_fA {T : Nat → Int} {n p : Nat} {L : Int} (h : (crA T n L p).1 ≠ 0) : crG T n L p = crA T n L p := by
  have e : crB T n L p = crA T n L p := pn_nz h
  rw [cr_fB (by rw [e]; exact h), e]
theorem cwd_u : ∀ k : Fin 29, (0 ≤ cwd (k : Nat) ∧ cwd (k : Nat) ≤ 7 ↔ 5 ≤ (k : Nat) ∧ (k : Nat) ≤ 12) ∧ (5 ≤ (k : Nat) ∧ (k : Nat) ≤ 12 → cwd (k : Nat) = (k : Nat) - 5) := by decide +kernel
theorem cwd_v {K : Int} (h : 0 ≤ K ∧ K ≤ 28) : (0 ≤ cwd K ∧ cwd K ≤ 7 ↔ 5 ≤ K ∧ K ≤ 12) ∧ (5 ≤ K ∧ K ≤ 12 → cwd K = K - 5) := by
  obtain ⟨m, rfl⟩ := Int.eq_ofNat_of_zero_le h.1
  have z : (0 ≤ cwd (m : Nat) ∧ cwd (m : Nat) ≤ 7 ↔ 5 ≤ m ∧ m ≤ 12) ∧ (5 ≤ m ∧ m ≤ 12 → cwd (m : Nat) = (m : Nat) - 5) := cwd_u ⟨m, by omega⟩
  exact ⟨⟨fun y => by have := z.1.1 y; omega, fun y => z.1.2 (by omega)⟩, fun y => z.2 (by omega)⟩
theorem cwd_q : ∀ k : Fin 29, 0 ≤ cwd (k : Nat) := by decide +kernel
theorem cwd_p {K : Int} (h : 0 ≤ K ∧ K ≤ 28) : 0 ≤ cwd K := by
  obtain ⟨m, rfl⟩ := Int.eq_ofNat_of_zero_le h.1
  exact cwd_q ⟨m, by omega⟩

theorem c_X3_readLanes {d : Nat} {H : ZH} (ok : okZ H) {T q : Nat → Int} {n p : Nat} (hn : n ≤ 400) (hS : ClS H T n p) (rs : RepSc H 30 q) (ws : WFS q) : EvC zX (d + 4) mX3_readLanes [.ref 28] (eh H) (zPi (fun (r : Int) (H1 : ZH) => ClO H1 T n r (ptW T n (lnd (fun j => q (2 + j)) (q 1).toNat) 4 0 (tkE T n p)) (ptP T n (lnd (fun j => q (2 + j)) (q 1).toNat) 4 0 (tkE T n p)) ∧ ((ptW T n (lnd (fun j => q (2 + j)) (q 1).toNat) 4 0 (tkE T n p)) = 0 → RepSc H1 30 (upA q 0 (tkN T n (tkE T n p)))) ∧ FrS H H1)) := by
  show _ ∧ Ev zX mX3_readLanes (EvC zX (d + 3)) (zPi (fun (r : Int) (H1 : ZH) => ClO H1 T n r (ptW T n (lnd (fun j => q (2 + j)) (q 1).toNat) 4 0 (tkE T n p)) (ptP T n (lnd (fun j => q (2 + j)) (q 1).toNat) 4 0 (tkE T n p)) ∧ ((ptW T n (lnd (fun j => q (2 + j)) (q 1).toNat) 4 0 (tkE T n p)) = 0 → RepSc H1 30 (upA q 0 (tkN T n (tkE T n p)))) ∧ FrS H H1)) 0 [(0, .ref 28)] [] (eh H)
  refine ⟨Nat.le_of_ble_eq_true rfl, ?_⟩
  obtain ⟨w0, w1, wc, w34, w35, w36, w37, w38, w39⟩ := ws
  refine x_aload_n (pc := 0) dX3_readLanes_0 (List.Mem.head _) ?_
  refine z_callVv (pc := 1) (i := mX3_advance) (S := []) [] dX3_readLanes_1 ml_X3_95 ok_X3_advance rfl sh_28 rfl rfl (Nat.le_of_ble_eq_true rfl) (c_X3_advance (d := d + 1) (T := T) (n := n) (b := (tkE T n p)) (hn := hn) (hb := ((tk_bd T hS.1).2.2.1)) (ok := ok) (y4 := (hS.2.1)) (h5 := (hS.2.2.1)) (h6 := (hS.2.2.2.2.2.1)) (htp := hS.2.2.2.1) (g2 := (hS.2.2.2.2.2.2.2.2.1)) (g3 := (hS.2.2.2.2.2.2.2.2.2))) ?_
  intro Ha ok2 hp3
  have hadv := hp3
  have rsa := RepSc_K (FcK_C hadv.2) rs
  have el : lnd (Ha.1 31) (q 1).toNat = (lnd (fun j => q (2 + j)) (q 1).toNat) := lnd_cg (q 1).toNat (fun j hj => (rsa.2.2.1 j (by omega)).1)
  have lb := lnd_bd (f := fun j => q (2 + j)) (q 1).toNat (fun j hj => by have y := wc j (by omega); show q (2 + j) ≤ 3; omega)
  refine x_aload_n (pc := 4) dX3_readLanes_4 (List.Mem.head _) ?_
  refine x_aload_n (pc := 5) dX3_readLanes_5 (List.Mem.head _) ?_
  refine z_getR (pc := 6) (k := 0) (r := 30) dX3_readLanes_6 lf_X3_12 sh_28 rfl rf_28_0 ?_
  refine z_callVip (pc := 9) (i := mX6_lanesNeeded) (S := [.ref 28]) [] dX3_readLanes_9 ml_X3_116 ok_X6_lanesNeeded rfl sh_30 rfl (Or.inl rfl) (Nat.le_of_ble_eq_true rfl) (c_X6_lanesNeeded (d := d + 2) (n := (q 1)) (hn8 := w1) (ok := ok2) (h1 := rsa.2.1) (hl := (fun j hj => by rw [(rsa.2.2.1 j hj).1]; have y := wc j hj; omega))) (fun r4a r4b ok5 => ?_)
  refine z_iconst (pc := 12) dX3_readLanes_12 ?_
  refine z_callVi (pc := 13) (i := mX3_takeNumber) (S := []) [.int (zN ((lnd (Ha.1 31) (q 1).toNat))), .int (zN (4))] dX3_readLanes_13 ml_X3_66 ok_X3_takeNumber rfl sh_28 rfl (Or.inr rfl) (Nat.le_of_ble_eq_true rfl) (c_X3_takeNumber (d := d) (lo := ((lnd (Ha.1 31) (q 1).toNat))) (hi := 4) (hn := hn) (lo1 := (by omega)) (lo2 := (by omega)) (hi1 := (by omega)) (hi2 := (by omega)) (ok := ok5) (hS := hadv.1)) ?_
  intro r6 Hb r6a r6b ok7 hp8
  obtain ⟨hc1, hv1, hk1⟩ := hp8
  rw [el] at hc1 hv1
  have okb_ := ok7
  refine z_if_ne (pc := 16) (tgt := 21) dX3_readLanes_16 (by decide) (by omega) (by omega) (fun hb9 => ?_) (fun hb9 => ?_)
  · skip
    have z1 := ClO_t hc1 hb9
    refine x_aload_n (pc := 21) dX3_readLanes_21 (List.Mem.head _) ?_
    refine z_getR (pc := 22) (k := 0) (r := 30) dX3_readLanes_22 lf_X3_12 sh_28 rfl rf_28_0 ?_
    refine x_aload_n (pc := 25) dX3_readLanes_25 (List.Mem.head _) ?_
    refine z_getI (pc := 26) (k := 10) (v := (tkN T n (tkE T n p))) dX3_readLanes_26 lf_X3_70 sh_28 rfl (hv1 z1.1) ?_
    have rdt := okb_.1 28 10
    rw [hv1 z1.1] at rdt
    refine z_putI (pc := 29) (k := 0) dX3_readLanes_29 lp_X3_120 sh_30 rfl ?_
    have ok10 := okI ok7 30 0 (v := ((tkN T n (tkE T n p)))) (by omega) (by omega)
    refine z_iconst (pc := 32) dX3_readLanes_32 ?_
    refine z_ireturn (pc := 33) dX3_readLanes_33 rfl (Or.inr ⟨rfl, by omega⟩) ok10 (by decide) (by decide) ?_
    exact ⟨⟨fun _ => ⟨rfl, ClS_w z1.2 (by omega)⟩, fun z => absurd z1.1 z⟩, fun _ => RepSc_0 (RepSc_K hk1 rsa), FrS_w (FrS_tr (FrS_K (FcK_C hadv.2)) (FrS_K hk1)) (by omega)⟩
  · skip
    have z1 := ClO_f hc1 (by omega)
    refine z_iconst (pc := 19) dX3_readLanes_19 ?_
    refine z_ireturn (pc := 20) dX3_readLanes_20 rfl (Or.inr ⟨rfl, by omega⟩) ok7 (by decide) (by decide) ?_
    exact ⟨ClO_0 z1, fun z => absurd z z1.1, FrS_tr (FrS_K (FcK_C hadv.2)) (FrS_K hk1)⟩

theorem c_X3_readSetting_0 {d : Nat} {H : ZH} (ok : okZ H) {T q : Nat → Int} {n p : Nat} (hn : n ≤ 400) (hS : ClS H T n p) (rs : RepSc H 30 q) (ws : WFS q) : EvC zX (d + 4) mX3_readSetting [.ref 28, .int (zN (0))] (eh H) (zPi (fun (r : Int) (H1 : ZH) => ClO H1 T n r (ptW T n 0 30 0 (tkE T n p)) (ptP T n 0 30 0 (tkE T n p)) ∧ ((ptW T n 0 30 0 (tkE T n p)) = 0 → RepSc H1 30 (upA q 35 (tkN T n (tkE T n p)))) ∧ FrS H H1)) := by
  show _ ∧ Ev zX mX3_readSetting (EvC zX (d + 3)) (zPi (fun (r : Int) (H1 : ZH) => ClO H1 T n r (ptW T n 0 30 0 (tkE T n p)) (ptP T n 0 30 0 (tkE T n p)) ∧ ((ptW T n 0 30 0 (tkE T n p)) = 0 → RepSc H1 30 (upA q 35 (tkN T n (tkE T n p)))) ∧ FrS H H1)) 0 [(0, .ref 28), (1, .int (zN (0)))] [] (eh H)
  refine ⟨Nat.le_of_ble_eq_true rfl, ?_⟩
  obtain ⟨w0, w1, wc, w34, w35, w36, w37, w38, w39⟩ := ws
  refine x_aload_n (pc := 0) dX3_readSetting_0 (List.Mem.head _) ?_
  refine z_callVv (pc := 1) (i := mX3_advance) (S := []) [] dX3_readSetting_1 ml_X3_95 ok_X3_advance rfl sh_28 rfl rfl (Nat.le_of_ble_eq_true rfl) (c_X3_advance (d := d + 1) (T := T) (n := n) (b := (tkE T n p)) (hn := hn) (hb := ((tk_bd T hS.1).2.2.1)) (ok := ok) (y4 := (hS.2.1)) (h5 := (hS.2.2.1)) (h6 := (hS.2.2.2.2.2.1)) (htp := hS.2.2.2.1) (g2 := (hS.2.2.2.2.2.2.2.2.1)) (g3 := (hS.2.2.2.2.2.2.2.2.2))) ?_
  intro Ha ok2 hp3
  have hadv := hp3
  have rsa := RepSc_K (FcK_C hadv.2) rs
  refine x_aload_n (pc := 4) dX3_readSetting_4 (List.Mem.head _) ?_
  refine x_iload_n (pc := 5) dX3_readSetting_5 (List.Mem.tail _ (List.Mem.head _)) ?_
  refine z_callNip (pc := 6) (i := mX10_leastOf) (S := [.ref 28]) [.int (zN (0))] dX3_readSetting_6 nl_X3_123 ok_X10_leastOf rfl (Or.inl rfl) (Nat.le_of_ble_eq_true rfl) (c_X10_leastOf (d := d + 2) (w := 0) (w1 := (by omega)) (w2 := (by omega)) (ok := ok2)) (fun r4a r4b ok5 => ?_)
  refine x_iload_n (pc := 9) dX3_readSetting_9 (List.Mem.tail _ (List.Mem.head _)) ?_
  refine z_callNip (pc := 10) (i := mX10_mostOf) (S := [.int (zN (((if 0 = 3 then 1 else 0)))), .ref 28]) [.int (zN (0))] dX3_readSetting_10 nl_X3_127 ok_X10_mostOf rfl (Or.inl rfl) (Nat.le_of_ble_eq_true rfl) (c_X10_mostOf (d := d + 2) (w := 0) (w1 := (by omega)) (w2 := (by omega)) (ok := ok5)) (fun r6a r6b ok7 => ?_)
  refine z_callVi (pc := 13) (i := mX3_takeNumber) (S := []) [.int (zN (((if 0 = 3 then 1 else 0)))), .int (zN (((if 0 = 0 then 30 else if 0 = 1 then 20 else if 0 = 2 then 60 else 200))))] dX3_readSetting_13 ml_X3_66 ok_X3_takeNumber rfl sh_28 rfl (Or.inr rfl) (Nat.le_of_ble_eq_true rfl) (c_X3_takeNumber (d := d) (lo := (((if 0 = 3 then 1 else 0)))) (hi := (((if 0 = 0 then 30 else if 0 = 1 then 20 else if 0 = 2 then 60 else 200)))) (hn := hn) (lo1 := (by omega)) (lo2 := (by omega)) (hi1 := (by omega)) (hi2 := (by omega)) (ok := ok7) (hS := hadv.1)) ?_
  intro r8 Hb r8a r8b ok9 hp10
  obtain ⟨hc1, hv1, hk1⟩ := hp10
  have okb_ := ok9
  refine z_if_ne (pc := 16) (tgt := 21) dX3_readSetting_16 (by decide) (by omega) (by omega) (fun hb11 => ?_) (fun hb11 => ?_)
  · skip
    have z1 := ClO_t hc1 hb11
    have rdt := okb_.1 28 10
    rw [hv1 z1.1] at rdt
    refine x_aload_n (pc := 21) dX3_readSetting_21 (List.Mem.head _) ?_
    refine z_getR (pc := 22) (k := 0) (r := 30) dX3_readSetting_22 lf_X3_12 sh_28 rfl rf_28_0 ?_
    refine x_iload_n (pc := 25) dX3_readSetting_25 (List.Mem.tail _ (List.Mem.head _)) ?_
    refine x_aload_n (pc := 26) dX3_readSetting_26 (List.Mem.head _) ?_
    refine z_getI (pc := 27) (k := 10) (v := (tkN T n (tkE T n p))) dX3_readSetting_27 lf_X3_70 sh_28 rfl (hv1 z1.1) ?_
    refine z_callVip (pc := 30) (i := mX6_change) (S := []) [.int (zN (0)), .int (zN (((tkN T n (tkE T n p)))))] dX3_readSetting_30 ml_X3_130 ok_X6_change rfl sh_30 rfl (Or.inl rfl) (Nat.le_of_ble_eq_true rfl) (c_X6_change (d := d + 2) (s := 30) (hs := isSc_30) (w := 0) (v := (((tkN T n (tkE T n p))))) (w1 := (by omega)) (w2 := (by omega)) (v1 := (by omega)) (v2 := (by omega)) (w03 := (by omega)) (ok := ok9)) (fun r12a r12b ok13 => ?_)
    show Ev _ _ _ _ _ _ _ (eh (wI Hb 30 (7 + (0 : Int).toNat) ((((tkN T n (tkE T n p)))))))
    refine x_pop (pc := 33) dX3_readSetting_33 rfl ?_
    refine z_iconst (pc := 34) dX3_readSetting_34 ?_
    refine z_ireturn (pc := 35) dX3_readSetting_35 rfl (Or.inr ⟨rfl, by omega⟩) ok13 (by decide) (by decide) ?_
    exact ⟨⟨fun _ => ⟨rfl, ClS_w z1.2 (by omega)⟩, fun z => absurd z1.1 z⟩, fun _ => RepSc_i (k := 7) (by omega) w1.2 (RepSc_K hk1 rsa), FrS_w (FrS_tr (FrS_K (FcK_C hadv.2)) (FrS_K hk1)) (by omega)⟩
  · skip
    have z1 := ClO_f hc1 (by omega)
    refine z_iconst (pc := 19) dX3_readSetting_19 ?_
    refine z_ireturn (pc := 20) dX3_readSetting_20 rfl (Or.inr ⟨rfl, by omega⟩) ok9 (by decide) (by decide) ?_
    exact ⟨ClO_0 z1, fun z => absurd z z1.1, FrS_tr (FrS_K (FcK_C hadv.2)) (FrS_K hk1)⟩

theorem c_X3_readSetting_1 {d : Nat} {H : ZH} (ok : okZ H) {T q : Nat → Int} {n p : Nat} (hn : n ≤ 400) (hS : ClS H T n p) (rs : RepSc H 30 q) (ws : WFS q) : EvC zX (d + 4) mX3_readSetting [.ref 28, .int (zN (1))] (eh H) (zPi (fun (r : Int) (H1 : ZH) => ClO H1 T n r (ptW T n 0 20 0 (tkE T n p)) (ptP T n 0 20 0 (tkE T n p)) ∧ ((ptW T n 0 20 0 (tkE T n p)) = 0 → RepSc H1 30 (upA q 36 (tkN T n (tkE T n p)))) ∧ FrS H H1)) := by
  show _ ∧ Ev zX mX3_readSetting (EvC zX (d + 3)) (zPi (fun (r : Int) (H1 : ZH) => ClO H1 T n r (ptW T n 0 20 0 (tkE T n p)) (ptP T n 0 20 0 (tkE T n p)) ∧ ((ptW T n 0 20 0 (tkE T n p)) = 0 → RepSc H1 30 (upA q 36 (tkN T n (tkE T n p)))) ∧ FrS H H1)) 0 [(0, .ref 28), (1, .int (zN (1)))] [] (eh H)
  refine ⟨Nat.le_of_ble_eq_true rfl, ?_⟩
  obtain ⟨w0, w1, wc, w34, w35, w36, w37, w38, w39⟩ := ws
  refine x_aload_n (pc := 0) dX3_readSetting_0 (List.Mem.head _) ?_
  refine z_callVv (pc := 1) (i := mX3_advance) (S := []) [] dX3_readSetting_1 ml_X3_95 ok_X3_advance rfl sh_28 rfl rfl (Nat.le_of_ble_eq_true rfl) (c_X3_advance (d := d + 1) (T := T) (n := n) (b := (tkE T n p)) (hn := hn) (hb := ((tk_bd T hS.1).2.2.1)) (ok := ok) (y4 := (hS.2.1)) (h5 := (hS.2.2.1)) (h6 := (hS.2.2.2.2.2.1)) (htp := hS.2.2.2.1) (g2 := (hS.2.2.2.2.2.2.2.2.1)) (g3 := (hS.2.2.2.2.2.2.2.2.2))) ?_
  intro Ha ok2 hp3
  have hadv := hp3
  have rsa := RepSc_K (FcK_C hadv.2) rs
  refine x_aload_n (pc := 4) dX3_readSetting_4 (List.Mem.head _) ?_
  refine x_iload_n (pc := 5) dX3_readSetting_5 (List.Mem.tail _ (List.Mem.head _)) ?_
  refine z_callNip (pc := 6) (i := mX10_leastOf) (S := [.ref 28]) [.int (zN (1))] dX3_readSetting_6 nl_X3_123 ok_X10_leastOf rfl (Or.inl rfl) (Nat.le_of_ble_eq_true rfl) (c_X10_leastOf (d := d + 2) (w := 1) (w1 := (by omega)) (w2 := (by omega)) (ok := ok2)) (fun r4a r4b ok5 => ?_)
  refine x_iload_n (pc := 9) dX3_readSetting_9 (List.Mem.tail _ (List.Mem.head _)) ?_
  refine z_callNip (pc := 10) (i := mX10_mostOf) (S := [.int (zN (((if 1 = 3 then 1 else 0)))), .ref 28]) [.int (zN (1))] dX3_readSetting_10 nl_X3_127 ok_X10_mostOf rfl (Or.inl rfl) (Nat.le_of_ble_eq_true rfl) (c_X10_mostOf (d := d + 2) (w := 1) (w1 := (by omega)) (w2 := (by omega)) (ok := ok5)) (fun r6a r6b ok7 => ?_)
  refine z_callVi (pc := 13) (i := mX3_takeNumber) (S := []) [.int (zN (((if 1 = 3 then 1 else 0)))), .int (zN (((if 1 = 0 then 30 else if 1 = 1 then 20 else if 1 = 2 then 60 else 200))))] dX3_readSetting_13 ml_X3_66 ok_X3_takeNumber rfl sh_28 rfl (Or.inr rfl) (Nat.le_of_ble_eq_true rfl) (c_X3_takeNumber (d := d) (lo := (((if 1 = 3 then 1 else 0)))) (hi := (((if 1 = 0 then 30 else if 1 = 1 then 20 else if 1 = 2 then 60 else 200)))) (hn := hn) (lo1 := (by omega)) (lo2 := (by omega)) (hi1 := (by omega)) (hi2 := (by omega)) (ok := ok7) (hS := hadv.1)) ?_
  intro r8 Hb r8a r8b ok9 hp10
  obtain ⟨hc1, hv1, hk1⟩ := hp10
  have okb_ := ok9
  refine z_if_ne (pc := 16) (tgt := 21) dX3_readSetting_16 (by decide) (by omega) (by omega) (fun hb11 => ?_) (fun hb11 => ?_)
  · skip
    have z1 := ClO_t hc1 hb11
    have rdt := okb_.1 28 10
    rw [hv1 z1.1] at rdt
    refine x_aload_n (pc := 21) dX3_readSetting_21 (List.Mem.head _) ?_
    refine z_getR (pc := 22) (k := 0) (r := 30) dX3_readSetting_22 lf_X3_12 sh_28 rfl rf_28_0 ?_
    refine x_iload_n (pc := 25) dX3_readSetting_25 (List.Mem.tail _ (List.Mem.head _)) ?_
    refine x_aload_n (pc := 26) dX3_readSetting_26 (List.Mem.head _) ?_
    refine z_getI (pc := 27) (k := 10) (v := (tkN T n (tkE T n p))) dX3_readSetting_27 lf_X3_70 sh_28 rfl (hv1 z1.1) ?_
    refine z_callVip (pc := 30) (i := mX6_change) (S := []) [.int (zN (1)), .int (zN (((tkN T n (tkE T n p)))))] dX3_readSetting_30 ml_X3_130 ok_X6_change rfl sh_30 rfl (Or.inl rfl) (Nat.le_of_ble_eq_true rfl) (c_X6_change (d := d + 2) (s := 30) (hs := isSc_30) (w := 1) (v := (((tkN T n (tkE T n p))))) (w1 := (by omega)) (w2 := (by omega)) (v1 := (by omega)) (v2 := (by omega)) (w03 := (by omega)) (ok := ok9)) (fun r12a r12b ok13 => ?_)
    show Ev _ _ _ _ _ _ _ (eh (wI Hb 30 (7 + (1 : Int).toNat) ((((tkN T n (tkE T n p)))))))
    refine x_pop (pc := 33) dX3_readSetting_33 rfl ?_
    refine z_iconst (pc := 34) dX3_readSetting_34 ?_
    refine z_ireturn (pc := 35) dX3_readSetting_35 rfl (Or.inr ⟨rfl, by omega⟩) ok13 (by decide) (by decide) ?_
    exact ⟨⟨fun _ => ⟨rfl, ClS_w z1.2 (by omega)⟩, fun z => absurd z1.1 z⟩, fun _ => RepSc_i (k := 8) (by omega) w1.2 (RepSc_K hk1 rsa), FrS_w (FrS_tr (FrS_K (FcK_C hadv.2)) (FrS_K hk1)) (by omega)⟩
  · skip
    have z1 := ClO_f hc1 (by omega)
    refine z_iconst (pc := 19) dX3_readSetting_19 ?_
    refine z_ireturn (pc := 20) dX3_readSetting_20 rfl (Or.inr ⟨rfl, by omega⟩) ok9 (by decide) (by decide) ?_
    exact ⟨ClO_0 z1, fun z => absurd z z1.1, FrS_tr (FrS_K (FcK_C hadv.2)) (FrS_K hk1)⟩

theorem c_X3_readSetting_2 {d : Nat} {H : ZH} (ok : okZ H) {T q : Nat → Int} {n p : Nat} (hn : n ≤ 400) (hS : ClS H T n p) (rs : RepSc H 30 q) (ws : WFS q) : EvC zX (d + 4) mX3_readSetting [.ref 28, .int (zN (2))] (eh H) (zPi (fun (r : Int) (H1 : ZH) => ClO H1 T n r (ptW T n 0 60 0 (tkE T n p)) (ptP T n 0 60 0 (tkE T n p)) ∧ ((ptW T n 0 60 0 (tkE T n p)) = 0 → RepSc H1 30 (upA q 37 (tkN T n (tkE T n p)))) ∧ FrS H H1)) := by
  show _ ∧ Ev zX mX3_readSetting (EvC zX (d + 3)) (zPi (fun (r : Int) (H1 : ZH) => ClO H1 T n r (ptW T n 0 60 0 (tkE T n p)) (ptP T n 0 60 0 (tkE T n p)) ∧ ((ptW T n 0 60 0 (tkE T n p)) = 0 → RepSc H1 30 (upA q 37 (tkN T n (tkE T n p)))) ∧ FrS H H1)) 0 [(0, .ref 28), (1, .int (zN (2)))] [] (eh H)
  refine ⟨Nat.le_of_ble_eq_true rfl, ?_⟩
  obtain ⟨w0, w1, wc, w34, w35, w36, w37, w38, w39⟩ := ws
  refine x_aload_n (pc := 0) dX3_readSetting_0 (List.Mem.head _) ?_
  refine z_callVv (pc := 1) (i := mX3_advance) (S := []) [] dX3_readSetting_1 ml_X3_95 ok_X3_advance rfl sh_28 rfl rfl (Nat.le_of_ble_eq_true rfl) (c_X3_advance (d := d + 1) (T := T) (n := n) (b := (tkE T n p)) (hn := hn) (hb := ((tk_bd T hS.1).2.2.1)) (ok := ok) (y4 := (hS.2.1)) (h5 := (hS.2.2.1)) (h6 := (hS.2.2.2.2.2.1)) (htp := hS.2.2.2.1) (g2 := (hS.2.2.2.2.2.2.2.2.1)) (g3 := (hS.2.2.2.2.2.2.2.2.2))) ?_
  intro Ha ok2 hp3
  have hadv := hp3
  have rsa := RepSc_K (FcK_C hadv.2) rs
  refine x_aload_n (pc := 4) dX3_readSetting_4 (List.Mem.head _) ?_
  refine x_iload_n (pc := 5) dX3_readSetting_5 (List.Mem.tail _ (List.Mem.head _)) ?_
  refine z_callNip (pc := 6) (i := mX10_leastOf) (S := [.ref 28]) [.int (zN (2))] dX3_readSetting_6 nl_X3_123 ok_X10_leastOf rfl (Or.inl rfl) (Nat.le_of_ble_eq_true rfl) (c_X10_leastOf (d := d + 2) (w := 2) (w1 := (by omega)) (w2 := (by omega)) (ok := ok2)) (fun r4a r4b ok5 => ?_)
  refine x_iload_n (pc := 9) dX3_readSetting_9 (List.Mem.tail _ (List.Mem.head _)) ?_
  refine z_callNip (pc := 10) (i := mX10_mostOf) (S := [.int (zN (((if 2 = 3 then 1 else 0)))), .ref 28]) [.int (zN (2))] dX3_readSetting_10 nl_X3_127 ok_X10_mostOf rfl (Or.inl rfl) (Nat.le_of_ble_eq_true rfl) (c_X10_mostOf (d := d + 2) (w := 2) (w1 := (by omega)) (w2 := (by omega)) (ok := ok5)) (fun r6a r6b ok7 => ?_)
  refine z_callVi (pc := 13) (i := mX3_takeNumber) (S := []) [.int (zN (((if 2 = 3 then 1 else 0)))), .int (zN (((if 2 = 0 then 30 else if 2 = 1 then 20 else if 2 = 2 then 60 else 200))))] dX3_readSetting_13 ml_X3_66 ok_X3_takeNumber rfl sh_28 rfl (Or.inr rfl) (Nat.le_of_ble_eq_true rfl) (c_X3_takeNumber (d := d) (lo := (((if 2 = 3 then 1 else 0)))) (hi := (((if 2 = 0 then 30 else if 2 = 1 then 20 else if 2 = 2 then 60 else 200)))) (hn := hn) (lo1 := (by omega)) (lo2 := (by omega)) (hi1 := (by omega)) (hi2 := (by omega)) (ok := ok7) (hS := hadv.1)) ?_
  intro r8 Hb r8a r8b ok9 hp10
  obtain ⟨hc1, hv1, hk1⟩ := hp10
  have okb_ := ok9
  refine z_if_ne (pc := 16) (tgt := 21) dX3_readSetting_16 (by decide) (by omega) (by omega) (fun hb11 => ?_) (fun hb11 => ?_)
  · skip
    have z1 := ClO_t hc1 hb11
    have rdt := okb_.1 28 10
    rw [hv1 z1.1] at rdt
    refine x_aload_n (pc := 21) dX3_readSetting_21 (List.Mem.head _) ?_
    refine z_getR (pc := 22) (k := 0) (r := 30) dX3_readSetting_22 lf_X3_12 sh_28 rfl rf_28_0 ?_
    refine x_iload_n (pc := 25) dX3_readSetting_25 (List.Mem.tail _ (List.Mem.head _)) ?_
    refine x_aload_n (pc := 26) dX3_readSetting_26 (List.Mem.head _) ?_
    refine z_getI (pc := 27) (k := 10) (v := (tkN T n (tkE T n p))) dX3_readSetting_27 lf_X3_70 sh_28 rfl (hv1 z1.1) ?_
    refine z_callVip (pc := 30) (i := mX6_change) (S := []) [.int (zN (2)), .int (zN (((tkN T n (tkE T n p)))))] dX3_readSetting_30 ml_X3_130 ok_X6_change rfl sh_30 rfl (Or.inl rfl) (Nat.le_of_ble_eq_true rfl) (c_X6_change (d := d + 2) (s := 30) (hs := isSc_30) (w := 2) (v := (((tkN T n (tkE T n p))))) (w1 := (by omega)) (w2 := (by omega)) (v1 := (by omega)) (v2 := (by omega)) (w03 := (by omega)) (ok := ok9)) (fun r12a r12b ok13 => ?_)
    show Ev _ _ _ _ _ _ _ (eh (wI Hb 30 (7 + (2 : Int).toNat) ((((tkN T n (tkE T n p)))))))
    refine x_pop (pc := 33) dX3_readSetting_33 rfl ?_
    refine z_iconst (pc := 34) dX3_readSetting_34 ?_
    refine z_ireturn (pc := 35) dX3_readSetting_35 rfl (Or.inr ⟨rfl, by omega⟩) ok13 (by decide) (by decide) ?_
    exact ⟨⟨fun _ => ⟨rfl, ClS_w z1.2 (by omega)⟩, fun z => absurd z1.1 z⟩, fun _ => RepSc_i (k := 9) (by omega) w1.2 (RepSc_K hk1 rsa), FrS_w (FrS_tr (FrS_K (FcK_C hadv.2)) (FrS_K hk1)) (by omega)⟩
  · skip
    have z1 := ClO_f hc1 (by omega)
    refine z_iconst (pc := 19) dX3_readSetting_19 ?_
    refine z_ireturn (pc := 20) dX3_readSetting_20 rfl (Or.inr ⟨rfl, by omega⟩) ok9 (by decide) (by decide) ?_
    exact ⟨ClO_0 z1, fun z => absurd z z1.1, FrS_tr (FrS_K (FcK_C hadv.2)) (FrS_K hk1)⟩

theorem c_X3_readSetting_3 {d : Nat} {H : ZH} (ok : okZ H) {T q : Nat → Int} {n p : Nat} (hn : n ≤ 400) (hS : ClS H T n p) (rs : RepSc H 30 q) (ws : WFS q) : EvC zX (d + 4) mX3_readSetting [.ref 28, .int (zN (3))] (eh H) (zPi (fun (r : Int) (H1 : ZH) => ClO H1 T n r (ptW T n 1 200 0 (tkE T n p)) (ptP T n 1 200 0 (tkE T n p)) ∧ ((ptW T n 1 200 0 (tkE T n p)) = 0 → RepSc H1 30 (upA q 38 (tkN T n (tkE T n p)))) ∧ FrS H H1)) := by
  show _ ∧ Ev zX mX3_readSetting (EvC zX (d + 3)) (zPi (fun (r : Int) (H1 : ZH) => ClO H1 T n r (ptW T n 1 200 0 (tkE T n p)) (ptP T n 1 200 0 (tkE T n p)) ∧ ((ptW T n 1 200 0 (tkE T n p)) = 0 → RepSc H1 30 (upA q 38 (tkN T n (tkE T n p)))) ∧ FrS H H1)) 0 [(0, .ref 28), (1, .int (zN (3)))] [] (eh H)
  refine ⟨Nat.le_of_ble_eq_true rfl, ?_⟩
  obtain ⟨w0, w1, wc, w34, w35, w36, w37, w38, w39⟩ := ws
  refine x_aload_n (pc := 0) dX3_readSetting_0 (List.Mem.head _) ?_
  refine z_callVv (pc := 1) (i := mX3_advance) (S := []) [] dX3_readSetting_1 ml_X3_95 ok_X3_advance rfl sh_28 rfl rfl (Nat.le_of_ble_eq_true rfl) (c_X3_advance (d := d + 1) (T := T) (n := n) (b := (tkE T n p)) (hn := hn) (hb := ((tk_bd T hS.1).2.2.1)) (ok := ok) (y4 := (hS.2.1)) (h5 := (hS.2.2.1)) (h6 := (hS.2.2.2.2.2.1)) (htp := hS.2.2.2.1) (g2 := (hS.2.2.2.2.2.2.2.2.1)) (g3 := (hS.2.2.2.2.2.2.2.2.2))) ?_
  intro Ha ok2 hp3
  have hadv := hp3
  have rsa := RepSc_K (FcK_C hadv.2) rs
  refine x_aload_n (pc := 4) dX3_readSetting_4 (List.Mem.head _) ?_
  refine x_iload_n (pc := 5) dX3_readSetting_5 (List.Mem.tail _ (List.Mem.head _)) ?_
  refine z_callNip (pc := 6) (i := mX10_leastOf) (S := [.ref 28]) [.int (zN (3))] dX3_readSetting_6 nl_X3_123 ok_X10_leastOf rfl (Or.inl rfl) (Nat.le_of_ble_eq_true rfl) (c_X10_leastOf (d := d + 2) (w := 3) (w1 := (by omega)) (w2 := (by omega)) (ok := ok2)) (fun r4a r4b ok5 => ?_)
  refine x_iload_n (pc := 9) dX3_readSetting_9 (List.Mem.tail _ (List.Mem.head _)) ?_
  refine z_callNip (pc := 10) (i := mX10_mostOf) (S := [.int (zN (((if 3 = 3 then 1 else 0)))), .ref 28]) [.int (zN (3))] dX3_readSetting_10 nl_X3_127 ok_X10_mostOf rfl (Or.inl rfl) (Nat.le_of_ble_eq_true rfl) (c_X10_mostOf (d := d + 2) (w := 3) (w1 := (by omega)) (w2 := (by omega)) (ok := ok5)) (fun r6a r6b ok7 => ?_)
  refine z_callVi (pc := 13) (i := mX3_takeNumber) (S := []) [.int (zN (((if 3 = 3 then 1 else 0)))), .int (zN (((if 3 = 0 then 30 else if 3 = 1 then 20 else if 3 = 2 then 60 else 200))))] dX3_readSetting_13 ml_X3_66 ok_X3_takeNumber rfl sh_28 rfl (Or.inr rfl) (Nat.le_of_ble_eq_true rfl) (c_X3_takeNumber (d := d) (lo := (((if 3 = 3 then 1 else 0)))) (hi := (((if 3 = 0 then 30 else if 3 = 1 then 20 else if 3 = 2 then 60 else 200)))) (hn := hn) (lo1 := (by omega)) (lo2 := (by omega)) (hi1 := (by omega)) (hi2 := (by omega)) (ok := ok7) (hS := hadv.1)) ?_
  intro r8 Hb r8a r8b ok9 hp10
  obtain ⟨hc1, hv1, hk1⟩ := hp10
  have okb_ := ok9
  refine z_if_ne (pc := 16) (tgt := 21) dX3_readSetting_16 (by decide) (by omega) (by omega) (fun hb11 => ?_) (fun hb11 => ?_)
  · skip
    have z1 := ClO_t hc1 hb11
    have rdt := okb_.1 28 10
    rw [hv1 z1.1] at rdt
    refine x_aload_n (pc := 21) dX3_readSetting_21 (List.Mem.head _) ?_
    refine z_getR (pc := 22) (k := 0) (r := 30) dX3_readSetting_22 lf_X3_12 sh_28 rfl rf_28_0 ?_
    refine x_iload_n (pc := 25) dX3_readSetting_25 (List.Mem.tail _ (List.Mem.head _)) ?_
    refine x_aload_n (pc := 26) dX3_readSetting_26 (List.Mem.head _) ?_
    refine z_getI (pc := 27) (k := 10) (v := (tkN T n (tkE T n p))) dX3_readSetting_27 lf_X3_70 sh_28 rfl (hv1 z1.1) ?_
    refine z_callVip (pc := 30) (i := mX6_change) (S := []) [.int (zN (3)), .int (zN (((tkN T n (tkE T n p)))))] dX3_readSetting_30 ml_X3_130 ok_X6_change rfl sh_30 rfl (Or.inl rfl) (Nat.le_of_ble_eq_true rfl) (c_X6_change (d := d + 2) (s := 30) (hs := isSc_30) (w := 3) (v := (((tkN T n (tkE T n p))))) (w1 := (by omega)) (w2 := (by omega)) (v1 := (by omega)) (v2 := (by omega)) (w03 := (by omega)) (ok := ok9)) (fun r12a r12b ok13 => ?_)
    show Ev _ _ _ _ _ _ _ (eh (wI Hb 30 (7 + (3 : Int).toNat) ((((tkN T n (tkE T n p)))))))
    refine x_pop (pc := 33) dX3_readSetting_33 rfl ?_
    refine z_iconst (pc := 34) dX3_readSetting_34 ?_
    refine z_ireturn (pc := 35) dX3_readSetting_35 rfl (Or.inr ⟨rfl, by omega⟩) ok13 (by decide) (by decide) ?_
    exact ⟨⟨fun _ => ⟨rfl, ClS_w z1.2 (by omega)⟩, fun z => absurd z1.1 z⟩, fun _ => RepSc_i (k := 10) (by omega) w1.2 (RepSc_K hk1 rsa), FrS_w (FrS_tr (FrS_K (FcK_C hadv.2)) (FrS_K hk1)) (by omega)⟩
  · skip
    have z1 := ClO_f hc1 (by omega)
    refine z_iconst (pc := 19) dX3_readSetting_19 ?_
    refine z_ireturn (pc := 20) dX3_readSetting_20 rfl (Or.inr ⟨rfl, by omega⟩) ok9 (by decide) (by decide) ?_
    exact ⟨ClO_0 z1, fun z => absurd z z1.1, FrS_tr (FrS_K (FcK_C hadv.2)) (FrS_K hk1)⟩

theorem c_X3_readCar {d : Nat} {H : ZH} (ok : okZ H) {T q : Nat → Int} {n p : Nat} (hn : n ≤ 400) (hS : ClS H T n p) (rs : RepSc H 30 q) (ws : WFS q) (hK : tkK T n p ≠ 35) : EvC zX (d + 4) mX3_readCar [.ref 28] (eh H) (zPi (fun (r : Int) (H1 : ZH) => (q 1 = 8 → ClO H1 T n r 4 (tkA T n p)) ∧ (q 1 ≠ 8 → ClO H1 T n r (crG T n (q 0 - 1) p).1 (crG T n (q 0 - 1) p).2 ∧ ((crG T n (q 0 - 1) p).1 = 0 → RepSc H1 30 (crQ T n q p))) ∧ FrS H H1)) := by
  show _ ∧ Ev zX mX3_readCar (EvC zX (d + 3)) (zPi (fun (r : Int) (H1 : ZH) => (q 1 = 8 → ClO H1 T n r 4 (tkA T n p)) ∧ (q 1 ≠ 8 → ClO H1 T n r (crG T n (q 0 - 1) p).1 (crG T n (q 0 - 1) p).2 ∧ ((crG T n (q 0 - 1) p).1 = 0 → RepSc H1 30 (crQ T n q p))) ∧ FrS H H1)) 0 [(0, .ref 28)] [] (eh H)
  refine ⟨Nat.le_of_ble_eq_true rfl, ?_⟩
  obtain ⟨w0, w1, wc, w34, w35, w36, w37, w38, w39⟩ := ws
  have hm : q 1 = ((q 1).toNat : Int) := by omega
  refine x_aload_n (pc := 0) dX3_readCar_0 (List.Mem.head _) ?_
  refine z_getR (pc := 1) (k := 0) (r := 30) dX3_readCar_1 lf_X3_12 sh_28 rfl rf_28_0 ?_
  refine z_getI (pc := 4) (k := 1) (v := (q 1)) dX3_readCar_4 lf_X3_133 sh_30 rfl rs.2.1 ?_
  refine x_istore_n (pc := 7) dX3_readCar_7 (Nat.le_of_ble_eq_true rfl) ?_
  show Ev _ _ _ _ _ [(1, .int (zN (((q 1))))), (0, .ref 28)] _ _
  refine x_iload_n (pc := 8) dX3_readCar_8 (List.Mem.head _) ?_
  refine z_bipush (pc := 9) dX3_readCar_9 bp_8 ?_
  refine z_icmp_lt (pc := 11) (tgt := 20) dX3_readCar_11 (by decide) (by omega) (by omega) (by decide) (by decide) (fun hb1 => ?_) (fun hb1 => ?_)
  · skip
    refine x_aload_n (pc := 20) dX3_readCar_20 (List.Mem.tail _ (List.Mem.head _)) ?_
    refine z_callVv (pc := 21) (i := mX3_advance) (S := []) [] dX3_readCar_21 ml_X3_95 ok_X3_advance rfl sh_28 rfl rfl (Nat.le_of_ble_eq_true rfl) (c_X3_advance (d := d + 1) (T := T) (n := n) (b := (tkE T n p)) (hn := hn) (hb := ((tk_bd T hS.1).2.2.1)) (ok := ok) (y4 := (hS.2.1)) (h5 := (hS.2.2.1)) (h6 := (hS.2.2.2.2.2.1)) (htp := hS.2.2.2.1) (g2 := (hS.2.2.2.2.2.2.2.2.1)) (g3 := (hS.2.2.2.2.2.2.2.2.2))) ?_
    intro Ha ok3 hp4
    have hadv := hp4
    have rsa := RepSc_K (FcK_C hadv.2) rs
    have fra := FrS_K (FcK_C hadv.2)
    refine x_aload_n (pc := 24) dX3_readCar_24 (List.Mem.tail _ (List.Mem.head _)) ?_
    refine z_iconst (pc := 25) dX3_readCar_25 ?_
    refine x_aload_n (pc := 26) dX3_readCar_26 (List.Mem.tail _ (List.Mem.head _)) ?_
    refine z_getR (pc := 27) (k := 0) (r := 30) dX3_readCar_27 lf_X3_12 sh_28 rfl rf_28_0 ?_
    refine z_getI (pc := 30) (k := 0) (v := (q 0)) dX3_readCar_30 lf_X3_120 sh_30 rfl rsa.1 ?_
    refine z_iconst (pc := 33) dX3_readCar_33 ?_
    refine z_isub (pc := 34) dX3_readCar_34 ?_
    refine z_callVi (pc := 35) (i := mX3_takeNumber) (S := []) [.int (zN (0)), .int (zN ((((q 0)) - 1)))] dX3_readCar_35 ml_X3_66 ok_X3_takeNumber rfl sh_28 rfl (Or.inr rfl) (Nat.le_of_ble_eq_true rfl) (c_X3_takeNumber (d := d) (lo := 0) (hi := ((((q 0)) - 1))) (hn := hn) (lo1 := (by omega)) (lo2 := (by omega)) (hi1 := (by omega)) (hi2 := (by omega)) (ok := ok3) (hS := hadv.1)) ?_
    intro r5 Hb r5a r5b ok6 hp7
    obtain ⟨hcA, hvA, hkA⟩ := hp7
    have ok_A := ok6
    have rsb := RepSc_K hkA rsa
    have frb := FrS_tr fra (FrS_K hkA)
    refine z_if_ne (pc := 38) (tgt := 43) dX3_readCar_38 (by decide) (by omega) (by omega) (fun hb8 => ?_) (fun hb8 => ?_)
    · skip
      have zA : (crA T n (q 0 - 1) p).1 = 0 ∧ ClS Hb T n (crA T n (q 0 - 1) p).2 := ClO_t hcA hb8
      have vA : Hb.1 28 10 = (tkN T n (tkE T n p)) := hvA zA.1
      have rdA := ok_A.1 28 10
      rw [vA] at rdA
      refine x_aload_n (pc := 43) dX3_readCar_43 (List.Mem.tail _ (List.Mem.head _)) ?_
      refine z_getR (pc := 44) (k := 0) (r := 30) dX3_readCar_44 lf_X3_12 sh_28 rfl rf_28_0 ?_
      refine z_getR (pc := 47) (k := 2) (r := 31) dX3_readCar_47 lf_X3_136 sh_30 rfl rf_30_2 ?_
      refine x_iload_n (pc := 50) dX3_readCar_50 (List.Mem.head _) ?_
      refine x_aload_n (pc := 51) dX3_readCar_51 (List.Mem.tail _ (List.Mem.head _)) ?_
      refine z_getI (pc := 52) (k := 10) (v := (tkN T n (tkE T n p))) dX3_readCar_52 lf_X3_70 sh_28 rfl vA ?_
      refine z_iast (pc := 55) (j := (q 1).toNat) (v := ((tkN T n (tkE T n p)))) dX3_readCar_55 sh_31 hm (by omega) (by decide) ?_
      have ok9 := okI ok6 31 ((q 1).toNat) (v := ((tkN T n (tkE T n p)))) (by omega) (by omega)
      refine x_aload_n (pc := 56) dX3_readCar_56 (List.Mem.tail _ (List.Mem.head _)) ?_
      refine z_bipush (pc := 57) dX3_readCar_57 bp_21 ?_
      refine z_callVi (pc := 59) (i := mX3_takeWord) (S := []) [.int (zN (21))] dX3_readCar_59 ml_X3_63 ok_X3_takeWord rfl sh_28 rfl (Or.inr rfl) (Nat.le_of_ble_eq_true rfl) (c_X3_takeWord (d := d) (k := 2) (W := 21) (hn := hn) (hk := (by omega)) (hW := (by decide)) (W1 := (by omega)) (W2 := (by omega)) (ok := ok9) (hS := (ClS_w zA.2 (by omega)))) ?_
      intro r10 Hc r10a r10b ok11 hp12
      obtain ⟨hcB, hkB⟩ := hp12
      have hcB2 : ClO Hc T n r10 (crB T n (q 0 - 1) p).1 (crB T n (q 0 - 1) p).2 := by have e : (crB T n (q 0 - 1) p) = _ := pn_of zA.1; rw [e]; exact hcB
      have rsB := RepSc_K hkB (RepSc_x (c := 31) (by omega) (by omega) rsb)
      have frB := FrS_tr (FrS_w frb (by omega)) (FrS_K hkB)
      have a31B : Hc.1 31 (q 1).toNat = (tkN T n (tkE T n p)) := by rw [hkB.1 31 _ (by omega), wI1]
      refine z_if_eq (pc := 62) (tgt := 76) dX3_readCar_62 (by decide) (by omega) (by omega) (fun hb13 => ?_) (fun hb13 => ?_)
      · skip
        have zB : (crB T n (q 0 - 1) p).1 ≠ 0 ∧ Hc.1 28 2 = (crB T n (q 0 - 1) p).1 ∧ Hc.1 28 3 = ((crB T n (q 0 - 1) p).2 : Int) := ClO_f hcB2 (by omega)
        have lf : ClO Hc T n 0 (crG T n (q 0 - 1) p).1 (crG T n (q 0 - 1) p).2 ∧ ((crG T n (q 0 - 1) p).1 ≠ 0) ∧ FrS H Hc := ⟨by rw [cr_fB zB.1]; exact ClO_0 zB, by rw [cr_fB zB.1]; exact zB.1, frB⟩
        refine z_iconst (pc := 76) dX3_readCar_76 ?_
        refine z_ireturn (pc := 77) dX3_readCar_77 rfl (Or.inr ⟨rfl, by omega⟩) ok11 (by decide) (by decide) ?_
        exact ⟨fun z => absurd z (by omega), fun _ => ⟨lf.1, fun z => absurd z lf.2.1⟩, lf.2.2⟩
      · skip
        have zB : (crB T n (q 0 - 1) p).1 = 0 ∧ ClS Hc T n (crB T n (q 0 - 1) p).2 := ClO_t hcB2 hb13
        refine x_aload_n (pc := 65) dX3_readCar_65 (List.Mem.tail _ (List.Mem.head _)) ?_
        refine z_iconst (pc := 66) dX3_readCar_66 ?_
        refine z_sipush (pc := 67) dX3_readCar_67 sp_200 ?_
        refine z_callVi (pc := 70) (i := mX3_takeNumber) (S := []) [.int (zN (1)), .int (zN (200))] dX3_readCar_70 ml_X3_66 ok_X3_takeNumber rfl sh_28 rfl (Or.inr rfl) (Nat.le_of_ble_eq_true rfl) (c_X3_takeNumber (d := d) (lo := 1) (hi := 200) (hn := hn) (lo1 := (by omega)) (lo2 := (by omega)) (hi1 := (by omega)) (hi2 := (by omega)) (ok := ok11) (hS := zB.2)) ?_
        intro r14 Hd r14a r14b ok15 hp16
        obtain ⟨hcC, hvC, hkC⟩ := hp16
        have ok_C := ok15
        have hcC2 : ClO Hd T n r14 (crC T n (q 0 - 1) p).1 (crC T n (q 0 - 1) p).2 := by have e : (crC T n (q 0 - 1) p) = _ := pt_of zB.1; rw [e]; exact hcC
        have hvC2 : (crC T n (q 0 - 1) p).1 = 0 → Hd.1 28 10 = (tkN T n (crB T n (q 0 - 1) p).2) := by have e : (crC T n (q 0 - 1) p) = _ := pt_of zB.1; rw [e]; exact hvC
        have rsC := RepSc_K hkC rsB
        have frC := FrS_tr frB (FrS_K hkC)
        have a31C : Hd.1 31 (q 1).toNat = (tkN T n (tkE T n p)) := by rw [hkC.1 31 _ (by omega)]; exact a31B
        refine z_if_ne (pc := 73) (tgt := 78) dX3_readCar_73 (by decide) (by omega) (by omega) (fun hb17 => ?_) (fun hb17 => ?_)
        · skip
          have zC : (crC T n (q 0 - 1) p).1 = 0 ∧ ClS Hd T n (crC T n (q 0 - 1) p).2 := ClO_t hcC2 hb17
          have vC : Hd.1 28 10 = (tkN T n (crB T n (q 0 - 1) p).2) := hvC2 zC.1
          have rdC := ok_C.1 28 10
          rw [vC] at rdC
          refine x_aload_n (pc := 78) dX3_readCar_78 (List.Mem.tail _ (List.Mem.head _)) ?_
          refine z_getR (pc := 79) (k := 0) (r := 30) dX3_readCar_79 lf_X3_12 sh_28 rfl rf_28_0 ?_
          refine z_getR (pc := 82) (k := 3) (r := 32) dX3_readCar_82 lf_X3_140 sh_30 rfl rf_30_3 ?_
          refine x_iload_n (pc := 85) dX3_readCar_85 (List.Mem.head _) ?_
          refine x_aload_n (pc := 86) dX3_readCar_86 (List.Mem.tail _ (List.Mem.head _)) ?_
          refine z_getI (pc := 87) (k := 10) (v := (tkN T n (crB T n (q 0 - 1) p).2)) dX3_readCar_87 lf_X3_70 sh_28 rfl vC ?_
          refine z_iast (pc := 90) (j := (q 1).toNat) (v := ((tkN T n (crB T n (q 0 - 1) p).2))) dX3_readCar_90 sh_32 hm (by omega) (by decide) ?_
          have ok18 := okI ok15 32 ((q 1).toNat) (v := ((tkN T n (crB T n (q 0 - 1) p).2))) (by omega) (by omega)
          refine x_aload_n (pc := 91) dX3_readCar_91 (List.Mem.tail _ (List.Mem.head _)) ?_
          refine z_bipush (pc := 92) dX3_readCar_92 bp_22 ?_
          refine z_callVi (pc := 94) (i := mX3_takeWord) (S := []) [.int (zN (22))] dX3_readCar_94 ml_X3_63 ok_X3_takeWord rfl sh_28 rfl (Or.inr rfl) (Nat.le_of_ble_eq_true rfl) (c_X3_takeWord (d := d) (k := 3) (W := 22) (hn := hn) (hk := (by omega)) (hW := (by decide)) (W1 := (by omega)) (W2 := (by omega)) (ok := ok18) (hS := (ClS_w zC.2 (by omega)))) ?_
          intro r19 He r19a r19b ok20 hp21
          obtain ⟨hcD, hkD⟩ := hp21
          have hcD2 : ClO He T n r19 (crD T n (q 0 - 1) p).1 (crD T n (q 0 - 1) p).2 := by have e : (crD T n (q 0 - 1) p) = _ := pn_of zC.1; rw [e]; exact hcD
          have rsD := RepSc_K hkD (RepSc_x (c := 32) (by omega) (by omega) rsC)
          have frD := FrS_tr (FrS_w frC (by omega)) (FrS_K hkD)
          have a31D : He.1 31 (q 1).toNat = (tkN T n (tkE T n p)) := by rw [hkD.1 31 _ (by omega), wI1c (by omega)]; exact a31C
          have a32D : He.1 32 (q 1).toNat = (tkN T n (crB T n (q 0 - 1) p).2) := by rw [hkD.1 32 _ (by omega), wI1]
          refine z_if_eq (pc := 97) (tgt := 110) dX3_readCar_97 (by decide) (by omega) (by omega) (fun hb22 => ?_) (fun hb22 => ?_)
          · skip
            have zD : (crD T n (q 0 - 1) p).1 ≠ 0 ∧ He.1 28 2 = (crD T n (q 0 - 1) p).1 ∧ He.1 28 3 = ((crD T n (q 0 - 1) p).2 : Int) := ClO_f hcD2 (by omega)
            have lf : ClO He T n 0 (crG T n (q 0 - 1) p).1 (crG T n (q 0 - 1) p).2 ∧ ((crG T n (q 0 - 1) p).1 ≠ 0) ∧ FrS H He := ⟨by rw [cr_fD zD.1]; exact ClO_0 zD, by rw [cr_fD zD.1]; exact zD.1, frD⟩
            refine z_iconst (pc := 110) dX3_readCar_110 ?_
            refine z_ireturn (pc := 111) dX3_readCar_111 rfl (Or.inr ⟨rfl, by omega⟩) ok20 (by decide) (by decide) ?_
            exact ⟨fun z => absurd z (by omega), fun _ => ⟨lf.1, fun z => absurd z lf.2.1⟩, lf.2.2⟩
          · skip
            have zD : (crD T n (q 0 - 1) p).1 = 0 ∧ ClS He T n (crD T n (q 0 - 1) p).2 := ClO_t hcD2 hb22
            refine x_aload_n (pc := 100) dX3_readCar_100 (List.Mem.tail _ (List.Mem.head _)) ?_
            refine z_iconst (pc := 101) dX3_readCar_101 ?_
            refine z_bipush (pc := 102) dX3_readCar_102 bp_9 ?_
            refine z_callVi (pc := 104) (i := mX3_takeNumber) (S := []) [.int (zN (1)), .int (zN (9))] dX3_readCar_104 ml_X3_66 ok_X3_takeNumber rfl sh_28 rfl (Or.inr rfl) (Nat.le_of_ble_eq_true rfl) (c_X3_takeNumber (d := d) (lo := 1) (hi := 9) (hn := hn) (lo1 := (by omega)) (lo2 := (by omega)) (hi1 := (by omega)) (hi2 := (by omega)) (ok := ok20) (hS := zD.2)) ?_
            intro r23 Hf r23a r23b ok24 hp25
            obtain ⟨hcE, hvE, hkE⟩ := hp25
            have ok_E := ok24
            have hcE2 : ClO Hf T n r23 (crE T n (q 0 - 1) p).1 (crE T n (q 0 - 1) p).2 := by have e : (crE T n (q 0 - 1) p) = _ := pt_of zD.1; rw [e]; exact hcE
            have hvE2 : (crE T n (q 0 - 1) p).1 = 0 → Hf.1 28 10 = (tkN T n (crD T n (q 0 - 1) p).2) := by have e : (crE T n (q 0 - 1) p) = _ := pt_of zD.1; rw [e]; exact hvE
            have rsE := RepSc_K hkE rsD
            have frE := FrS_tr frD (FrS_K hkE)
            have a31E : Hf.1 31 (q 1).toNat = (tkN T n (tkE T n p)) := by rw [hkE.1 31 _ (by omega)]; exact a31D
            have a32E : Hf.1 32 (q 1).toNat = (tkN T n (crB T n (q 0 - 1) p).2) := by rw [hkE.1 32 _ (by omega)]; exact a32D
            refine z_if_ne (pc := 107) (tgt := 112) dX3_readCar_107 (by decide) (by omega) (by omega) (fun hb26 => ?_) (fun hb26 => ?_)
            · skip
              have zE : (crE T n (q 0 - 1) p).1 = 0 ∧ ClS Hf T n (crE T n (q 0 - 1) p).2 := ClO_t hcE2 hb26
              have vE : Hf.1 28 10 = (tkN T n (crD T n (q 0 - 1) p).2) := hvE2 zE.1
              have rdE := ok_E.1 28 10
              rw [vE] at rdE
              refine x_aload_n (pc := 112) dX3_readCar_112 (List.Mem.tail _ (List.Mem.head _)) ?_
              refine z_getR (pc := 113) (k := 0) (r := 30) dX3_readCar_113 lf_X3_12 sh_28 rfl rf_28_0 ?_
              refine z_getR (pc := 116) (k := 4) (r := 33) dX3_readCar_116 lf_X3_143 sh_30 rfl rf_30_4 ?_
              refine x_iload_n (pc := 119) dX3_readCar_119 (List.Mem.head _) ?_
              refine x_aload_n (pc := 120) dX3_readCar_120 (List.Mem.tail _ (List.Mem.head _)) ?_
              refine z_getI (pc := 121) (k := 10) (v := (tkN T n (crD T n (q 0 - 1) p).2)) dX3_readCar_121 lf_X3_70 sh_28 rfl vE ?_
              refine z_iast (pc := 124) (j := (q 1).toNat) (v := ((tkN T n (crD T n (q 0 - 1) p).2))) dX3_readCar_124 sh_33 hm (by omega) (by decide) ?_
              have ok27 := okI ok24 33 ((q 1).toNat) (v := ((tkN T n (crD T n (q 0 - 1) p).2))) (by omega) (by omega)
              refine x_aload_n (pc := 125) dX3_readCar_125 (List.Mem.tail _ (List.Mem.head _)) ?_
              refine z_bipush (pc := 126) dX3_readCar_126 bp_11 ?_
              refine z_callVi (pc := 128) (i := mX3_takeWord) (S := []) [.int (zN (11))] dX3_readCar_128 ml_X3_63 ok_X3_takeWord rfl sh_28 rfl (Or.inr rfl) (Nat.le_of_ble_eq_true rfl) (c_X3_takeWord (d := d) (k := 4) (W := 11) (hn := hn) (hk := (by omega)) (hW := (by decide)) (W1 := (by omega)) (W2 := (by omega)) (ok := ok27) (hS := (ClS_w zE.2 (by omega)))) ?_
              intro r28 Hg r28a r28b ok29 hp30
              obtain ⟨hcF, hkF⟩ := hp30
              have hcF2 : ClO Hg T n r28 (crF T n (q 0 - 1) p).1 (crF T n (q 0 - 1) p).2 := by have e : (crF T n (q 0 - 1) p) = _ := pn_of zE.1; rw [e]; exact hcF
              have rsF := RepSc_K hkF (RepSc_x (c := 33) (by omega) (by omega) rsE)
              have frF := FrS_tr (FrS_w frE (by omega)) (FrS_K hkF)
              have a31F : Hg.1 31 (q 1).toNat = (tkN T n (tkE T n p)) := by rw [hkF.1 31 _ (by omega), wI1c (by omega)]; exact a31E
              have a32F : Hg.1 32 (q 1).toNat = (tkN T n (crB T n (q 0 - 1) p).2) := by rw [hkF.1 32 _ (by omega), wI1c (by omega)]; exact a32E
              have a33F : Hg.1 33 (q 1).toNat = (tkN T n (crD T n (q 0 - 1) p).2) := by rw [hkF.1 33 _ (by omega), wI1]
              refine z_if_eq (pc := 131) (tgt := 143) dX3_readCar_131 (by decide) (by omega) (by omega) (fun hb31 => ?_) (fun hb31 => ?_)
              · skip
                have zF : (crF T n (q 0 - 1) p).1 ≠ 0 ∧ Hg.1 28 2 = (crF T n (q 0 - 1) p).1 ∧ Hg.1 28 3 = ((crF T n (q 0 - 1) p).2 : Int) := ClO_f hcF2 (by omega)
                have lf : ClO Hg T n 0 (crG T n (q 0 - 1) p).1 (crG T n (q 0 - 1) p).2 ∧ ((crG T n (q 0 - 1) p).1 ≠ 0) ∧ FrS H Hg := ⟨by rw [cr_fF zF.1]; exact ClO_0 zF, by rw [cr_fF zF.1]; exact zF.1, frF⟩
                refine z_iconst (pc := 143) dX3_readCar_143 ?_
                refine z_ireturn (pc := 144) dX3_readCar_144 rfl (Or.inr ⟨rfl, by omega⟩) ok29 (by decide) (by decide) ?_
                exact ⟨fun z => absurd z (by omega), fun _ => ⟨lf.1, fun z => absurd z lf.2.1⟩, lf.2.2⟩
              · skip
                have zF : (crF T n (q 0 - 1) p).1 = 0 ∧ ClS Hg T n (crF T n (q 0 - 1) p).2 := ClO_t hcF2 hb31
                refine x_aload_n (pc := 134) dX3_readCar_134 (List.Mem.tail _ (List.Mem.head _)) ?_
                refine z_iconst (pc := 135) dX3_readCar_135 ?_
                refine z_iconst (pc := 136) dX3_readCar_136 ?_
                refine z_callVi (pc := 137) (i := mX3_takeNumber) (S := []) [.int (zN (0)), .int (zN (3))] dX3_readCar_137 ml_X3_66 ok_X3_takeNumber rfl sh_28 rfl (Or.inr rfl) (Nat.le_of_ble_eq_true rfl) (c_X3_takeNumber (d := d) (lo := 0) (hi := 3) (hn := hn) (lo1 := (by omega)) (lo2 := (by omega)) (hi1 := (by omega)) (hi2 := (by omega)) (ok := ok29) (hS := zF.2)) ?_
                intro r32 Hh r32a r32b ok33 hp34
                obtain ⟨hcG, hvG, hkG⟩ := hp34
                have ok_G := ok33
                have hcG2 : ClO Hh T n r32 (crG T n (q 0 - 1) p).1 (crG T n (q 0 - 1) p).2 := by have e : (crG T n (q 0 - 1) p) = _ := pt_of zF.1; rw [e]; exact hcG
                have hvG2 : (crG T n (q 0 - 1) p).1 = 0 → Hh.1 28 10 = (tkN T n (crF T n (q 0 - 1) p).2) := by have e : (crG T n (q 0 - 1) p) = _ := pt_of zF.1; rw [e]; exact hvG
                have rsG := RepSc_K hkG rsF
                have frG := FrS_tr frF (FrS_K hkG)
                have a31G : Hh.1 31 (q 1).toNat = (tkN T n (tkE T n p)) := by rw [hkG.1 31 _ (by omega)]; exact a31F
                have a32G : Hh.1 32 (q 1).toNat = (tkN T n (crB T n (q 0 - 1) p).2) := by rw [hkG.1 32 _ (by omega)]; exact a32F
                have a33G : Hh.1 33 (q 1).toNat = (tkN T n (crD T n (q 0 - 1) p).2) := by rw [hkG.1 33 _ (by omega)]; exact a33F
                refine z_if_ne (pc := 140) (tgt := 145) dX3_readCar_140 (by decide) (by omega) (by omega) (fun hb35 => ?_) (fun hb35 => ?_)
                · skip
                  have zG : (crG T n (q 0 - 1) p).1 = 0 ∧ ClS Hh T n (crG T n (q 0 - 1) p).2 := ClO_t hcG2 hb35
                  have vG : Hh.1 28 10 = (tkN T n (crF T n (q 0 - 1) p).2) := hvG2 zG.1
                  have rdG := ok_G.1 28 10
                  rw [vG] at rdG
                  refine x_aload_n (pc := 145) dX3_readCar_145 (List.Mem.tail _ (List.Mem.head _)) ?_
                  refine z_getR (pc := 146) (k := 0) (r := 30) dX3_readCar_146 lf_X3_12 sh_28 rfl rf_28_0 ?_
                  refine z_getR (pc := 149) (k := 5) (r := 34) dX3_readCar_149 lf_X3_146 sh_30 rfl rf_30_5 ?_
                  refine x_iload_n (pc := 152) dX3_readCar_152 (List.Mem.head _) ?_
                  refine x_aload_n (pc := 153) dX3_readCar_153 (List.Mem.tail _ (List.Mem.head _)) ?_
                  refine z_getI (pc := 154) (k := 10) (v := (tkN T n (crF T n (q 0 - 1) p).2)) dX3_readCar_154 lf_X3_70 sh_28 rfl vG ?_
                  refine z_iast (pc := 157) (j := (q 1).toNat) (v := ((tkN T n (crF T n (q 0 - 1) p).2))) dX3_readCar_157 sh_34 hm (by omega) (by decide) ?_
                  have ok36 := okI ok33 34 ((q 1).toNat) (v := ((tkN T n (crF T n (q 0 - 1) p).2))) (by omega) (by omega)
                  refine x_aload_n (pc := 158) dX3_readCar_158 (List.Mem.tail _ (List.Mem.head _)) ?_
                  refine z_getR (pc := 159) (k := 0) (r := 30) dX3_readCar_159 lf_X3_12 sh_28 rfl rf_28_0 ?_
                  refine x_dup (pc := 162) dX3_readCar_162 rfl ?_
                  refine z_getI (pc := 163) (k := 1) (v := (q 1)) dX3_readCar_163 lf_X3_133 sh_30 rfl (by rw [wI1c (by omega)]; exact rsG.2.1) ?_
                  refine z_iconst (pc := 166) dX3_readCar_166 ?_
                  refine z_iadd (pc := 167) dX3_readCar_167 ?_
                  refine z_putI (pc := 168) (k := 1) dX3_readCar_168 lp_X3_133 sh_30 rfl ?_
                  have ok37 := okI ok36 30 1 (v := (((q 1)) + 1)) (by omega) (by omega)
                  refine z_iconst (pc := 171) dX3_readCar_171 ?_
                  refine z_ireturn (pc := 172) dX3_readCar_172 rfl (Or.inr ⟨rfl, by omega⟩) ok37 (by decide) (by decide) ?_
                  have rse := RepSc_x (c := 34) (k := (q 1).toNat) (v := (tkN T n (crF T n (q 0 - 1) p).2)) (by omega) (by omega) rsG
                  refine ⟨fun z => absurd z (by omega), fun _ => ⟨⟨fun _ => ⟨rfl, ClS_w (ClS_w zG.2 (by omega)) (by omega)⟩, fun z => absurd zG.1 z⟩, fun _ => ?_⟩, FrS_w (FrS_w frG (by omega)) (by omega)⟩
                  exact car_end hm (by omega) rse (by rw [wI1c (by omega)]; exact a31G) (by rw [wI1c (by omega)]; exact a32G) (by rw [wI1c (by omega)]; exact a33G) (by rw [wI1])
                · skip
                  have zG : (crG T n (q 0 - 1) p).1 ≠ 0 ∧ Hh.1 28 2 = (crG T n (q 0 - 1) p).1 ∧ Hh.1 28 3 = ((crG T n (q 0 - 1) p).2 : Int) := ClO_f hcG2 (by omega)
                  have lf : ClO Hh T n 0 (crG T n (q 0 - 1) p).1 (crG T n (q 0 - 1) p).2 ∧ ((crG T n (q 0 - 1) p).1 ≠ 0) ∧ FrS H Hh := ⟨ClO_0 zG, zG.1, frG⟩
                  refine z_iconst (pc := 143) dX3_readCar_143 ?_
                  refine z_ireturn (pc := 144) dX3_readCar_144 rfl (Or.inr ⟨rfl, by omega⟩) ok33 (by decide) (by decide) ?_
                  exact ⟨fun z => absurd z (by omega), fun _ => ⟨lf.1, fun z => absurd z lf.2.1⟩, lf.2.2⟩
            · skip
              have zE : (crE T n (q 0 - 1) p).1 ≠ 0 ∧ Hf.1 28 2 = (crE T n (q 0 - 1) p).1 ∧ Hf.1 28 3 = ((crE T n (q 0 - 1) p).2 : Int) := ClO_f hcE2 (by omega)
              have lf : ClO Hf T n 0 (crG T n (q 0 - 1) p).1 (crG T n (q 0 - 1) p).2 ∧ ((crG T n (q 0 - 1) p).1 ≠ 0) ∧ FrS H Hf := ⟨by rw [cr_fE zE.1]; exact ClO_0 zE, by rw [cr_fE zE.1]; exact zE.1, frE⟩
              refine z_iconst (pc := 110) dX3_readCar_110 ?_
              refine z_ireturn (pc := 111) dX3_readCar_111 rfl (Or.inr ⟨rfl, by omega⟩) ok24 (by decide) (by decide) ?_
              exact ⟨fun z => absurd z (by omega), fun _ => ⟨lf.1, fun z => absurd z lf.2.1⟩, lf.2.2⟩
        · skip
          have zC : (crC T n (q 0 - 1) p).1 ≠ 0 ∧ Hd.1 28 2 = (crC T n (q 0 - 1) p).1 ∧ Hd.1 28 3 = ((crC T n (q 0 - 1) p).2 : Int) := ClO_f hcC2 (by omega)
          have lf : ClO Hd T n 0 (crG T n (q 0 - 1) p).1 (crG T n (q 0 - 1) p).2 ∧ ((crG T n (q 0 - 1) p).1 ≠ 0) ∧ FrS H Hd := ⟨by rw [cr_fC zC.1]; exact ClO_0 zC, by rw [cr_fC zC.1]; exact zC.1, frC⟩
          refine z_iconst (pc := 76) dX3_readCar_76 ?_
          refine z_ireturn (pc := 77) dX3_readCar_77 rfl (Or.inr ⟨rfl, by omega⟩) ok15 (by decide) (by decide) ?_
          exact ⟨fun z => absurd z (by omega), fun _ => ⟨lf.1, fun z => absurd z lf.2.1⟩, lf.2.2⟩
    · skip
      have zA : (crA T n (q 0 - 1) p).1 ≠ 0 ∧ Hb.1 28 2 = (crA T n (q 0 - 1) p).1 ∧ Hb.1 28 3 = ((crA T n (q 0 - 1) p).2 : Int) := ClO_f hcA (by omega)
      refine z_iconst (pc := 41) dX3_readCar_41 ?_
      refine z_ireturn (pc := 42) dX3_readCar_42 rfl (Or.inr ⟨rfl, by omega⟩) ok6 (by decide) (by decide) ?_
      exact ⟨fun z => absurd z (by omega), fun _ => ⟨by rw [cr_fA zA.1]; exact ClO_0 zA, fun z => absurd (show (crA T n (q 0 - 1) p).1 = 0 by rw [← cr_fA zA.1]; exact z) zA.1⟩, frb⟩
  · skip
    refine x_aload_n (pc := 14) dX3_readCar_14 (List.Mem.tail _ (List.Mem.head _)) ?_
    refine z_iconst (pc := 15) dX3_readCar_15 ?_
    refine z_callVi (pc := 16) (i := mX3_wrong) (S := []) [.int (zN (4))] dX3_readCar_16 ml_X3_60 ok_X3_wrong rfl sh_28 rfl (Or.inr rfl) (Nat.le_of_ble_eq_true rfl) (c_X3_wrong (d := d + 2) (k := 4) (k1 := (by omega)) (k2 := (by omega)) (ok := ok)) ?_
    intro r38 H41 r38a r38b ok39 hp40
    have hw := wr_ClO (by omega) hS hK hp40
    have e1 : pfW T n 4 0 p = 4 := (if_pos rfl).trans (if_neg hK)
    have e2 : pfP T n 0 p = tkA T n p := if_pos rfl
    rw [e1, e2] at hw
    refine z_ireturn (pc := 19) dX3_readCar_19 rfl (Or.inr ⟨rfl, by omega⟩) ok39 (by omega) (by omega) ?_
    exact ⟨fun _ => hw.1, fun z => absurd (by omega) z, FrS_K hw.2⟩

theorem c_X3_readSceneLine {d : Nat} {H : ZH} (ok : okZ H) {T q : Nat → Int} {n p : Nat} (hn : n ≤ 400) (hS : ClS H T n p) (rs : RepSc H 30 q) (ws : WFS q) : EvC zX (d + 5) mX3_readSceneLine [.ref 28] (eh H) (zPi (fun (r : Int) (H1 : ZH) => ClO H1 T n r (lnM T n p q).1.1 (lnM T n p q).1.2 ∧ ((lnM T n p q).1.1 = 0 → RepSc H1 30 (lnM T n p q).2) ∧ FrS H H1)) := by
  show _ ∧ Ev zX mX3_readSceneLine (EvC zX (d + 4)) (zPi (fun (r : Int) (H1 : ZH) => ClO H1 T n r (lnM T n p q).1.1 (lnM T n p q).1.2 ∧ ((lnM T n p q).1.1 = 0 → RepSc H1 30 (lnM T n p q).2) ∧ FrS H H1)) 0 [(0, .ref 28)] [] (eh H)
  refine ⟨Nat.le_of_ble_eq_true rfl, ?_⟩
  have ws0 := ws
  obtain ⟨w0, w1, wc, w34, w35, w36, w37, w38, w39⟩ := ws
  have kb := ClS_K hS
  have k2 := (ctK_2 kb).1
  rw [← ClS_7 hS] at k2
  have k9 : tkK T n p ≤ 29 → H.1 28 9 = cwd (tkK T n p) := fun z => by rw [ClS_9 hS (by omega), ctV_w z]
  have c29 : cwd 29 = -1 := by decide
  have rd9 := ok.1 28 9
  refine x_aload_n (pc := 0) dX3_readSceneLine_0 (List.Mem.head _) ?_
  have rd1 := ok.1 28 7
  refine z_getI (pc := 1) (k := 7) (v := H.1 28 7) dX3_readSceneLine_1 lf_X3_40 sh_28 rfl rfl ?_
  refine z_iconst (pc := 4) dX3_readSceneLine_4 ?_
  refine z_icmp_ne (pc := 5) (tgt := 15) dX3_readSceneLine_5 (by decide) (by omega) (by omega) (by decide) (by decide) (fun hb2 => ?_) (fun hb2 => ?_)
  · skip
    have kx : ¬ tkK T n p ≤ 29 := fun z => hb2 (k2.2 z)
    have nt : ¬ (5 ≤ tkK T n p ∧ tkK T n p ≤ 12) := by omega
    have ne0 : tkK T n p ≠ 0 := by omega
    have ne1 : tkK T n p ≠ 1 := by omega
    have ne13 : tkK T n p ≠ 13 := by omega
    have ne14 : tkK T n p ≠ 14 := by omega
    have ne15 : tkK T n p ≠ 15 := by omega
    have ne16 : tkK T n p ≠ 16 := by omega
    refine x_aload_n (pc := 15) dX3_readSceneLine_15 (List.Mem.head _) ?_
    refine z_callVi (pc := 16) (i := mX3_misfit) (S := []) [] dX3_readSceneLine_16 ml_X3_101 ok_X3_misfit rfl sh_28 rfl (Or.inr rfl) (Nat.le_of_ble_eq_true rfl) (c_X3_misfit (d := d + 2) (ok := ok)) ?_
    intro r3 H6 r3a r3b ok4 hp5
    have hm := ms_ClO hS hp5
    have hlm : (lnM T n p q) = ((pfW T n 2 0 p, tkA T n p), q) := (if_neg ne0).trans ((if_neg ne1).trans ((if_neg ne13).trans ((if_neg ne14).trans ((if_neg ne15).trans ((if_neg ne16).trans (if_neg nt))))))
    have pfp : pfP T n 0 p = tkA T n p := if_pos rfl
    have pfn : pfW T n 2 0 p ≠ 0 := by have e : pfW T n 2 0 p = if tkK T n p = 35 then 1 else 2 := if_pos rfl; rw [e]; split <;> omega
    refine z_ireturn (pc := 19) dX3_readSceneLine_19 rfl (Or.inr ⟨rfl, by omega⟩) ok4 (by omega) (by omega) ?_
    rw [hlm]
    exact ⟨by rw [← pfp]; exact hm.1, fun z => absurd z pfn, FrS_K hm.2⟩
  · skip
    have kx := k2.1 (by omega)
    have k9x := k9 kx
    refine x_aload_n (pc := 8) dX3_readSceneLine_8 (List.Mem.head _) ?_
    have rd7 := ok.1 28 9
    refine z_getI (pc := 9) (k := 9) (v := H.1 28 9) dX3_readSceneLine_9 lf_X3_98 sh_28 rfl rfl ?_
    refine z_if_ge (pc := 12) (tgt := 20) dX3_readSceneLine_12 (by decide) (by omega) (by omega) (fun hb8 => ?_) (fun hb8 => ?_)
    · skip
      have kx28 : tkK T n p ≤ 28 := by
        by_cases z : tkK T n p = 29
        · rw [z] at k9x; omega
        · omega
      have cv := cwd_v (K := tkK T n p) ⟨kb.1, kx28⟩
      refine x_aload_n (pc := 20) dX3_readSceneLine_20 (List.Mem.head _) ?_
      have rd9 := ok.1 28 9
      refine z_getI (pc := 21) (k := 9) (v := H.1 28 9) dX3_readSceneLine_21 lf_X3_98 sh_28 rfl rfl ?_
      refine z_bipush (pc := 24) dX3_readSceneLine_24 bp_7 ?_
      refine z_icmp_gt (pc := 26) (tgt := 53) dX3_readSceneLine_26 (by decide) (by omega) (by omega) (by decide) (by decide) (fun hb10 => ?_) (fun hb10 => ?_)
      · skip
        have nt : ¬ (5 ≤ tkK T n p ∧ tkK T n p ≤ 12) := fun z => by have y := cv.1.2 z; omega
        refine x_aload_n (pc := 53) dX3_readSceneLine_53 (List.Mem.head _) ?_
        have rd11 := ok.1 28 9
        refine z_getI (pc := 54) (k := 9) (v := H.1 28 9) dX3_readSceneLine_54 lf_X3_98 sh_28 rfl rfl ?_
        rcases Int.decEq ((H.1 28 9)) (19) with hk12_0 | hk12_0
        rotate_left
        · skip
          refine z_tabIn (pc := 57) (19) (tgt := 104) dX3_readSceneLine_57 hk12_0 (by omega) (by omega) (by decide) (by decide) rfl (by decide) ?_
          have ek : tkK T n p = 0 := (isw_k hS (by omega)).1 ⟨by omega, by rw [show cwd 0 = 19 by decide]; omega⟩
          refine x_aload_n (pc := 104) dX3_readSceneLine_104 (List.Mem.head _) ?_
          refine z_callVi (pc := 105) (i := mX3_readLanes) (S := []) [] dX3_readSceneLine_105 ml_X3_107 ok_X3_readLanes rfl sh_28 rfl (Or.inr rfl) (Nat.le_of_ble_eq_true rfl) (c_X3_readLanes (d := d) (q := q) (hn := hn) (ok := ok) (hS := hS) (rs := rs) (ws := ws0)) ?_
          intro r13 H16 r13a r13b ok14 hp15
          have lf : ClO H16 T n r13 (lnM T n p q).1.1 (lnM T n p q).1.2 ∧ ((lnM T n p q).1.1 = 0 → RepSc H16 30 (lnM T n p q).2) ∧ FrS H H16 := by
            have hlm : (lnM T n p q) = (pt T n (lnd (fun j => q (2 + j)) (q 1).toNat) 4 (0, tkE T n p), upA q 0 (tkN T n (tkE T n p))) := if_pos ek
            rw [hlm]
            exact hp15
          have r01 := ClO_01 lf.1
          refine z_ireturn (pc := 108) dX3_readSceneLine_108 rfl (Or.inr ⟨rfl, by omega⟩) ok14 (by omega) (by omega) ?_
          exact lf
        rcases Int.decEq ((H.1 28 9)) (20) with hk12_1 | hk12_1
        rotate_left
        · skip
          refine z_tabIn (pc := 57) (20) (tgt := 109) dX3_readSceneLine_57 hk12_1 (by omega) (by omega) (by decide) (by decide) rfl (by decide) ?_
          have ek : tkK T n p = 1 := (isw_k hS (by omega)).1 ⟨by omega, by rw [show cwd 1 = 20 by decide]; omega⟩
          refine x_aload_n (pc := 109) dX3_readSceneLine_109 (List.Mem.head _) ?_
          refine z_callVi (pc := 110) (i := mX3_readCar) (S := []) [] dX3_readSceneLine_110 ml_X3_110 ok_X3_readCar rfl sh_28 rfl (Or.inr rfl) (Nat.le_of_ble_eq_true rfl) (c_X3_readCar (d := d) (q := q) (hn := hn) (ok := ok) (hS := hS) (rs := rs) (ws := ws0) (hK := (by omega))) ?_
          intro r17 H20 r17a r17b ok18 hp19
          have ne0 : tkK T n p ≠ 0 := by omega
          obtain ⟨ha, hb9, hc9⟩ := hp19
          have lf : ClO H20 T n r17 (lnM T n p q).1.1 (lnM T n p q).1.2 ∧ ((lnM T n p q).1.1 = 0 → RepSc H20 30 (lnM T n p q).2) ∧ FrS H H20 := by
            by_cases z8 : q 1 = 8
            · have hlm : (lnM T n p q) = ((4, tkA T n p), q) := (if_neg ne0).trans ((if_pos ek).trans (if_pos z8))
              rw [hlm]
              exact ⟨ha z8, fun z => absurd z (show (4 : Int) ≠ 0 by decide), hc9⟩
            · have hlm : (lnM T n p q) = (crG T n (q 0 - 1) p, crQ T n q p) := (if_neg ne0).trans ((if_pos ek).trans (if_neg z8))
              rw [hlm]
              exact ⟨(hb9 z8).1, (hb9 z8).2, hc9⟩
          have r01 := ClO_01 lf.1
          refine z_ireturn (pc := 113) dX3_readSceneLine_113 rfl (Or.inr ⟨rfl, by omega⟩) ok18 (by omega) (by omega) ?_
          exact lf
        rcases Int.decEq ((H.1 28 9)) (23) with hk12_4 | hk12_4
        rotate_left
        · skip
          refine z_tabIn (pc := 57) (23) (tgt := 114) dX3_readSceneLine_57 hk12_4 (by omega) (by omega) (by decide) (by decide) rfl (by decide) ?_
          have ek : tkK T n p = 13 := (isw_k hS (by omega)).1 ⟨by omega, by rw [show cwd 13 = 23 by decide]; omega⟩
          refine x_aload_n (pc := 114) dX3_readSceneLine_114 (List.Mem.head _) ?_
          refine z_iconst (pc := 115) dX3_readSceneLine_115 ?_
          refine z_callVi (pc := 116) (i := mX3_readSetting) (S := []) [.int (zN (0))] dX3_readSceneLine_116 ml_X3_113 ok_X3_readSetting rfl sh_28 rfl (Or.inr rfl) (Nat.le_of_ble_eq_true rfl) (c_X3_readSetting_0 (d := d) (q := q) (hn := hn) (ok := ok) (hS := hS) (rs := rs) (ws := ws0)) ?_
          intro r21 H24 r21a r21b ok22 hp23
          have ne0 : tkK T n p ≠ 0 := by omega
          have ne1 : tkK T n p ≠ 1 := by omega
          have lf : ClO H24 T n r21 (lnM T n p q).1.1 (lnM T n p q).1.2 ∧ ((lnM T n p q).1.1 = 0 → RepSc H24 30 (lnM T n p q).2) ∧ FrS H H24 := by
            have hlm : (lnM T n p q) = (pt T n 0 30 (0, tkE T n p), upA q 35 (tkN T n (tkE T n p))) := (if_neg ne0).trans ((if_neg ne1).trans (if_pos ek))
            rw [hlm]
            exact hp23
          have r01 := ClO_01 lf.1
          refine z_ireturn (pc := 119) dX3_readSceneLine_119 rfl (Or.inr ⟨rfl, by omega⟩) ok22 (by omega) (by omega) ?_
          exact lf
        rcases Int.decEq ((H.1 28 9)) (24) with hk12_5 | hk12_5
        rotate_left
        · skip
          refine z_tabIn (pc := 57) (24) (tgt := 120) dX3_readSceneLine_57 hk12_5 (by omega) (by omega) (by decide) (by decide) rfl (by decide) ?_
          have ek : tkK T n p = 14 := (isw_k hS (by omega)).1 ⟨by omega, by rw [show cwd 14 = 24 by decide]; omega⟩
          refine x_aload_n (pc := 120) dX3_readSceneLine_120 (List.Mem.head _) ?_
          refine z_iconst (pc := 121) dX3_readSceneLine_121 ?_
          refine z_callVi (pc := 122) (i := mX3_readSetting) (S := []) [.int (zN (1))] dX3_readSceneLine_122 ml_X3_113 ok_X3_readSetting rfl sh_28 rfl (Or.inr rfl) (Nat.le_of_ble_eq_true rfl) (c_X3_readSetting_1 (d := d) (q := q) (hn := hn) (ok := ok) (hS := hS) (rs := rs) (ws := ws0)) ?_
          intro r25 H28 r25a r25b ok26 hp27
          have ne0 : tkK T n p ≠ 0 := by omega
          have ne1 : tkK T n p ≠ 1 := by omega
          have ne13 : tkK T n p ≠ 13 := by omega
          have lf : ClO H28 T n r25 (lnM T n p q).1.1 (lnM T n p q).1.2 ∧ ((lnM T n p q).1.1 = 0 → RepSc H28 30 (lnM T n p q).2) ∧ FrS H H28 := by
            have hlm : (lnM T n p q) = (pt T n 0 20 (0, tkE T n p), upA q 36 (tkN T n (tkE T n p))) := (if_neg ne0).trans ((if_neg ne1).trans ((if_neg ne13).trans (if_pos ek)))
            rw [hlm]
            exact hp27
          have r01 := ClO_01 lf.1
          refine z_ireturn (pc := 125) dX3_readSceneLine_125 rfl (Or.inr ⟨rfl, by omega⟩) ok26 (by omega) (by omega) ?_
          exact lf
        rcases Int.decEq ((H.1 28 9)) (25) with hk12_6 | hk12_6
        rotate_left
        · skip
          refine z_tabIn (pc := 57) (25) (tgt := 126) dX3_readSceneLine_57 hk12_6 (by omega) (by omega) (by decide) (by decide) rfl (by decide) ?_
          have ek : tkK T n p = 15 := (isw_k hS (by omega)).1 ⟨by omega, by rw [show cwd 15 = 25 by decide]; omega⟩
          refine x_aload_n (pc := 126) dX3_readSceneLine_126 (List.Mem.head _) ?_
          refine z_iconst (pc := 127) dX3_readSceneLine_127 ?_
          refine z_callVi (pc := 128) (i := mX3_readSetting) (S := []) [.int (zN (2))] dX3_readSceneLine_128 ml_X3_113 ok_X3_readSetting rfl sh_28 rfl (Or.inr rfl) (Nat.le_of_ble_eq_true rfl) (c_X3_readSetting_2 (d := d) (q := q) (hn := hn) (ok := ok) (hS := hS) (rs := rs) (ws := ws0)) ?_
          intro r29 H32 r29a r29b ok30 hp31
          have ne0 : tkK T n p ≠ 0 := by omega
          have ne1 : tkK T n p ≠ 1 := by omega
          have ne13 : tkK T n p ≠ 13 := by omega
          have ne14 : tkK T n p ≠ 14 := by omega
          have lf : ClO H32 T n r29 (lnM T n p q).1.1 (lnM T n p q).1.2 ∧ ((lnM T n p q).1.1 = 0 → RepSc H32 30 (lnM T n p q).2) ∧ FrS H H32 := by
            have hlm : (lnM T n p q) = (pt T n 0 60 (0, tkE T n p), upA q 37 (tkN T n (tkE T n p))) := (if_neg ne0).trans ((if_neg ne1).trans ((if_neg ne13).trans ((if_neg ne14).trans (if_pos ek))))
            rw [hlm]
            exact hp31
          have r01 := ClO_01 lf.1
          refine z_ireturn (pc := 131) dX3_readSceneLine_131 rfl (Or.inr ⟨rfl, by omega⟩) ok30 (by omega) (by omega) ?_
          exact lf
        rcases Int.decEq ((H.1 28 9)) (26) with hk12_7 | hk12_7
        rotate_left
        · skip
          refine z_tabIn (pc := 57) (26) (tgt := 132) dX3_readSceneLine_57 hk12_7 (by omega) (by omega) (by decide) (by decide) rfl (by decide) ?_
          have ek : tkK T n p = 16 := (isw_k hS (by omega)).1 ⟨by omega, by rw [show cwd 16 = 26 by decide]; omega⟩
          refine x_aload_n (pc := 132) dX3_readSceneLine_132 (List.Mem.head _) ?_
          refine z_iconst (pc := 133) dX3_readSceneLine_133 ?_
          refine z_callVi (pc := 134) (i := mX3_readSetting) (S := []) [.int (zN (3))] dX3_readSceneLine_134 ml_X3_113 ok_X3_readSetting rfl sh_28 rfl (Or.inr rfl) (Nat.le_of_ble_eq_true rfl) (c_X3_readSetting_3 (d := d) (q := q) (hn := hn) (ok := ok) (hS := hS) (rs := rs) (ws := ws0)) ?_
          intro r33 H36 r33a r33b ok34 hp35
          have ne0 : tkK T n p ≠ 0 := by omega
          have ne1 : tkK T n p ≠ 1 := by omega
          have ne13 : tkK T n p ≠ 13 := by omega
          have ne14 : tkK T n p ≠ 14 := by omega
          have ne15 : tkK T n p ≠ 15 := by omega
          have lf : ClO H36 T n r33 (lnM T n p q).1.1 (lnM T n p q).1.2 ∧ ((lnM T n p q).1.1 = 0 → RepSc H36 30 (lnM T n p q).2) ∧ FrS H H36 := by
            have hlm : (lnM T n p q) = (pt T n 1 200 (0, tkE T n p), upA q 38 (tkN T n (tkE T n p))) := (if_neg ne0).trans ((if_neg ne1).trans ((if_neg ne13).trans ((if_neg ne14).trans ((if_neg ne15).trans (if_pos ek)))))
            rw [hlm]
            exact hp35
          have r01 := ClO_01 lf.1
          refine z_ireturn (pc := 137) dX3_readSceneLine_137 rfl (Or.inr ⟨rfl, by omega⟩) ok34 (by omega) (by omega) ?_
          exact lf
        rcases Int.decEq ((H.1 28 9)) (21) with hk12_2 | hk12_2
        rotate_left
        · skip
          refine z_tabIn (pc := 57) (21) (tgt := 138) dX3_readSceneLine_57 hk12_2 (by omega) (by omega) (by decide) (by decide) rfl (by decide) ?_
          have ne0 : tkK T n p ≠ 0 := fun z => by have y2 := k9x; rw [z, show cwd 0 = 19 by decide] at y2; omega
          have ne1 : tkK T n p ≠ 1 := fun z => by have y2 := k9x; rw [z, show cwd 1 = 20 by decide] at y2; omega
          have ne13 : tkK T n p ≠ 13 := fun z => by have y2 := k9x; rw [z, show cwd 13 = 23 by decide] at y2; omega
          have ne14 : tkK T n p ≠ 14 := fun z => by have y2 := k9x; rw [z, show cwd 14 = 24 by decide] at y2; omega
          have ne15 : tkK T n p ≠ 15 := fun z => by have y2 := k9x; rw [z, show cwd 15 = 25 by decide] at y2; omega
          have ne16 : tkK T n p ≠ 16 := fun z => by have y2 := k9x; rw [z, show cwd 16 = 26 by decide] at y2; omega
          refine x_aload_n (pc := 138) dX3_readSceneLine_138 (List.Mem.head _) ?_
          refine z_callVi (pc := 139) (i := mX3_misfit) (S := []) [] dX3_readSceneLine_139 ml_X3_101 ok_X3_misfit rfl sh_28 rfl (Or.inr rfl) (Nat.le_of_ble_eq_true rfl) (c_X3_misfit (d := d + 2) (ok := ok)) ?_
          intro r37 H40 r37a r37b ok38 hp39
          have hm := ms_ClO hS hp39
          have hlm : (lnM T n p q) = ((pfW T n 2 0 p, tkA T n p), q) := (if_neg ne0).trans ((if_neg ne1).trans ((if_neg ne13).trans ((if_neg ne14).trans ((if_neg ne15).trans ((if_neg ne16).trans (if_neg nt))))))
          have pfp : pfP T n 0 p = tkA T n p := if_pos rfl
          have pfn : pfW T n 2 0 p ≠ 0 := by have e : pfW T n 2 0 p = if tkK T n p = 35 then 1 else 2 := if_pos rfl; rw [e]; split <;> omega
          refine z_ireturn (pc := 142) dX3_readSceneLine_142 rfl (Or.inr ⟨rfl, by omega⟩) ok38 (by omega) (by omega) ?_
          rw [hlm]
          exact ⟨by rw [← pfp]; exact hm.1, fun z => absurd z pfn, FrS_K hm.2⟩
        rcases Int.decEq ((H.1 28 9)) (22) with hk12_3 | hk12_3
        rotate_left
        · skip
          refine z_tabIn (pc := 57) (22) (tgt := 138) dX3_readSceneLine_57 hk12_3 (by omega) (by omega) (by decide) (by decide) rfl (by decide) ?_
          have ne0 : tkK T n p ≠ 0 := fun z => by have y2 := k9x; rw [z, show cwd 0 = 19 by decide] at y2; omega
          have ne1 : tkK T n p ≠ 1 := fun z => by have y2 := k9x; rw [z, show cwd 1 = 20 by decide] at y2; omega
          have ne13 : tkK T n p ≠ 13 := fun z => by have y2 := k9x; rw [z, show cwd 13 = 23 by decide] at y2; omega
          have ne14 : tkK T n p ≠ 14 := fun z => by have y2 := k9x; rw [z, show cwd 14 = 24 by decide] at y2; omega
          have ne15 : tkK T n p ≠ 15 := fun z => by have y2 := k9x; rw [z, show cwd 15 = 25 by decide] at y2; omega
          have ne16 : tkK T n p ≠ 16 := fun z => by have y2 := k9x; rw [z, show cwd 16 = 26 by decide] at y2; omega
          refine x_aload_n (pc := 138) dX3_readSceneLine_138 (List.Mem.head _) ?_
          refine z_callVi (pc := 139) (i := mX3_misfit) (S := []) [] dX3_readSceneLine_139 ml_X3_101 ok_X3_misfit rfl sh_28 rfl (Or.inr rfl) (Nat.le_of_ble_eq_true rfl) (c_X3_misfit (d := d + 2) (ok := ok)) ?_
          intro r41 H44 r41a r41b ok42 hp43
          have hm := ms_ClO hS hp43
          have hlm : (lnM T n p q) = ((pfW T n 2 0 p, tkA T n p), q) := (if_neg ne0).trans ((if_neg ne1).trans ((if_neg ne13).trans ((if_neg ne14).trans ((if_neg ne15).trans ((if_neg ne16).trans (if_neg nt))))))
          have pfp : pfP T n 0 p = tkA T n p := if_pos rfl
          have pfn : pfW T n 2 0 p ≠ 0 := by have e : pfW T n 2 0 p = if tkK T n p = 35 then 1 else 2 := if_pos rfl; rw [e]; split <;> omega
          refine z_ireturn (pc := 142) dX3_readSceneLine_142 rfl (Or.inr ⟨rfl, by omega⟩) ok42 (by omega) (by omega) ?_
          rw [hlm]
          exact ⟨by rw [← pfp]; exact hm.1, fun z => absurd z pfn, FrS_K hm.2⟩
        refine z_tabOut (pc := 57) (tgt := 138) dX3_readSceneLine_57 (by omega) (by omega) (by omega) (by decide) ?_
        have ne0 : tkK T n p ≠ 0 := fun z => by have y2 := k9x; rw [z, show cwd 0 = 19 by decide] at y2; omega
        have ne1 : tkK T n p ≠ 1 := fun z => by have y2 := k9x; rw [z, show cwd 1 = 20 by decide] at y2; omega
        have ne13 : tkK T n p ≠ 13 := fun z => by have y2 := k9x; rw [z, show cwd 13 = 23 by decide] at y2; omega
        have ne14 : tkK T n p ≠ 14 := fun z => by have y2 := k9x; rw [z, show cwd 14 = 24 by decide] at y2; omega
        have ne15 : tkK T n p ≠ 15 := fun z => by have y2 := k9x; rw [z, show cwd 15 = 25 by decide] at y2; omega
        have ne16 : tkK T n p ≠ 16 := fun z => by have y2 := k9x; rw [z, show cwd 16 = 26 by decide] at y2; omega
        refine x_aload_n (pc := 138) dX3_readSceneLine_138 (List.Mem.head _) ?_
        refine z_callVi (pc := 139) (i := mX3_misfit) (S := []) [] dX3_readSceneLine_139 ml_X3_101 ok_X3_misfit rfl sh_28 rfl (Or.inr rfl) (Nat.le_of_ble_eq_true rfl) (c_X3_misfit (d := d + 2) (ok := ok)) ?_
        intro r45 H48 r45a r45b ok46 hp47
        have hm := ms_ClO hS hp47
        have hlm : (lnM T n p q) = ((pfW T n 2 0 p, tkA T n p), q) := (if_neg ne0).trans ((if_neg ne1).trans ((if_neg ne13).trans ((if_neg ne14).trans ((if_neg ne15).trans ((if_neg ne16).trans (if_neg nt))))))
        have pfp : pfP T n 0 p = tkA T n p := if_pos rfl
        have pfn : pfW T n 2 0 p ≠ 0 := by have e : pfW T n 2 0 p = if tkK T n p = 35 then 1 else 2 := if_pos rfl; rw [e]; split <;> omega
        refine z_ireturn (pc := 142) dX3_readSceneLine_142 rfl (Or.inr ⟨rfl, by omega⟩) ok46 (by omega) (by omega) ?_
        rw [hlm]
        exact ⟨by rw [← pfp]; exact hm.1, fun z => absurd z pfn, FrS_K hm.2⟩
      · skip
        have kt : 5 ≤ tkK T n p ∧ tkK T n p ≤ 12 := cv.1.1 (by omega)
        have kv := cv.2 kt
        have xb : (q 34).toNat ||| 2 ^ (tkK T n p - 5).toNat < 2 ^ 8 := Nat.or_lt_two_pow (by omega) (Nat.pow_lt_pow_right (by decide) (by omega))
        have ne0 : tkK T n p ≠ 0 := by omega
        have ne1 : tkK T n p ≠ 1 := by omega
        have ne13 : tkK T n p ≠ 13 := by omega
        have ne14 : tkK T n p ≠ 14 := by omega
        have ne15 : tkK T n p ≠ 15 := by omega
        have ne16 : tkK T n p ≠ 16 := by omega
        have hlm : (lnM T n p q) = ((0, tkE T n p), upA q 34 (((q 34).toNat ||| 2 ^ (tkK T n p - 5).toNat : Nat))) := (if_neg ne0).trans ((if_neg ne1).trans ((if_neg ne13).trans ((if_neg ne14).trans ((if_neg ne15).trans ((if_neg ne16).trans (if_pos kt))))))
        refine x_aload_n (pc := 29) dX3_readSceneLine_29 (List.Mem.head _) ?_
        refine z_getR (pc := 30) (k := 0) (r := 30) dX3_readSceneLine_30 lf_X3_12 sh_28 rfl rf_28_0 ?_
        refine x_dup (pc := 33) dX3_readSceneLine_33 rfl ?_
        refine z_getI (pc := 34) (k := 6) (v := (q 34)) dX3_readSceneLine_34 lf_X3_104 sh_30 rfl rs.2.2.2.1 ?_
        refine z_iconst (pc := 37) dX3_readSceneLine_37 ?_
        refine x_aload_n (pc := 38) dX3_readSceneLine_38 (List.Mem.head _) ?_
        have rd49 := ok.1 28 9
        refine z_getI (pc := 39) (k := 9) (v := H.1 28 9) dX3_readSceneLine_39 lf_X3_98 sh_28 rfl rfl ?_
        refine z_ishl1 (pc := 42) (k := (tkK T n p - 5).toNat) dX3_readSceneLine_42 (by omega) (by omega) ?_
        refine z_ior (pc := 43) (m := (q 34).toNat) (n := 2 ^ (tkK T n p - 5).toNat) dX3_readSceneLine_43 (by omega) rfl ?_
        refine z_putI (pc := 44) (k := 6) dX3_readSceneLine_44 lp_X3_104 sh_30 rfl ?_
        have ok50 := okI ok 30 6 (v := ((((q 34).toNat) ||| (2 ^ (tkK T n p - 5).toNat) : Nat) : Int)) (by omega) (by omega)
        refine x_aload_n (pc := 47) dX3_readSceneLine_47 (List.Mem.head _) ?_
        refine z_callVv (pc := 48) (i := mX3_advance) (S := []) [] dX3_readSceneLine_48 ml_X3_95 ok_X3_advance rfl sh_28 rfl rfl (Nat.le_of_ble_eq_true rfl) (c_X3_advance (d := d + 2) (T := T) (n := n) (b := (tkE T n p)) (hn := hn) (hb := ((tk_bd T hS.1).2.2.1)) (ok := ok50) (y4 := (by rw [wI1c (by omega)]; exact hS.2.1)) (h5 := (by rw [wI1c (by omega)]; exact hS.2.2.1)) (h6 := (by rw [wI1c (by omega)]; exact hS.2.2.2.2.2.1)) (htp := (TpC_c (wIf (by omega)) hS.2.2.2.1)) (g2 := (by rw [wI1c (by omega)]; exact hS.2.2.2.2.2.2.2.2.1)) (g3 := (by rw [wI1c (by omega)]; exact hS.2.2.2.2.2.2.2.2.2))) ?_
        intro H54 ok52 hp53
        have hadv := hp53
        refine z_iconst (pc := 51) dX3_readSceneLine_51 ?_
        refine z_ireturn (pc := 52) dX3_readSceneLine_52 rfl (Or.inr ⟨rfl, by omega⟩) ok52 (by decide) (by decide) ?_
        rw [hlm]
        exact ⟨⟨fun _ => ⟨rfl, hadv.1⟩, fun z => absurd rfl z⟩, fun _ => RepSc_K (FcK_C hadv.2) (RepSc_i (k := 6) (by omega) w1.2 rs), FrS_tr (FrS_w (FrS_rf H) (by omega)) (FrS_K (FcK_C hadv.2))⟩
    · skip
      have kx29 : tkK T n p = 29 := by
        by_cases z : tkK T n p = 29
        · exact z
        · exfalso
          have y := cwd_p (K := tkK T n p) (by omega)
          omega
      have nt : ¬ (5 ≤ tkK T n p ∧ tkK T n p ≤ 12) := by omega
      have ne0 : tkK T n p ≠ 0 := by omega
      have ne1 : tkK T n p ≠ 1 := by omega
      have ne13 : tkK T n p ≠ 13 := by omega
      have ne14 : tkK T n p ≠ 14 := by omega
      have ne15 : tkK T n p ≠ 15 := by omega
      have ne16 : tkK T n p ≠ 16 := by omega
      refine x_aload_n (pc := 15) dX3_readSceneLine_15 (List.Mem.head _) ?_
      refine z_callVi (pc := 16) (i := mX3_misfit) (S := []) [] dX3_readSceneLine_16 ml_X3_101 ok_X3_misfit rfl sh_28 rfl (Or.inr rfl) (Nat.le_of_ble_eq_true rfl) (c_X3_misfit (d := d + 2) (ok := ok)) ?_
      intro r55 H58 r55a r55b ok56 hp57
      have hm := ms_ClO hS hp57
      have hlm : (lnM T n p q) = ((pfW T n 2 0 p, tkA T n p), q) := (if_neg ne0).trans ((if_neg ne1).trans ((if_neg ne13).trans ((if_neg ne14).trans ((if_neg ne15).trans ((if_neg ne16).trans (if_neg nt))))))
      have pfp : pfP T n 0 p = tkA T n p := if_pos rfl
      have pfn : pfW T n 2 0 p ≠ 0 := by have e : pfW T n 2 0 p = if tkK T n p = 35 then 1 else 2 := if_pos rfl; rw [e]; split <;> omega
      refine z_ireturn (pc := 19) dX3_readSceneLine_19 rfl (Or.inr ⟨rfl, by omega⟩) ok56 (by omega) (by omega) ?_
      rw [hlm]
      exact ⟨by rw [← pfp]; exact hm.1, fun z => absurd z pfn, FrS_K hm.2⟩
