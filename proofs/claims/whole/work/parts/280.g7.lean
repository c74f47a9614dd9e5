/-! GROUP G7: the reference's two words about a driver. -/
theorem bgn_wfn {A o : Nat → Int} {wc sd : Int} (ws : WFS A) : WFN A (bgn A o wc sd) := by
  obtain ⟨ws0, ws1, wsC, wsR⟩ := ws
  have hA : ((A 1).toNat : Int) = A 1 := Int.toNat_of_nonneg ws1.1
  have hk8 : (A 1).toNat ≤ 8 := by omega
  have z : ∀ j : Nat, 8 + (A 1).toNat ≤ j → j < 39 → bgn A o wc sd j = 0 := by
    intro j h1 h2
    unfold bgn
    rw [if_neg (show ¬ j = 40 by omega), if_neg (show ¬ j = 39 by omega)]
    unfold bg2
    rw [if_neg (show ¬ j < (A 1).toNat by omega), if_neg (show ¬ (8 ≤ j ∧ j < 8 + (A 1).toNat) by omega), if_pos (show j < 42 by omega)]
  have h39 : bgn A o wc sd 39 = -1 := by unfold bgn; rw [if_neg (by decide), if_pos rfl]
  refine ⟨fun c hc => ?_, ?_, ?_, ?_, ?_, ?_, ?_, ?_, ?_⟩
  · have wc' := wsC c hc
    have e0 : bgn A o wc sd c = if (c : Int) = wc then 0 else A (10 + c) := by
      unfold bgn
      rw [if_neg (show ¬ c = 40 by omega), if_neg (show ¬ c = 39 by omega)]
      unfold bg2
      rw [if_pos (show c < (A 1).toNat by omega)]
    have e8 : bgn A o wc sd (8 + c) = if A 34 / 2 ^ 6 % 2 = 1 ∧ 4 < A (18 + c) then 4 else A (18 + c) := by
      unfold bgn
      rw [if_neg (show ¬ 8 + c = 40 by omega), if_neg (show ¬ 8 + c = 39 by omega)]
      unfold bg2
      rw [if_neg (show ¬ 8 + c < (A 1).toNat by omega), if_pos (show 8 ≤ 8 + c ∧ 8 + c < 8 + (A 1).toNat by omega), show 8 + c - 8 = c by omega]
    have e16 := z (16 + c) (by omega) (by omega)
    have e24 := z (24 + c) (by omega) (by omega)
    rw [e0, e8, e16, e24]
    refine ⟨by split <;> omega, by split <;> omega, by omega, fun _ => by split <;> omega, Or.inl rfl⟩
  · rw [z 32 (by omega) (by omega)]; decide
  · rw [z 33 (by omega) (by omega)]; decide
  · rw [z 34 (by omega) (by omega)]; decide
  · rw [z 35 (by omega) (by omega)]; decide
  · rw [z 36 (by omega) (by omega)]; decide
  · rw [z 37 (by omega) (by omega)]; decide
  · rw [z 38 (by omega) (by omega)]; decide
  · rw [h39]; decide

theorem c_X11_chance {d : Nat} {H : ZH} (ok : okZ H) {a : Int} (a1 : -2147483648 ≤ a) (a2 : a ≤ 2147483647) (cm : cntOK H 1) (th : H.1 0 0 = 0) (ws : WFS (H.1 2)) (wl : WFL (H.1 2)) : EvC zX (d + 5) mX11_chance [.ref 0, .int (zN (a))] (eh H) (zPi (fun (r : Int) (H1 : ZH) => (0 ≤ a ∧ a ≤ H.1 2 1 - 1 ∧ r = tsp (H.1 2) (bgn (H.1 2) (H.1 6) (H.1 0 22) 0) (H.1 0 21) a.toNat (H.1 2 40).toNat 0 ∧ ∃ f, H1 = wA (wA H 6 (bgn (H.1 2) (H.1 6) (H.1 0 22) 0)) 8 f) ∨ (¬ (0 ≤ a ∧ a ≤ H.1 2 1 - 1) ∧ r = -2 ∧ H1 = bumpM 0 H))) := by
  show _ ∧ Ev zX mX11_chance (EvC zX (d + 4)) (zPi (fun (r : Int) (H1 : ZH) => (0 ≤ a ∧ a ≤ H.1 2 1 - 1 ∧ r = tsp (H.1 2) (bgn (H.1 2) (H.1 6) (H.1 0 22) 0) (H.1 0 21) a.toNat (H.1 2 40).toNat 0 ∧ ∃ f, H1 = wA (wA H 6 (bgn (H.1 2) (H.1 6) (H.1 0 22) 0)) 8 f) ∨ (¬ (0 ≤ a ∧ a ≤ H.1 2 1 - 1) ∧ r = -2 ∧ H1 = bumpM 0 H))) 0 [(0, .ref 0), (1, .int (zN (a)))] [] (eh H)
  refine ⟨Nat.le_of_ble_eq_true rfl, ?_⟩
  have wsx := ws
  obtain ⟨ws0, ws1, wsC, ws34, ws35, ws36, ws37, ws38, ws39⟩ := wsx
  refine x_aload_n (pc := 0) dX11_chance_0 (List.Mem.head _) ?_
  refine z_iconst (pc := 1) dX11_chance_1 ?_
  refine z_putI (pc := 2) (k := 0) dX11_chance_2 lp_X11_1 sh_0 rfl ?_
  have ok1 := okI ok 0 0 (v := 0) (by decide) (by decide)
  rw [wI_same th]
  refine x_aload_n (pc := 5) dX11_chance_5 (List.Mem.head _) ?_
  refine x_iload_n (pc := 6) dX11_chance_6 (List.Mem.tail _ (List.Mem.head _)) ?_
  refine z_callVbp (pc := 7) (i := mX11_isCar) (S := []) [.int (zN (a))] dX11_chance_7 ml_X11_210 ok_X11_isCar rfl sh_0 rfl (Or.inr rfl) (Nat.le_of_ble_eq_true rfl) (c_X11_isCar (d := d + 2) (a := a) (a1 := (by omega)) (a2 := (by omega)) (ok := ok) (ws := (by first | assumption | omega))) (fun hc4 ok3 => ?_) (fun hc4 ok3 => ?_)
  · skip
    refine z_if_ne (pc := 10) (tgt := 20) dX11_chance_10 (by decide) (by decide) (by decide) (fun _ => ?_) (fun h => absurd h (by decide))
    refine x_aload_n (pc := 20) dX11_chance_20 (List.Mem.head _) ?_
    refine z_iconst (pc := 21) dX11_chance_21 ?_
    refine z_callVv (pc := 22) (i := mX11_begins) (S := []) [.int (zN (0))] dX11_chance_22 ml_X11_240 ok_X11_begins rfl sh_0 rfl rfl (Nat.le_of_ble_eq_true rfl) (c_X11_begins (d := d + 2) (sd := 0) (sd1 := (by omega)) (sd2 := (by omega)) (ok := ok3) (ws := (by first | assumption | omega))) ?_
    intro H9 ok7 hp8
    subst hp8
    refine x_aload_n (pc := 25) dX11_chance_25 (List.Mem.head _) ?_
    refine x_iload_n (pc := 26) dX11_chance_26 (List.Mem.tail _ (List.Mem.head _)) ?_
    refine z_callVi (pc := 27) (i := mX11_stopsBy) (S := []) [.int (zN (a))] dX11_chance_27 ml_X11_243 ok_X11_stopsBy rfl sh_0 rfl (Or.inl rfl) (Nat.le_of_ble_eq_true rfl) (by have qz := c_X11_stopsBy (d := d) (c := a.toNat) (hc := (show ((a.toNat : Nat) : Int) < H.1 2 1 by omega)) (ok := ok7) (ws := (show WFS (H.1 2) from ws)) (wn := (show WFN (H.1 2) (bgn (H.1 2) (H.1 6) (H.1 0 22) 0) from bgn_wfn ws)) (wl := (show WFL (H.1 2) from wl)); rw [show ((a.toNat : Nat) : Int) = a by omega] at qz; exact qz) ?_
    intro r10 H13 r10a r10b ok11 hp12
    have hpp := hp12
    refine z_ireturn (pc := 30) dX11_chance_30 rfl (Or.inl rfl) ok11 (by omega) (by omega) ?_
    exact Or.inl ⟨by omega, by omega, hpp.1, hpp.2⟩
  · skip
    refine z_if_ne (pc := 10) (tgt := 20) dX11_chance_10 (by decide) (by decide) (by decide) (fun h => absurd h (by decide)) (fun _ => ?_)
    refine x_aload_n (pc := 13) dX11_chance_13 (List.Mem.head _) ?_
    refine z_bipush (pc := 14) dX11_chance_14 bp_m2 ?_
    refine z_callVip (pc := 16) (i := mX11_no) (S := []) [.int (zN ((-2)))] dX11_chance_16 ml_X11_89 ok_X11_no rfl sh_0 rfl (Or.inl rfl) (Nat.le_of_ble_eq_true rfl) (c_X11_no (d := d + 3) (code := ((-2))) (code1 := (by omega)) (code2 := (by omega)) (ok := ok3) (cn := (by first | assumption | omega))) (fun r15a r15b ok16 => ?_)
    show Ev _ _ _ _ _ _ _ (eh (wI H 1 ((refIx ((-2)))) (H.1 1 (refIx ((-2))) + 1)))
    refine z_ireturn (pc := 19) dX11_chance_19 rfl (Or.inl rfl) ok16 (by omega) (by omega) ?_
    exact Or.inr ⟨by omega, rfl, rfl⟩

theorem c_X11_can {d : Nat} {H : ZH} (ok : okZ H) {a : Int} (a1 : -2147483648 ≤ a) (a2 : a ≤ 2147483647) (cm : cntOK H 1) (th : H.1 0 0 = 0) (ws : WFS (H.1 2)) : EvC zX (d + 3) mX11_can [.ref 0, .int (zN (a))] (eh H) (zPi (fun (r : Int) (H1 : ZH) => (0 ≤ a ∧ a ≤ H.1 2 1 - 1 ∧ r = (if (bgn (H.1 2) (H.1 6) (H.1 0 22) 0) (8 + a.toNat) * ((bgn (H.1 2) (H.1 6) (H.1 0 22) 0) (8 + a.toNat) - 1) / 2 ≤ (bgn (H.1 2) (H.1 6) (H.1 0 22) 0) a.toNat - H.1 2 35 then 1 else 0) ∧ H1 = wA H 6 (bgn (H.1 2) (H.1 6) (H.1 0 22) 0)) ∨ (¬ (0 ≤ a ∧ a ≤ H.1 2 1 - 1) ∧ r = -2 ∧ H1 = bumpM 0 H))) := by
  show _ ∧ Ev zX mX11_can (EvC zX (d + 2)) (zPi (fun (r : Int) (H1 : ZH) => (0 ≤ a ∧ a ≤ H.1 2 1 - 1 ∧ r = (if (bgn (H.1 2) (H.1 6) (H.1 0 22) 0) (8 + a.toNat) * ((bgn (H.1 2) (H.1 6) (H.1 0 22) 0) (8 + a.toNat) - 1) / 2 ≤ (bgn (H.1 2) (H.1 6) (H.1 0 22) 0) a.toNat - H.1 2 35 then 1 else 0) ∧ H1 = wA H 6 (bgn (H.1 2) (H.1 6) (H.1 0 22) 0)) ∨ (¬ (0 ≤ a ∧ a ≤ H.1 2 1 - 1) ∧ r = -2 ∧ H1 = bumpM 0 H))) 0 [(0, .ref 0), (1, .int (zN (a)))] [] (eh H)
  refine ⟨Nat.le_of_ble_eq_true rfl, ?_⟩
  have wsx := ws
  obtain ⟨ws0, ws1, wsC, ws34, ws35, ws36, ws37, ws38, ws39⟩ := wsx
  refine x_aload_n (pc := 0) dX11_can_0 (List.Mem.head _) ?_
  refine z_iconst (pc := 1) dX11_can_1 ?_
  refine z_putI (pc := 2) (k := 0) dX11_can_2 lp_X11_1 sh_0 rfl ?_
  have ok1 := okI ok 0 0 (v := 0) (by decide) (by decide)
  rw [wI_same th]
  refine x_aload_n (pc := 5) dX11_can_5 (List.Mem.head _) ?_
  refine x_iload_n (pc := 6) dX11_can_6 (List.Mem.tail _ (List.Mem.head _)) ?_
  refine z_callVbp (pc := 7) (i := mX11_isCar) (S := []) [.int (zN (a))] dX11_can_7 ml_X11_210 ok_X11_isCar rfl sh_0 rfl (Or.inr rfl) (Nat.le_of_ble_eq_true rfl) (c_X11_isCar (d := d) (a := a) (a1 := (by omega)) (a2 := (by omega)) (ok := ok) (ws := (by first | assumption | omega))) (fun hc4 ok3 => ?_) (fun hc4 ok3 => ?_)
  · skip
    refine z_if_ne (pc := 10) (tgt := 20) dX11_can_10 (by decide) (by decide) (by decide) (fun _ => ?_) (fun h => absurd h (by decide))
    refine x_aload_n (pc := 20) dX11_can_20 (List.Mem.head _) ?_
    refine z_iconst (pc := 21) dX11_can_21 ?_
    refine z_callVv (pc := 22) (i := mX11_begins) (S := []) [.int (zN (0))] dX11_can_22 ml_X11_240 ok_X11_begins rfl sh_0 rfl rfl (Nat.le_of_ble_eq_true rfl) (c_X11_begins (d := d) (sd := 0) (sd1 := (by omega)) (sd2 := (by omega)) (ok := ok3) (ws := (by first | assumption | omega))) ?_
    intro H9 ok7 hp8
    subst hp8
    refine x_aload_n (pc := 25) dX11_can_25 (List.Mem.head _) ?_
    refine x_iload_n (pc := 26) dX11_can_26 (List.Mem.tail _ (List.Mem.head _)) ?_
    refine z_callVbp (pc := 27) (i := mX11_canStop) (S := []) [.int (zN (a))] dX11_can_27 ml_X11_246 ok_X11_canStop rfl sh_0 rfl (Or.inr rfl) (Nat.le_of_ble_eq_true rfl) (by have qz := c_X11_canStop (d := d + 1) (c := a.toNat) (hc := (show ((a.toNat : Nat) : Int) < H.1 2 1 by omega)) (ok := ok7) (ws := (show WFS (H.1 2) from ws)) (wn := (show WFN (H.1 2) (bgn (H.1 2) (H.1 6) (H.1 0 22) 0) from bgn_wfn ws)); rw [show ((a.toNat : Nat) : Int) = a by omega] at qz; exact qz) (fun hc12 ok11 => ?_) (fun hc12 ok11 => ?_)
    · skip
      refine z_if_eq (pc := 30) (tgt := 37) dX11_can_30 (by decide) (by decide) (by decide) (fun h => absurd h (by decide)) (fun _ => ?_)
      refine z_iconst (pc := 33) dX11_can_33 ?_
      refine x_goto (pc := 34) (tgt := 38) dX11_can_34 (by decide) ?_
      refine z_ireturn (pc := 38) dX11_can_38 rfl (Or.inl rfl) ok11 (by decide) (by decide) ?_
      first | exact Or.inl ⟨by omega, by omega, (if_pos (by assumption)).symm, rfl⟩ | exact Or.inl ⟨by omega, by omega, (if_neg (by assumption)).symm, rfl⟩
    · skip
      refine z_if_eq (pc := 30) (tgt := 37) dX11_can_30 (by decide) (by decide) (by decide) (fun _ => ?_) (fun h => absurd h (by decide))
      refine z_iconst (pc := 37) dX11_can_37 ?_
      refine z_ireturn (pc := 38) dX11_can_38 rfl (Or.inl rfl) ok11 (by decide) (by decide) ?_
      first | exact Or.inl ⟨by omega, by omega, (if_pos (by assumption)).symm, rfl⟩ | exact Or.inl ⟨by omega, by omega, (if_neg (by assumption)).symm, rfl⟩
  · skip
    refine z_if_ne (pc := 10) (tgt := 20) dX11_can_10 (by decide) (by decide) (by decide) (fun h => absurd h (by decide)) (fun _ => ?_)
    refine x_aload_n (pc := 13) dX11_can_13 (List.Mem.head _) ?_
    refine z_bipush (pc := 14) dX11_can_14 bp_m2 ?_
    refine z_callVip (pc := 16) (i := mX11_no) (S := []) [.int (zN ((-2)))] dX11_can_16 ml_X11_89 ok_X11_no rfl sh_0 rfl (Or.inl rfl) (Nat.le_of_ble_eq_true rfl) (c_X11_no (d := d + 1) (code := ((-2))) (code1 := (by omega)) (code2 := (by omega)) (ok := ok3) (cn := (by first | assumption | omega))) (fun r16a r16b ok17 => ?_)
    show Ev _ _ _ _ _ _ _ (eh (wI H 1 ((refIx ((-2)))) (H.1 1 (refIx ((-2))) + 1)))
    refine z_ireturn (pc := 19) dX11_can_19 rfl (Or.inl rfl) ok17 (by omega) (by omega) ?_
    exact Or.inr ⟨by omega, rfl, rfl⟩
