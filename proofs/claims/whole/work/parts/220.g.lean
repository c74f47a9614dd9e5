/-! GROUP G: set; what drivers ask. -/
/-- a fact of the ticks: N the reference's now -/
def tsm (A N : Nat → Int) (fr to but dc bl : Int) : Nat → Bool
  | 0 => false
  | d + 1 => tsm A N fr to but dc bl d || decide (((fr ≤ A (2 + d) ∧ A (2 + d) ≤ to) ∧ A (2 + d) ≠ but) ∧ N (16 + d) = dc ∧ 0 < N d ∧ N d < bl)
theorem tsm_t {A N : Nat → Int} {fr to but dc bl : Int} {n d : Nat} (hd : d < n) (h : ((fr ≤ A (2 + d) ∧ A (2 + d) ≤ to) ∧ A (2 + d) ≠ but) ∧ N (16 + d) = dc ∧ 0 < N d ∧ N d < bl) : tsm A N fr to but dc bl n = true := by
  induction n with
  | zero => omega
  | succ n ih =>
    show (tsm A N fr to but dc bl n || decide _) = true
    rcases Nat.lt_or_ge d n with c | c
    · rw [ih c, Bool.true_or]
    · rw [show n = d by omega, decide_eq_true h, Bool.or_true]
theorem tsm_f {A N : Nat → Int} {fr to but dc bl : Int} {n : Nat} (h : ∀ d, d < n → ¬ (((fr ≤ A (2 + d) ∧ A (2 + d) ≤ to) ∧ A (2 + d) ≠ but) ∧ N (16 + d) = dc ∧ 0 < N d ∧ N d < bl)) : tsm A N fr to but dc bl n = false := by
  induction n with
  | zero => rfl
  | succ n ih =>
    show (tsm A N fr to but dc bl n || decide _) = false
    rw [ih (fun d hd => h d (by omega)), decide_eq_false (h n (by omega)), Bool.or_false]
/-- hidden from her -/
def thd (A N : Nat → Int) (c : Nat) : Nat → Bool
  | 0 => false
  | d + 1 => thd A N c d || decide (A (2 + d) = A (2 + c) - 1 ∧ 0 < A (26 + d) ∧ N (16 + d) = 2 ∧ N (8 + d) = 0 ∧ (1 ≤ N d ∧ N d ≤ 3) ∧ N d < N c)
theorem thd_t {A N : Nat → Int} {c n d : Nat} (hd : d < n) (h : A (2 + d) = A (2 + c) - 1 ∧ 0 < A (26 + d) ∧ N (16 + d) = 2 ∧ N (8 + d) = 0 ∧ (1 ≤ N d ∧ N d ≤ 3) ∧ N d < N c) : thd A N c n = true := by
  induction n with
  | zero => omega
  | succ n ih =>
    show (thd A N c n || decide _) = true
    rcases Nat.lt_or_ge d n with e | e
    · rw [ih e, Bool.true_or]
    · rw [show n = d by omega, decide_eq_true h, Bool.or_true]
theorem thd_f {A N : Nat → Int} {c n : Nat} (h : ∀ d, d < n → ¬ (A (2 + d) = A (2 + c) - 1 ∧ 0 < A (26 + d) ∧ N (16 + d) = 2 ∧ N (8 + d) = 0 ∧ (1 ≤ N d ∧ N d ≤ 3) ∧ N d < N c)) : thd A N c n = false := by
  induction n with
  | zero => rfl
  | succ n ih =>
    show (thd A N c n || decide _) = false
    rw [ih (fun d hd => h d (by omega)), decide_eq_false (h n (by omega)), Bool.or_false]
/-- the lane is free -/
def tfr (A N : Nat → Int) (ln : Int) : Nat → Bool
  | 0 => true
  | c + 1 => tfr A N ln c && decide (¬ (A (2 + c) = ln ∧ 0 < N c ∧ N (16 + c) ≠ 2 ∧ N (24 + c) ≠ 1 ∧ thd A N c (A 1).toNat = false ∧ N c ≤ A 36 * N (8 + c)))
theorem tfr_f {A N : Nat → Int} {ln : Int} {n c : Nat} (hc : c < n) (h : A (2 + c) = ln ∧ 0 < N c ∧ N (16 + c) ≠ 2 ∧ N (24 + c) ≠ 1 ∧ thd A N c (A 1).toNat = false ∧ N c ≤ A 36 * N (8 + c)) : tfr A N ln n = false := by
  induction n with
  | zero => omega
  | succ n ih =>
    show (tfr A N ln n && decide _) = false
    rcases Nat.lt_or_ge c n with e | e
    · rw [ih e, Bool.false_and]
    · rw [show n = c by omega, decide_eq_false (fun q => q h), Bool.and_false]
theorem tfr_t {A N : Nat → Int} {ln : Int} {n : Nat} (h : ∀ c, c < n → ¬ (A (2 + c) = ln ∧ 0 < N c ∧ N (16 + c) ≠ 2 ∧ N (24 + c) ≠ 1 ∧ thd A N c (A 1).toNat = false ∧ N c ≤ A 36 * N (8 + c))) : tfr A N ln n = true := by
  induction n with
  | zero => rfl
  | succ n ih =>
    show (tfr A N ln n && decide _) = true
    rw [ih (fun d hd => h d (by omega)), decide_eq_true (h n (by omega)), Bool.and_true]
/-- it has room to stop -/
def tcan (A N : Nat → Int) (c : Nat) : Prop := N (8 + c) * (N (8 + c) - 1) / 2 ≤ N c - A 35
/-- the tick's state as it must be -/
def WFN (A N : Nat → Int) : Prop := (∀ c : Nat, (c : Int) < A 1 → (-9 ≤ N c ∧ N c ≤ 200) ∧ (0 ≤ N (8 + c) ∧ N (8 + c) ≤ 9) ∧ (0 ≤ N (16 + c) ∧ N (16 + c) ≤ 2) ∧ (N (16 + c) ≠ 2 → 1 ≤ N (8 + c)) ∧ (N (24 + c) = 0 ∨ N (24 + c) = 1)) ∧ (0 ≤ N 32 ∧ N 32 ≤ 4) ∧ (N 33 = 0 ∨ N 33 = 1) ∧ (0 ≤ N 34 ∧ N 34 ≤ 2) ∧ (0 ≤ N 35 ∧ N 35 ≤ 99) ∧ (0 ≤ N 36 ∧ N 36 ≤ 99) ∧ (0 ≤ N 37 ∧ N 37 ≤ 3) ∧ (0 ≤ N 38 ∧ N 38 ≤ 162) ∧ (-1 ≤ N 39 ∧ N 39 ≤ 7)
theorem ceil_le {x p g : Int} (hp : 0 < p) (hx : 0 < x) : (x + p - 1) / p ≤ g ↔ x ≤ g * p := by
  constructor
  · intro h
    have h1 := Int.mul_ediv_add_emod (x + p - 1) p
    have h2 := Int.emod_lt_of_pos (x + p - 1) hp
    have h3 : p * ((x + p - 1) / p) ≤ p * g := Int.mul_le_mul_of_nonneg_left h (by omega)
    have h4 : p * g = g * p := Int.mul_comm _ _
    omega
  · intro h
    have h1 : (x + p - 1) / p < g + 1 := Int.ediv_lt_of_lt_mul hp (by rw [Int.add_mul, Int.one_mul]; omega)
    omega

theorem c_X10_leastOf {d : Nat} {H : ZH} (ok : okZ H) {w : Int} (w1 : -2147483648 ≤ w) (w2 : w ≤ 2147483647) : EvC zX (d + 1) mX10_leastOf [.int (zN (w))] (eh H) (zPi (fun (rz : Int) (Hz : ZH) => rz = ((if w = 3 then 1 else 0)) ∧ Hz = H)) := by
  show _ ∧ Ev zX mX10_leastOf (EvC zX d) (zPi (fun (rz : Int) (Hz : ZH) => rz = ((if w = 3 then 1 else 0)) ∧ Hz = H)) 0 [(0, .int (zN (w)))] [] (eh H)
  refine ⟨Nat.le_of_ble_eq_true rfl, ?_⟩
  refine x_iload_n (pc := 0) dX10_leastOf_0 (List.Mem.head _) ?_
  refine z_iconst (pc := 1) dX10_leastOf_1 ?_
  refine z_icmp_ne (pc := 2) (tgt := 9) dX10_leastOf_2 (by decide) (by omega) (by omega) (by decide) (by decide) (fun hb1 => ?_) (fun hb1 => ?_)
  · skip
    refine z_iconst (pc := 9) dX10_leastOf_9 ?_
    refine z_ireturn (pc := 10) dX10_leastOf_10 rfl (Or.inl rfl) ok (by decide) (by decide) ?_
    refine ⟨?_, rfl⟩
    (repeat' split) <;> omega
  · skip
    refine z_iconst (pc := 5) dX10_leastOf_5 ?_
    refine x_goto (pc := 6) (tgt := 10) dX10_leastOf_6 (by decide) ?_
    refine z_ireturn (pc := 10) dX10_leastOf_10 rfl (Or.inl rfl) ok (by decide) (by decide) ?_
    refine ⟨?_, rfl⟩
    (repeat' split) <;> omega

theorem c_X10_mostOf {d : Nat} {H : ZH} (ok : okZ H) {w : Int} (w1 : -2147483648 ≤ w) (w2 : w ≤ 2147483647) : EvC zX (d + 1) mX10_mostOf [.int (zN (w))] (eh H) (zPi (fun (rz : Int) (Hz : ZH) => rz = ((if w = 0 then 30 else if w = 1 then 20 else if w = 2 then 60 else 200)) ∧ Hz = H)) := by
  show _ ∧ Ev zX mX10_mostOf (EvC zX d) (zPi (fun (rz : Int) (Hz : ZH) => rz = ((if w = 0 then 30 else if w = 1 then 20 else if w = 2 then 60 else 200)) ∧ Hz = H)) 0 [(0, .int (zN (w)))] [] (eh H)
  refine ⟨Nat.le_of_ble_eq_true rfl, ?_⟩
  refine x_iload_n (pc := 0) dX10_mostOf_0 (List.Mem.head _) ?_
  rcases Int.decEq (w) (0) with hk1_0 | hk1_0
  rotate_left
  · skip
    refine z_tabIn (pc := 1) (0) (tgt := 28) dX10_mostOf_1 hk1_0 (by omega) (by omega) (by decide) (by decide) rfl (by decide) ?_
    refine z_bipush (pc := 28) dX10_mostOf_28 bp_30 ?_
    refine z_ireturn (pc := 30) dX10_mostOf_30 rfl (Or.inl rfl) ok (by decide) (by decide) ?_
    refine ⟨?_, rfl⟩
    (repeat' split) <;> omega
  rcases Int.decEq (w) (1) with hk1_1 | hk1_1
  rotate_left
  · skip
    refine z_tabIn (pc := 1) (1) (tgt := 31) dX10_mostOf_1 hk1_1 (by omega) (by omega) (by decide) (by decide) rfl (by decide) ?_
    refine z_bipush (pc := 31) dX10_mostOf_31 bp_20 ?_
    refine z_ireturn (pc := 33) dX10_mostOf_33 rfl (Or.inl rfl) ok (by decide) (by decide) ?_
    refine ⟨?_, rfl⟩
    (repeat' split) <;> omega
  rcases Int.decEq (w) (2) with hk1_2 | hk1_2
  rotate_left
  · skip
    refine z_tabIn (pc := 1) (2) (tgt := 34) dX10_mostOf_1 hk1_2 (by omega) (by omega) (by decide) (by decide) rfl (by decide) ?_
    refine z_bipush (pc := 34) dX10_mostOf_34 bp_60 ?_
    refine z_ireturn (pc := 36) dX10_mostOf_36 rfl (Or.inl rfl) ok (by decide) (by decide) ?_
    refine ⟨?_, rfl⟩
    (repeat' split) <;> omega
  refine z_tabOut (pc := 1) (tgt := 37) dX10_mostOf_1 (by omega) (by omega) (by omega) (by decide) ?_
  refine z_sipush (pc := 37) dX10_mostOf_37 sp_200 ?_
  refine z_ireturn (pc := 40) dX10_mostOf_40 rfl (Or.inl rfl) ok (by decide) (by decide) ?_
  refine ⟨?_, rfl⟩
  (repeat' split) <;> omega

theorem c_X6_change {d : Nat} {H : ZH} (ok : okZ H) {s : Nat} (hs : isSc s) {w v : Int} (w1 : -2147483648 ≤ w) (w2 : w ≤ 2147483647) (v1 : -2147483648 ≤ v) (v2 : v ≤ 2147483647) (w03 : 0 ≤ w ∧ w ≤ 3) : EvC zX (d + 1) mX6_change [.ref s, .int (zN (w)), .int (zN (v))] (eh H) (zPi (fun (rz : Int) (Hz : ZH) => rz = (H.1 s (7 + w.toNat)) ∧ Hz = wI H s (7 + w.toNat) v)) := by
  show _ ∧ Ev zX mX6_change (EvC zX d) (zPi (fun (rz : Int) (Hz : ZH) => rz = (H.1 s (7 + w.toNat)) ∧ Hz = wI H s (7 + w.toNat) v)) 0 [(0, .ref s), (1, .int (zN (w))), (2, .int (zN (v)))] [] (eh H)
  refine ⟨Nat.le_of_ble_eq_true rfl, ?_⟩
  refine x_iload_n (pc := 0) dX6_change_0 (List.Mem.tail _ (List.Mem.head _)) ?_
  rcases Int.decEq (w) (0) with hk1_0 | hk1_0
  rotate_left
  · skip
    refine z_tabIn (pc := 1) (0) (tgt := 28) dX6_change_1 hk1_0 (by omega) (by omega) (by decide) (by decide) rfl (by decide) ?_
    refine x_aload_n (pc := 28) dX6_change_28 (List.Mem.head _) ?_
    have rd2 := ok.1 s 7
    refine z_getI (pc := 29) (k := 7) (v := H.1 s 7) dX6_change_29 lf_X6_43 (sh_Sc0 hs) rfl rfl ?_
    refine x_istore_n (pc := 32) dX6_change_32 (Nat.le_of_ble_eq_true rfl) ?_
    show Ev _ _ _ _ _ [(3, .int (zN ((H.1 s 7)))), (0, .ref s), (1, .int (zN (w))), (2, .int (zN (v)))] _ _
    refine x_aload_n (pc := 33) dX6_change_33 (List.Mem.tail _ (List.Mem.head _)) ?_
    refine x_iload_n (pc := 34) dX6_change_34 (List.Mem.tail _ (List.Mem.tail _ (List.Mem.tail _ (List.Mem.head _)))) ?_
    refine z_putI (pc := 35) (k := 7) dX6_change_35 lp_X6_43 (sh_Sc0 hs) rfl ?_
    have ok3 := okI ok s 7 (v := v) (by omega) (by omega)
    refine x_iload_n (pc := 38) dX6_change_38 (List.Mem.head _) ?_
    refine z_ireturn (pc := 39) dX6_change_39 rfl (Or.inl rfl) ok3 (by omega) (by omega) ?_
    exact ⟨by rw [show 7 + w.toNat = 7 by omega], by rw [show 7 + w.toNat = 7 by omega]⟩
  rcases Int.decEq (w) (1) with hk1_1 | hk1_1
  rotate_left
  · skip
    refine z_tabIn (pc := 1) (1) (tgt := 40) dX6_change_1 hk1_1 (by omega) (by omega) (by decide) (by decide) rfl (by decide) ?_
    refine x_aload_n (pc := 40) dX6_change_40 (List.Mem.head _) ?_
    have rd4 := ok.1 s 8
    refine z_getI (pc := 41) (k := 8) (v := H.1 s 8) dX6_change_41 lf_X6_28 (sh_Sc0 hs) rfl rfl ?_
    refine x_istore_n (pc := 44) dX6_change_44 (Nat.le_of_ble_eq_true rfl) ?_
    show Ev _ _ _ _ _ [(3, .int (zN ((H.1 s 8)))), (0, .ref s), (1, .int (zN (w))), (2, .int (zN (v)))] _ _
    refine x_aload_n (pc := 45) dX6_change_45 (List.Mem.tail _ (List.Mem.head _)) ?_
    refine x_iload_n (pc := 46) dX6_change_46 (List.Mem.tail _ (List.Mem.tail _ (List.Mem.tail _ (List.Mem.head _)))) ?_
    refine z_putI (pc := 47) (k := 8) dX6_change_47 lp_X6_28 (sh_Sc0 hs) rfl ?_
    have ok5 := okI ok s 8 (v := v) (by omega) (by omega)
    refine x_iload_n (pc := 50) dX6_change_50 (List.Mem.head _) ?_
    refine z_ireturn (pc := 51) dX6_change_51 rfl (Or.inl rfl) ok5 (by omega) (by omega) ?_
    exact ⟨by rw [show 7 + w.toNat = 8 by omega], by rw [show 7 + w.toNat = 8 by omega]⟩
  rcases Int.decEq (w) (2) with hk1_2 | hk1_2
  rotate_left
  · skip
    refine z_tabIn (pc := 1) (2) (tgt := 52) dX6_change_1 hk1_2 (by omega) (by omega) (by decide) (by decide) rfl (by decide) ?_
    refine x_aload_n (pc := 52) dX6_change_52 (List.Mem.head _) ?_
    have rd6 := ok.1 s 9
    refine z_getI (pc := 53) (k := 9) (v := H.1 s 9) dX6_change_53 lf_X6_31 (sh_Sc0 hs) rfl rfl ?_
    refine x_istore_n (pc := 56) dX6_change_56 (Nat.le_of_ble_eq_true rfl) ?_
    show Ev _ _ _ _ _ [(3, .int (zN ((H.1 s 9)))), (0, .ref s), (1, .int (zN (w))), (2, .int (zN (v)))] _ _
    refine x_aload_n (pc := 57) dX6_change_57 (List.Mem.tail _ (List.Mem.head _)) ?_
    refine x_iload_n (pc := 58) dX6_change_58 (List.Mem.tail _ (List.Mem.tail _ (List.Mem.tail _ (List.Mem.head _)))) ?_
    refine z_putI (pc := 59) (k := 9) dX6_change_59 lp_X6_31 (sh_Sc0 hs) rfl ?_
    have ok7 := okI ok s 9 (v := v) (by omega) (by omega)
    refine x_iload_n (pc := 62) dX6_change_62 (List.Mem.head _) ?_
    refine z_ireturn (pc := 63) dX6_change_63 rfl (Or.inl rfl) ok7 (by omega) (by omega) ?_
    exact ⟨by rw [show 7 + w.toNat = 9 by omega], by rw [show 7 + w.toNat = 9 by omega]⟩
  refine z_tabOut (pc := 1) (tgt := 64) dX6_change_1 (by omega) (by omega) (by omega) (by decide) ?_
  refine x_aload_n (pc := 64) dX6_change_64 (List.Mem.head _) ?_
  have rd8 := ok.1 s 10
  refine z_getI (pc := 65) (k := 10) (v := H.1 s 10) dX6_change_65 lf_X6_34 (sh_Sc0 hs) rfl rfl ?_
  refine x_istore_n (pc := 68) dX6_change_68 (Nat.le_of_ble_eq_true rfl) ?_
  show Ev _ _ _ _ _ [(3, .int (zN ((H.1 s 10)))), (0, .ref s), (1, .int (zN (w))), (2, .int (zN (v)))] _ _
  refine x_aload_n (pc := 69) dX6_change_69 (List.Mem.tail _ (List.Mem.head _)) ?_
  refine x_iload_n (pc := 70) dX6_change_70 (List.Mem.tail _ (List.Mem.tail _ (List.Mem.tail _ (List.Mem.head _)))) ?_
  refine z_putI (pc := 71) (k := 10) dX6_change_71 lp_X6_34 (sh_Sc0 hs) rfl ?_
  have ok9 := okI ok s 10 (v := v) (by omega) (by omega)
  refine x_iload_n (pc := 74) dX6_change_74 (List.Mem.head _) ?_
  refine z_ireturn (pc := 75) dX6_change_75 rfl (Or.inl rfl) ok9 (by omega) (by omega) ?_
  exact ⟨by rw [show 7 + w.toNat = 10 by omega], by rw [show 7 + w.toNat = 10 by omega]⟩

theorem c_X10_set {d : Nat} {H : ZH} (ok : okZ H) {what v : Int} (what1 : -2147483648 ≤ what) (what2 : what ≤ 2147483647) (v1 : -2147483648 ≤ v) (v2 : v ≤ 2147483647) (cn : cntOK H 25) (ws : WFS (H.1 2)) (rs : RepSc H 35 (H.1 2)) : EvC zX (d + 2) mX10_set [.ref 20, .int (zN (what)), .int (zN (v))] (eh H) (zPi (fun (r : Int) (H1 : ZH) => r = (S_set (H.1 2) what v).1 ∧ H1 = if (S_set (H.1 2) what v).2 = 6 then wI (wI H 20 8 0) 35 (7 + what.toNat) v else bumpC (S_set (H.1 2) what v).2 H)) := by
  show _ ∧ Ev zX mX10_set (EvC zX (d + 1)) (zPi (fun (r : Int) (H1 : ZH) => r = (S_set (H.1 2) what v).1 ∧ H1 = if (S_set (H.1 2) what v).2 = 6 then wI (wI H 20 8 0) 35 (7 + what.toNat) v else bumpC (S_set (H.1 2) what v).2 H)) 0 [(0, .ref 20), (1, .int (zN (what))), (2, .int (zN (v)))] [] (eh H)
  refine ⟨Nat.le_of_ble_eq_true rfl, ?_⟩
  have wsx := ws
  obtain ⟨ws0, ws1, wsC, ws34, ws35, ws36, ws37, ws38, ws39⟩ := wsx
  have rsx := rs
  obtain ⟨rs0, rs1, rsC, rs34, rs35, rs36, rs37, rs38, rs39⟩ := rsx
  refine x_iload_n (pc := 0) dX10_set_0 (List.Mem.tail _ (List.Mem.head _)) ?_
  refine z_if_lt (pc := 1) (tgt := 9) dX10_set_1 (by decide) (by omega) (by omega) (fun hb1 => ?_) (fun hb1 => ?_)
  · skip
    refine x_aload_n (pc := 9) dX10_set_9 (List.Mem.head _) ?_
    refine z_bipush (pc := 10) dX10_set_10 bp_m2 ?_
    refine z_callVip (pc := 12) (i := mX10_refuse) (S := []) [.int (zN ((-2)))] dX10_set_12 ml_X10_97 ok_X10_refuse rfl sh_20 rfl (Or.inl rfl) (Nat.le_of_ble_eq_true rfl) (c_X10_refuse (d := d) (code := ((-2))) (code1 := (by omega)) (code2 := (by omega)) (ok := ok) (cn := (by first | assumption | omega))) (fun r2a r2b ok3 => ?_)
    show Ev _ _ _ _ _ _ _ (eh (wI H 25 ((refIx ((-2)))) (H.1 25 (refIx ((-2))) + 1)))
    refine z_ireturn (pc := 15) dX10_set_15 rfl (Or.inl rfl) ok3 (by omega) (by omega) ?_
    have e : S_set (H.1 2) what v = (-2, 0) := by unfold S_set; rw [if_neg (by omega)]
    rw [e]
    exact ⟨rfl, rfl⟩
  · skip
    refine x_iload_n (pc := 4) dX10_set_4 (List.Mem.tail _ (List.Mem.head _)) ?_
    refine z_iconst (pc := 5) dX10_set_5 ?_
    refine z_icmp_le (pc := 6) (tgt := 16) dX10_set_6 (by decide) (by omega) (by omega) (by decide) (by decide) (fun hb4 => ?_) (fun hb4 => ?_)
    · skip
      refine x_iload_n (pc := 16) dX10_set_16 (List.Mem.tail _ (List.Mem.tail _ (List.Mem.head _))) ?_
      refine x_iload_n (pc := 17) dX10_set_17 (List.Mem.tail _ (List.Mem.head _)) ?_
      refine z_callSip (pc := 18) (i := mX10_leastOf) (S := [.int (zN (v))]) [.int (zN (what))] dX10_set_18 ml_X10_156 ok_X10_leastOf rfl (Or.inl rfl) (Nat.le_of_ble_eq_true rfl) (c_X10_leastOf (d := d) (w := what) (w1 := (by omega)) (w2 := (by omega)) (ok := ok)) (fun r5a r5b ok6 => ?_)
      refine z_icmp_lt (pc := 21) (tgt := 32) dX10_set_21 (by decide) (by omega) (by omega) (by omega) (by omega) (fun hb7 => ?_) (fun hb7 => ?_)
      · skip
        refine x_aload_n (pc := 32) dX10_set_32 (List.Mem.head _) ?_
        refine z_bipush (pc := 33) dX10_set_33 bp_m3 ?_
        refine z_callVip (pc := 35) (i := mX10_refuse) (S := []) [.int (zN ((-3)))] dX10_set_35 ml_X10_97 ok_X10_refuse rfl sh_20 rfl (Or.inl rfl) (Nat.le_of_ble_eq_true rfl) (c_X10_refuse (d := d) (code := ((-3))) (code1 := (by omega)) (code2 := (by omega)) (ok := ok6) (cn := (by first | assumption | omega))) (fun r8a r8b ok9 => ?_)
        show Ev _ _ _ _ _ _ _ (eh (wI H 25 ((refIx ((-3)))) (H.1 25 (refIx ((-3))) + 1)))
        refine z_ireturn (pc := 38) dX10_set_38 rfl (Or.inl rfl) ok9 (by omega) (by omega) ?_
        have e : S_set (H.1 2) what v = (-3, 1) := by unfold S_set; rw [if_pos (by omega), if_neg (by omega)]
        rw [e]
        exact ⟨rfl, rfl⟩
      · skip
        refine x_iload_n (pc := 24) dX10_set_24 (List.Mem.tail _ (List.Mem.tail _ (List.Mem.head _))) ?_
        refine x_iload_n (pc := 25) dX10_set_25 (List.Mem.tail _ (List.Mem.head _)) ?_
        refine z_callSip (pc := 26) (i := mX10_mostOf) (S := [.int (zN (v))]) [.int (zN (what))] dX10_set_26 ml_X10_159 ok_X10_mostOf rfl (Or.inl rfl) (Nat.le_of_ble_eq_true rfl) (c_X10_mostOf (d := d) (w := what) (w1 := (by omega)) (w2 := (by omega)) (ok := ok6)) (fun r10a r10b ok11 => ?_)
        refine z_icmp_le (pc := 29) (tgt := 39) dX10_set_29 (by decide) (by omega) (by omega) (by omega) (by omega) (fun hb12 => ?_) (fun hb12 => ?_)
        · skip
          have okx := ok.1 35 (7 + what.toNat)
          refine x_aload_n (pc := 39) dX10_set_39 (List.Mem.head _) ?_
          refine z_iconst (pc := 40) dX10_set_40 ?_
          refine z_putZ (pc := 41) (k := 8) dX10_set_41 lp_X10_115 sh_20 rfl (by omega) ?_
          have ok13 := okI ok11 20 8 (v := 0) (by decide) (by decide)
          refine x_aload_n (pc := 44) dX10_set_44 (List.Mem.head _) ?_
          refine z_getR (pc := 45) (k := 3) (r := 98) dX10_set_45 lf_X10_23 sh_20 rfl rf_20_3 ?_
          refine z_getR (pc := 48) (k := 0) (r := 35) dX10_set_48 lf_X10_37 sh_98 rfl rf_98_0 ?_
          refine x_iload_n (pc := 51) dX10_set_51 (List.Mem.tail _ (List.Mem.head _)) ?_
          refine x_iload_n (pc := 52) dX10_set_52 (List.Mem.tail _ (List.Mem.tail _ (List.Mem.head _))) ?_
          refine z_callVip (pc := 53) (i := mX6_change) (S := []) [.int (zN (what)), .int (zN (v))] dX10_set_53 ml_X10_162 ok_X6_change rfl sh_35 rfl (Or.inl rfl) (Nat.le_of_ble_eq_true rfl) (c_X6_change (d := d) (s := 35) (hs := isSc_35) (w := what) (v := v) (w1 := (by omega)) (w2 := (by omega)) (v1 := (by omega)) (v2 := (by omega)) (w03 := (by omega)) (ok := ok13)) (fun r14a r14b ok15 => ?_)
          show Ev _ _ _ _ _ _ _ (eh (wI (wI H 20 8 (0)) 35 (7 + what.toNat) (v)))
          refine z_ireturn (pc := 56) dX10_set_56 rfl (Or.inl rfl) ok15 (by omega) (by omega) ?_
          have e : S_set (H.1 2) what v = (H.1 2 (35 + what.toNat), 6) := by unfold S_set; rw [if_pos (by omega), if_pos (by omega)]
          rw [e]
          refine ⟨?_, rfl⟩
          rw [wI1c (by omega)]
          rcases (show what = 0 ∨ what = 1 ∨ what = 2 ∨ what = 3 by omega) with q | q | q | q <;> subst q
          · exact rs35
          · exact rs36
          · exact rs37
          · exact rs38
        · skip
          refine x_aload_n (pc := 32) dX10_set_32 (List.Mem.head _) ?_
          refine z_bipush (pc := 33) dX10_set_33 bp_m3 ?_
          refine z_callVip (pc := 35) (i := mX10_refuse) (S := []) [.int (zN ((-3)))] dX10_set_35 ml_X10_97 ok_X10_refuse rfl sh_20 rfl (Or.inl rfl) (Nat.le_of_ble_eq_true rfl) (c_X10_refuse (d := d) (code := ((-3))) (code1 := (by omega)) (code2 := (by omega)) (ok := ok11) (cn := (by first | assumption | omega))) (fun r16a r16b ok17 => ?_)
          show Ev _ _ _ _ _ _ _ (eh (wI H 25 ((refIx ((-3)))) (H.1 25 (refIx ((-3))) + 1)))
          refine z_ireturn (pc := 38) dX10_set_38 rfl (Or.inl rfl) ok17 (by omega) (by omega) ?_
          have e : S_set (H.1 2) what v = (-3, 1) := by unfold S_set; rw [if_pos (by omega), if_neg (by omega)]
          rw [e]
          exact ⟨rfl, rfl⟩
    · skip
      refine x_aload_n (pc := 9) dX10_set_9 (List.Mem.head _) ?_
      refine z_bipush (pc := 10) dX10_set_10 bp_m2 ?_
      refine z_callVip (pc := 12) (i := mX10_refuse) (S := []) [.int (zN ((-2)))] dX10_set_12 ml_X10_97 ok_X10_refuse rfl sh_20 rfl (Or.inl rfl) (Nat.le_of_ble_eq_true rfl) (c_X10_refuse (d := d) (code := ((-2))) (code1 := (by omega)) (code2 := (by omega)) (ok := ok) (cn := (by first | assumption | omega))) (fun r18a r18b ok19 => ?_)
      show Ev _ _ _ _ _ _ _ (eh (wI H 25 ((refIx ((-2)))) (H.1 25 (refIx ((-2))) + 1)))
      refine z_ireturn (pc := 15) dX10_set_15 rfl (Or.inl rfl) ok19 (by omega) (by omega) ?_
      have e : S_set (H.1 2) what v = (-2, 0) := by unfold S_set; rw [if_neg (by omega)]
      rw [e]
      exact ⟨rfl, rfl⟩

theorem c_X11_set {d : Nat} {H : ZH} (ok : okZ H) {what v : Int} (what1 : -2147483648 ≤ what) (what2 : what ≤ 2147483647) (v1 : -2147483648 ≤ v) (v2 : v ≤ 2147483647) (cm : cntOK H 1) (th : H.1 0 0 = 0) : EvC zX (d + 2) mX11_set [.ref 0, .int (zN (what)), .int (zN (v))] (eh H) (zPi (fun (r : Int) (H1 : ZH) => r = (S_set (H.1 2) what v).1 ∧ H1 = if (S_set (H.1 2) what v).2 = 6 then wI H 2 (35 + what.toNat) v else bumpM (S_set (H.1 2) what v).2 H)) := by
  show _ ∧ Ev zX mX11_set (EvC zX (d + 1)) (zPi (fun (r : Int) (H1 : ZH) => r = (S_set (H.1 2) what v).1 ∧ H1 = if (S_set (H.1 2) what v).2 = 6 then wI H 2 (35 + what.toNat) v else bumpM (S_set (H.1 2) what v).2 H)) 0 [(0, .ref 0), (1, .int (zN (what))), (2, .int (zN (v)))] [] (eh H)
  refine ⟨Nat.le_of_ble_eq_true rfl, ?_⟩
  refine x_aload_n (pc := 0) dX11_set_0 (List.Mem.head _) ?_
  refine z_iconst (pc := 1) dX11_set_1 ?_
  refine z_putI (pc := 2) (k := 0) dX11_set_2 lp_X11_1 sh_0 rfl ?_
  have ok1 := okI ok 0 0 (v := 0) (by decide) (by decide)
  rw [wI_same th]
  refine x_iload_n (pc := 5) dX11_set_5 (List.Mem.tail _ (List.Mem.head _)) ?_
  refine z_i2l (pc := 6) dX11_set_6 (by omega) (by omega) ?_
  refine z_lconst (pc := 7) 0 dX11_set_7 rfl ?_
  refine z_ldc2_w (pc := 8) 3 dX11_set_8 cl_X11_213 (by decide) ?_
  refine z_callSbp (pc := 11) (i := mX11_within) (S := []) [.long (zL (what)), .long (zL (0)), .long (zL (3))] dX11_set_11 ml_X11_152 ok_X11_within rfl (Or.inr rfl) (Nat.le_of_ble_eq_true rfl) (c_X11_within (d := d) (v := what) (lo := 0) (hi := 3) (v1 := (by omega)) (v2 := (by omega)) (lo1 := (by omega)) (lo2 := (by omega)) (hi1 := (by omega)) (hi2 := (by omega)) (ok := ok)) (fun hc4 ok3 => ?_) (fun hc4 ok3 => ?_)
  · skip
    refine z_if_ne (pc := 14) (tgt := 24) dX11_set_14 (by decide) (by decide) (by decide) (fun _ => ?_) (fun h => absurd h (by decide))
    refine x_iload_n (pc := 24) dX11_set_24 (List.Mem.tail _ (List.Mem.tail _ (List.Mem.head _))) ?_
    refine z_i2l (pc := 25) dX11_set_25 (by omega) (by omega) ?_
    refine x_iload_n (pc := 26) dX11_set_26 (List.Mem.tail _ (List.Mem.head _)) ?_
    refine z_iconst (pc := 27) dX11_set_27 ?_
    refine z_icmp_ne (pc := 28) (tgt := 35) dX11_set_28 (by decide) (by omega) (by omega) (by decide) (by decide) (fun hb6 => ?_) (fun hb6 => ?_)
    · skip
      refine z_lconst (pc := 35) 0 dX11_set_35 rfl ?_
      refine x_iload_n (pc := 36) dX11_set_36 (List.Mem.tail _ (List.Mem.head _)) ?_
      refine z_if_ne (pc := 37) (tgt := 46) dX11_set_37 (by decide) (by omega) (by omega) (fun hb7 => ?_) (fun hb7 => ?_)
      · skip
        refine x_iload_n (pc := 46) dX11_set_46 (List.Mem.tail _ (List.Mem.head _)) ?_
        refine z_iconst (pc := 47) dX11_set_47 ?_
        refine z_icmp_ne (pc := 48) (tgt := 57) dX11_set_48 (by decide) (by omega) (by omega) (by decide) (by decide) (fun hb8 => ?_) (fun hb8 => ?_)
        · skip
          refine x_iload_n (pc := 57) dX11_set_57 (List.Mem.tail _ (List.Mem.head _)) ?_
          refine z_iconst (pc := 58) dX11_set_58 ?_
          refine z_icmp_ne (pc := 59) (tgt := 68) dX11_set_59 (by decide) (by omega) (by omega) (by decide) (by decide) (fun hb9 => ?_) (fun hb9 => ?_)
          · skip
            refine z_ldc2_w (pc := 68) 200 dX11_set_68 cl_X11_223 (by decide) ?_
            refine z_callSbp (pc := 71) (i := mX11_within) (S := []) [.long (zL (v)), .long (zL (0)), .long (zL (200))] dX11_set_71 ml_X11_152 ok_X11_within rfl (Or.inr rfl) (Nat.le_of_ble_eq_true rfl) (c_X11_within (d := d) (v := v) (lo := 0) (hi := 200) (v1 := (by omega)) (v2 := (by omega)) (lo1 := (by omega)) (lo2 := (by omega)) (hi1 := (by omega)) (hi2 := (by omega)) (ok := ok3)) (fun hc12 ok11 => ?_) (fun hc12 ok11 => ?_)
            · skip
              refine z_if_ne (pc := 74) (tgt := 84) dX11_set_74 (by decide) (by decide) (by decide) (fun _ => ?_) (fun h => absurd h (by decide))
              refine x_aload_n (pc := 84) dX11_set_84 (List.Mem.head _) ?_
              refine z_getR (pc := 85) (k := 2) (r := 2) dX11_set_85 lf_X11_17 sh_0 rfl rf_0_2 ?_
              refine z_bipush (pc := 88) dX11_set_88 bp_35 ?_
              refine x_iload_n (pc := 90) dX11_set_90 (List.Mem.tail _ (List.Mem.head _)) ?_
              refine z_iadd (pc := 91) dX11_set_91 ?_
              have rd14 := ok11.1 2 (35 + what.toNat)
              refine z_iald (pc := 92) (j := 35 + what.toNat) (v := H.1 2 (35 + what.toNat)) dX11_set_92 sh_2 (by omega) (by omega) (by decide) rfl ?_
              refine x_istore_n (pc := 93) dX11_set_93 (Nat.le_of_ble_eq_true rfl) ?_
              show Ev _ _ _ _ _ [(3, .int (zN ((H.1 2 (35 + what.toNat))))), (0, .ref 0), (1, .int (zN (what))), (2, .int (zN (v)))] _ _
              refine x_aload_n (pc := 94) dX11_set_94 (List.Mem.tail _ (List.Mem.head _)) ?_
              refine z_getR (pc := 95) (k := 2) (r := 2) dX11_set_95 lf_X11_17 sh_0 rfl rf_0_2 ?_
              refine z_bipush (pc := 98) dX11_set_98 bp_35 ?_
              refine x_iload_n (pc := 100) dX11_set_100 (List.Mem.tail _ (List.Mem.tail _ (List.Mem.head _))) ?_
              refine z_iadd (pc := 101) dX11_set_101 ?_
              refine x_iload_n (pc := 102) dX11_set_102 (List.Mem.tail _ (List.Mem.tail _ (List.Mem.tail _ (List.Mem.head _)))) ?_
              refine z_iast (pc := 103) (j := 35 + what.toNat) (v := v) dX11_set_103 sh_2 (by omega) (by omega) (by decide) ?_
              have ok15 := okI ok11 2 (35 + what.toNat) (v := v) (by omega) (by omega)
              refine x_iload_n (pc := 104) dX11_set_104 (List.Mem.head _) ?_
              refine z_ireturn (pc := 105) dX11_set_105 rfl (Or.inl rfl) ok15 (by omega) (by omega) ?_
              have e : S_set (H.1 2) what v = (H.1 2 (35 + what.toNat), 6) := by unfold S_set; rw [if_pos (by omega)]; exact if_pos (by (repeat' split) <;> omega)
              rw [e]
              exact ⟨rfl, rfl⟩
            · skip
              refine z_if_ne (pc := 74) (tgt := 84) dX11_set_74 (by decide) (by decide) (by decide) (fun h => absurd h (by decide)) (fun _ => ?_)
              refine x_aload_n (pc := 77) dX11_set_77 (List.Mem.head _) ?_
              refine z_bipush (pc := 78) dX11_set_78 bp_m3 ?_
              refine z_callVip (pc := 80) (i := mX11_no) (S := []) [.int (zN ((-3)))] dX11_set_80 ml_X11_89 ok_X11_no rfl sh_0 rfl (Or.inl rfl) (Nat.le_of_ble_eq_true rfl) (c_X11_no (d := d) (code := ((-3))) (code1 := (by omega)) (code2 := (by omega)) (ok := ok11) (cn := (by first | assumption | omega))) (fun r17a r17b ok18 => ?_)
              show Ev _ _ _ _ _ _ _ (eh (wI H 1 ((refIx ((-3)))) (H.1 1 (refIx ((-3))) + 1)))
              refine z_ireturn (pc := 83) dX11_set_83 rfl (Or.inl rfl) ok18 (by omega) (by omega) ?_
              have e : S_set (H.1 2) what v = (-3, 1) := by unfold S_set; rw [if_pos (by omega)]; exact if_neg (by (repeat' split) <;> omega)
              rw [e]
              exact ⟨rfl, rfl⟩
          · skip
            refine z_ldc2_w (pc := 62) 60 dX11_set_62 cl_X11_221 (by decide) ?_
            refine x_goto (pc := 65) (tgt := 71) dX11_set_65 (by decide) ?_
            refine z_callSbp (pc := 71) (i := mX11_within) (S := []) [.long (zL (v)), .long (zL (0)), .long (zL (60))] dX11_set_71 ml_X11_152 ok_X11_within rfl (Or.inr rfl) (Nat.le_of_ble_eq_true rfl) (c_X11_within (d := d) (v := v) (lo := 0) (hi := 60) (v1 := (by omega)) (v2 := (by omega)) (lo1 := (by omega)) (lo2 := (by omega)) (hi1 := (by omega)) (hi2 := (by omega)) (ok := ok3)) (fun hc21 ok20 => ?_) (fun hc21 ok20 => ?_)
            · skip
              refine z_if_ne (pc := 74) (tgt := 84) dX11_set_74 (by decide) (by decide) (by decide) (fun _ => ?_) (fun h => absurd h (by decide))
              refine x_aload_n (pc := 84) dX11_set_84 (List.Mem.head _) ?_
              refine z_getR (pc := 85) (k := 2) (r := 2) dX11_set_85 lf_X11_17 sh_0 rfl rf_0_2 ?_
              refine z_bipush (pc := 88) dX11_set_88 bp_35 ?_
              refine x_iload_n (pc := 90) dX11_set_90 (List.Mem.tail _ (List.Mem.head _)) ?_
              refine z_iadd (pc := 91) dX11_set_91 ?_
              have rd23 := ok20.1 2 (35 + what.toNat)
              refine z_iald (pc := 92) (j := 35 + what.toNat) (v := H.1 2 (35 + what.toNat)) dX11_set_92 sh_2 (by omega) (by omega) (by decide) rfl ?_
              refine x_istore_n (pc := 93) dX11_set_93 (Nat.le_of_ble_eq_true rfl) ?_
              show Ev _ _ _ _ _ [(3, .int (zN ((H.1 2 (35 + what.toNat))))), (0, .ref 0), (1, .int (zN (what))), (2, .int (zN (v)))] _ _
              refine x_aload_n (pc := 94) dX11_set_94 (List.Mem.tail _ (List.Mem.head _)) ?_
              refine z_getR (pc := 95) (k := 2) (r := 2) dX11_set_95 lf_X11_17 sh_0 rfl rf_0_2 ?_
              refine z_bipush (pc := 98) dX11_set_98 bp_35 ?_
              refine x_iload_n (pc := 100) dX11_set_100 (List.Mem.tail _ (List.Mem.tail _ (List.Mem.head _))) ?_
              refine z_iadd (pc := 101) dX11_set_101 ?_
              refine x_iload_n (pc := 102) dX11_set_102 (List.Mem.tail _ (List.Mem.tail _ (List.Mem.tail _ (List.Mem.head _)))) ?_
              refine z_iast (pc := 103) (j := 35 + what.toNat) (v := v) dX11_set_103 sh_2 (by omega) (by omega) (by decide) ?_
              have ok24 := okI ok20 2 (35 + what.toNat) (v := v) (by omega) (by omega)
              refine x_iload_n (pc := 104) dX11_set_104 (List.Mem.head _) ?_
              refine z_ireturn (pc := 105) dX11_set_105 rfl (Or.inl rfl) ok24 (by omega) (by omega) ?_
              have e : S_set (H.1 2) what v = (H.1 2 (35 + what.toNat), 6) := by unfold S_set; rw [if_pos (by omega)]; exact if_pos (by (repeat' split) <;> omega)
              rw [e]
              exact ⟨rfl, rfl⟩
            · skip
              refine z_if_ne (pc := 74) (tgt := 84) dX11_set_74 (by decide) (by decide) (by decide) (fun h => absurd h (by decide)) (fun _ => ?_)
              refine x_aload_n (pc := 77) dX11_set_77 (List.Mem.head _) ?_
              refine z_bipush (pc := 78) dX11_set_78 bp_m3 ?_
              refine z_callVip (pc := 80) (i := mX11_no) (S := []) [.int (zN ((-3)))] dX11_set_80 ml_X11_89 ok_X11_no rfl sh_0 rfl (Or.inl rfl) (Nat.le_of_ble_eq_true rfl) (c_X11_no (d := d) (code := ((-3))) (code1 := (by omega)) (code2 := (by omega)) (ok := ok20) (cn := (by first | assumption | omega))) (fun r26a r26b ok27 => ?_)
              show Ev _ _ _ _ _ _ _ (eh (wI H 1 ((refIx ((-3)))) (H.1 1 (refIx ((-3))) + 1)))
              refine z_ireturn (pc := 83) dX11_set_83 rfl (Or.inl rfl) ok27 (by omega) (by omega) ?_
              have e : S_set (H.1 2) what v = (-3, 1) := by unfold S_set; rw [if_pos (by omega)]; exact if_neg (by (repeat' split) <;> omega)
              rw [e]
              exact ⟨rfl, rfl⟩
        · skip
          refine z_ldc2_w (pc := 51) 20 dX11_set_51 cl_X11_219 (by decide) ?_
          refine x_goto (pc := 54) (tgt := 71) dX11_set_54 (by decide) ?_
          refine z_callSbp (pc := 71) (i := mX11_within) (S := []) [.long (zL (v)), .long (zL (0)), .long (zL (20))] dX11_set_71 ml_X11_152 ok_X11_within rfl (Or.inr rfl) (Nat.le_of_ble_eq_true rfl) (c_X11_within (d := d) (v := v) (lo := 0) (hi := 20) (v1 := (by omega)) (v2 := (by omega)) (lo1 := (by omega)) (lo2 := (by omega)) (hi1 := (by omega)) (hi2 := (by omega)) (ok := ok3)) (fun hc30 ok29 => ?_) (fun hc30 ok29 => ?_)
          · skip
            refine z_if_ne (pc := 74) (tgt := 84) dX11_set_74 (by decide) (by decide) (by decide) (fun _ => ?_) (fun h => absurd h (by decide))
            refine x_aload_n (pc := 84) dX11_set_84 (List.Mem.head _) ?_
            refine z_getR (pc := 85) (k := 2) (r := 2) dX11_set_85 lf_X11_17 sh_0 rfl rf_0_2 ?_
            refine z_bipush (pc := 88) dX11_set_88 bp_35 ?_
            refine x_iload_n (pc := 90) dX11_set_90 (List.Mem.tail _ (List.Mem.head _)) ?_
            refine z_iadd (pc := 91) dX11_set_91 ?_
            have rd32 := ok29.1 2 (35 + what.toNat)
            refine z_iald (pc := 92) (j := 35 + what.toNat) (v := H.1 2 (35 + what.toNat)) dX11_set_92 sh_2 (by omega) (by omega) (by decide) rfl ?_
            refine x_istore_n (pc := 93) dX11_set_93 (Nat.le_of_ble_eq_true rfl) ?_
            show Ev _ _ _ _ _ [(3, .int (zN ((H.1 2 (35 + what.toNat))))), (0, .ref 0), (1, .int (zN (what))), (2, .int (zN (v)))] _ _
            refine x_aload_n (pc := 94) dX11_set_94 (List.Mem.tail _ (List.Mem.head _)) ?_
            refine z_getR (pc := 95) (k := 2) (r := 2) dX11_set_95 lf_X11_17 sh_0 rfl rf_0_2 ?_
            refine z_bipush (pc := 98) dX11_set_98 bp_35 ?_
            refine x_iload_n (pc := 100) dX11_set_100 (List.Mem.tail _ (List.Mem.tail _ (List.Mem.head _))) ?_
            refine z_iadd (pc := 101) dX11_set_101 ?_
            refine x_iload_n (pc := 102) dX11_set_102 (List.Mem.tail _ (List.Mem.tail _ (List.Mem.tail _ (List.Mem.head _)))) ?_
            refine z_iast (pc := 103) (j := 35 + what.toNat) (v := v) dX11_set_103 sh_2 (by omega) (by omega) (by decide) ?_
            have ok33 := okI ok29 2 (35 + what.toNat) (v := v) (by omega) (by omega)
            refine x_iload_n (pc := 104) dX11_set_104 (List.Mem.head _) ?_
            refine z_ireturn (pc := 105) dX11_set_105 rfl (Or.inl rfl) ok33 (by omega) (by omega) ?_
            have e : S_set (H.1 2) what v = (H.1 2 (35 + what.toNat), 6) := by unfold S_set; rw [if_pos (by omega)]; exact if_pos (by (repeat' split) <;> omega)
            rw [e]
            exact ⟨rfl, rfl⟩
          · skip
            refine z_if_ne (pc := 74) (tgt := 84) dX11_set_74 (by decide) (by decide) (by decide) (fun h => absurd h (by decide)) (fun _ => ?_)
            refine x_aload_n (pc := 77) dX11_set_77 (List.Mem.head _) ?_
            refine z_bipush (pc := 78) dX11_set_78 bp_m3 ?_
            refine z_callVip (pc := 80) (i := mX11_no) (S := []) [.int (zN ((-3)))] dX11_set_80 ml_X11_89 ok_X11_no rfl sh_0 rfl (Or.inl rfl) (Nat.le_of_ble_eq_true rfl) (c_X11_no (d := d) (code := ((-3))) (code1 := (by omega)) (code2 := (by omega)) (ok := ok29) (cn := (by first | assumption | omega))) (fun r35a r35b ok36 => ?_)
            show Ev _ _ _ _ _ _ _ (eh (wI H 1 ((refIx ((-3)))) (H.1 1 (refIx ((-3))) + 1)))
            refine z_ireturn (pc := 83) dX11_set_83 rfl (Or.inl rfl) ok36 (by omega) (by omega) ?_
            have e : S_set (H.1 2) what v = (-3, 1) := by unfold S_set; rw [if_pos (by omega)]; exact if_neg (by (repeat' split) <;> omega)
            rw [e]
            exact ⟨rfl, rfl⟩
      · skip
        refine z_ldc2_w (pc := 40) 30 dX11_set_40 cl_X11_217 (by decide) ?_
        refine x_goto (pc := 43) (tgt := 71) dX11_set_43 (by decide) ?_
        refine z_callSbp (pc := 71) (i := mX11_within) (S := []) [.long (zL (v)), .long (zL (0)), .long (zL (30))] dX11_set_71 ml_X11_152 ok_X11_within rfl (Or.inr rfl) (Nat.le_of_ble_eq_true rfl) (c_X11_within (d := d) (v := v) (lo := 0) (hi := 30) (v1 := (by omega)) (v2 := (by omega)) (lo1 := (by omega)) (lo2 := (by omega)) (hi1 := (by omega)) (hi2 := (by omega)) (ok := ok3)) (fun hc39 ok38 => ?_) (fun hc39 ok38 => ?_)
        · skip
          refine z_if_ne (pc := 74) (tgt := 84) dX11_set_74 (by decide) (by decide) (by decide) (fun _ => ?_) (fun h => absurd h (by decide))
          refine x_aload_n (pc := 84) dX11_set_84 (List.Mem.head _) ?_
          refine z_getR (pc := 85) (k := 2) (r := 2) dX11_set_85 lf_X11_17 sh_0 rfl rf_0_2 ?_
          refine z_bipush (pc := 88) dX11_set_88 bp_35 ?_
          refine x_iload_n (pc := 90) dX11_set_90 (List.Mem.tail _ (List.Mem.head _)) ?_
          refine z_iadd (pc := 91) dX11_set_91 ?_
          have rd41 := ok38.1 2 (35 + what.toNat)
          refine z_iald (pc := 92) (j := 35 + what.toNat) (v := H.1 2 (35 + what.toNat)) dX11_set_92 sh_2 (by omega) (by omega) (by decide) rfl ?_
          refine x_istore_n (pc := 93) dX11_set_93 (Nat.le_of_ble_eq_true rfl) ?_
          show Ev _ _ _ _ _ [(3, .int (zN ((H.1 2 (35 + what.toNat))))), (0, .ref 0), (1, .int (zN (what))), (2, .int (zN (v)))] _ _
          refine x_aload_n (pc := 94) dX11_set_94 (List.Mem.tail _ (List.Mem.head _)) ?_
          refine z_getR (pc := 95) (k := 2) (r := 2) dX11_set_95 lf_X11_17 sh_0 rfl rf_0_2 ?_
          refine z_bipush (pc := 98) dX11_set_98 bp_35 ?_
          refine x_iload_n (pc := 100) dX11_set_100 (List.Mem.tail _ (List.Mem.tail _ (List.Mem.head _))) ?_
          refine z_iadd (pc := 101) dX11_set_101 ?_
          refine x_iload_n (pc := 102) dX11_set_102 (List.Mem.tail _ (List.Mem.tail _ (List.Mem.tail _ (List.Mem.head _)))) ?_
          refine z_iast (pc := 103) (j := 35 + what.toNat) (v := v) dX11_set_103 sh_2 (by omega) (by omega) (by decide) ?_
          have ok42 := okI ok38 2 (35 + what.toNat) (v := v) (by omega) (by omega)
          refine x_iload_n (pc := 104) dX11_set_104 (List.Mem.head _) ?_
          refine z_ireturn (pc := 105) dX11_set_105 rfl (Or.inl rfl) ok42 (by omega) (by omega) ?_
          have e : S_set (H.1 2) what v = (H.1 2 (35 + what.toNat), 6) := by unfold S_set; rw [if_pos (by omega)]; exact if_pos (by (repeat' split) <;> omega)
          rw [e]
          exact ⟨rfl, rfl⟩
        · skip
          refine z_if_ne (pc := 74) (tgt := 84) dX11_set_74 (by decide) (by decide) (by decide) (fun h => absurd h (by decide)) (fun _ => ?_)
          refine x_aload_n (pc := 77) dX11_set_77 (List.Mem.head _) ?_
          refine z_bipush (pc := 78) dX11_set_78 bp_m3 ?_
          refine z_callVip (pc := 80) (i := mX11_no) (S := []) [.int (zN ((-3)))] dX11_set_80 ml_X11_89 ok_X11_no rfl sh_0 rfl (Or.inl rfl) (Nat.le_of_ble_eq_true rfl) (c_X11_no (d := d) (code := ((-3))) (code1 := (by omega)) (code2 := (by omega)) (ok := ok38) (cn := (by first | assumption | omega))) (fun r44a r44b ok45 => ?_)
          show Ev _ _ _ _ _ _ _ (eh (wI H 1 ((refIx ((-3)))) (H.1 1 (refIx ((-3))) + 1)))
          refine z_ireturn (pc := 83) dX11_set_83 rfl (Or.inl rfl) ok45 (by omega) (by omega) ?_
          have e : S_set (H.1 2) what v = (-3, 1) := by unfold S_set; rw [if_pos (by omega)]; exact if_neg (by (repeat' split) <;> omega)
          rw [e]
          exact ⟨rfl, rfl⟩
    · skip
      refine z_lconst (pc := 31) 1 dX11_set_31 rfl ?_
      refine x_goto (pc := 32) (tgt := 36) dX11_set_32 (by decide) ?_
      refine x_iload_n (pc := 36) dX11_set_36 (List.Mem.tail _ (List.Mem.head _)) ?_
      refine z_if_ne (pc := 37) (tgt := 46) dX11_set_37 (by decide) (by omega) (by omega) (fun hb46 => ?_) (fun hb46 => ?_)
      · skip
        refine x_iload_n (pc := 46) dX11_set_46 (List.Mem.tail _ (List.Mem.head _)) ?_
        refine z_iconst (pc := 47) dX11_set_47 ?_
        refine z_icmp_ne (pc := 48) (tgt := 57) dX11_set_48 (by decide) (by omega) (by omega) (by decide) (by decide) (fun hb47 => ?_) (fun hb47 => ?_)
        · skip
          refine x_iload_n (pc := 57) dX11_set_57 (List.Mem.tail _ (List.Mem.head _)) ?_
          refine z_iconst (pc := 58) dX11_set_58 ?_
          refine z_icmp_ne (pc := 59) (tgt := 68) dX11_set_59 (by decide) (by omega) (by omega) (by decide) (by decide) (fun hb48 => ?_) (fun hb48 => ?_)
          · skip
            refine z_ldc2_w (pc := 68) 200 dX11_set_68 cl_X11_223 (by decide) ?_
            refine z_callSbp (pc := 71) (i := mX11_within) (S := []) [.long (zL (v)), .long (zL (1)), .long (zL (200))] dX11_set_71 ml_X11_152 ok_X11_within rfl (Or.inr rfl) (Nat.le_of_ble_eq_true rfl) (c_X11_within (d := d) (v := v) (lo := 1) (hi := 200) (v1 := (by omega)) (v2 := (by omega)) (lo1 := (by omega)) (lo2 := (by omega)) (hi1 := (by omega)) (hi2 := (by omega)) (ok := ok3)) (fun hc51 ok50 => ?_) (fun hc51 ok50 => ?_)
            · skip
              refine z_if_ne (pc := 74) (tgt := 84) dX11_set_74 (by decide) (by decide) (by decide) (fun _ => ?_) (fun h => absurd h (by decide))
              refine x_aload_n (pc := 84) dX11_set_84 (List.Mem.head _) ?_
              refine z_getR (pc := 85) (k := 2) (r := 2) dX11_set_85 lf_X11_17 sh_0 rfl rf_0_2 ?_
              refine z_bipush (pc := 88) dX11_set_88 bp_35 ?_
              refine x_iload_n (pc := 90) dX11_set_90 (List.Mem.tail _ (List.Mem.head _)) ?_
              refine z_iadd (pc := 91) dX11_set_91 ?_
              have rd53 := ok50.1 2 (35 + what.toNat)
              refine z_iald (pc := 92) (j := 35 + what.toNat) (v := H.1 2 (35 + what.toNat)) dX11_set_92 sh_2 (by omega) (by omega) (by decide) rfl ?_
              refine x_istore_n (pc := 93) dX11_set_93 (Nat.le_of_ble_eq_true rfl) ?_
              show Ev _ _ _ _ _ [(3, .int (zN ((H.1 2 (35 + what.toNat))))), (0, .ref 0), (1, .int (zN (what))), (2, .int (zN (v)))] _ _
              refine x_aload_n (pc := 94) dX11_set_94 (List.Mem.tail _ (List.Mem.head _)) ?_
              refine z_getR (pc := 95) (k := 2) (r := 2) dX11_set_95 lf_X11_17 sh_0 rfl rf_0_2 ?_
              refine z_bipush (pc := 98) dX11_set_98 bp_35 ?_
              refine x_iload_n (pc := 100) dX11_set_100 (List.Mem.tail _ (List.Mem.tail _ (List.Mem.head _))) ?_
              refine z_iadd (pc := 101) dX11_set_101 ?_
              refine x_iload_n (pc := 102) dX11_set_102 (List.Mem.tail _ (List.Mem.tail _ (List.Mem.tail _ (List.Mem.head _)))) ?_
              refine z_iast (pc := 103) (j := 35 + what.toNat) (v := v) dX11_set_103 sh_2 (by omega) (by omega) (by decide) ?_
              have ok54 := okI ok50 2 (35 + what.toNat) (v := v) (by omega) (by omega)
              refine x_iload_n (pc := 104) dX11_set_104 (List.Mem.head _) ?_
              refine z_ireturn (pc := 105) dX11_set_105 rfl (Or.inl rfl) ok54 (by omega) (by omega) ?_
              have e : S_set (H.1 2) what v = (H.1 2 (35 + what.toNat), 6) := by unfold S_set; rw [if_pos (by omega)]; exact if_pos (by (repeat' split) <;> omega)
              rw [e]
              exact ⟨rfl, rfl⟩
            · skip
              refine z_if_ne (pc := 74) (tgt := 84) dX11_set_74 (by decide) (by decide) (by decide) (fun h => absurd h (by decide)) (fun _ => ?_)
              refine x_aload_n (pc := 77) dX11_set_77 (List.Mem.head _) ?_
              refine z_bipush (pc := 78) dX11_set_78 bp_m3 ?_
              refine z_callVip (pc := 80) (i := mX11_no) (S := []) [.int (zN ((-3)))] dX11_set_80 ml_X11_89 ok_X11_no rfl sh_0 rfl (Or.inl rfl) (Nat.le_of_ble_eq_true rfl) (c_X11_no (d := d) (code := ((-3))) (code1 := (by omega)) (code2 := (by omega)) (ok := ok50) (cn := (by first | assumption | omega))) (fun r56a r56b ok57 => ?_)
              show Ev _ _ _ _ _ _ _ (eh (wI H 1 ((refIx ((-3)))) (H.1 1 (refIx ((-3))) + 1)))
              refine z_ireturn (pc := 83) dX11_set_83 rfl (Or.inl rfl) ok57 (by omega) (by omega) ?_
              have e : S_set (H.1 2) what v = (-3, 1) := by unfold S_set; rw [if_pos (by omega)]; exact if_neg (by (repeat' split) <;> omega)
              rw [e]
              exact ⟨rfl, rfl⟩
          · skip
            refine z_ldc2_w (pc := 62) 60 dX11_set_62 cl_X11_221 (by decide) ?_
            refine x_goto (pc := 65) (tgt := 71) dX11_set_65 (by decide) ?_
            refine z_callSbp (pc := 71) (i := mX11_within) (S := []) [.long (zL (v)), .long (zL (1)), .long (zL (60))] dX11_set_71 ml_X11_152 ok_X11_within rfl (Or.inr rfl) (Nat.le_of_ble_eq_true rfl) (c_X11_within (d := d) (v := v) (lo := 1) (hi := 60) (v1 := (by omega)) (v2 := (by omega)) (lo1 := (by omega)) (lo2 := (by omega)) (hi1 := (by omega)) (hi2 := (by omega)) (ok := ok3)) (fun hc60 ok59 => ?_) (fun hc60 ok59 => ?_)
            · skip
              refine z_if_ne (pc := 74) (tgt := 84) dX11_set_74 (by decide) (by decide) (by decide) (fun _ => ?_) (fun h => absurd h (by decide))
              refine x_aload_n (pc := 84) dX11_set_84 (List.Mem.head _) ?_
              refine z_getR (pc := 85) (k := 2) (r := 2) dX11_set_85 lf_X11_17 sh_0 rfl rf_0_2 ?_
              refine z_bipush (pc := 88) dX11_set_88 bp_35 ?_
              refine x_iload_n (pc := 90) dX11_set_90 (List.Mem.tail _ (List.Mem.head _)) ?_
              refine z_iadd (pc := 91) dX11_set_91 ?_
              have rd62 := ok59.1 2 (35 + what.toNat)
              refine z_iald (pc := 92) (j := 35 + what.toNat) (v := H.1 2 (35 + what.toNat)) dX11_set_92 sh_2 (by omega) (by omega) (by decide) rfl ?_
              refine x_istore_n (pc := 93) dX11_set_93 (Nat.le_of_ble_eq_true rfl) ?_
              show Ev _ _ _ _ _ [(3, .int (zN ((H.1 2 (35 + what.toNat))))), (0, .ref 0), (1, .int (zN (what))), (2, .int (zN (v)))] _ _
              refine x_aload_n (pc := 94) dX11_set_94 (List.Mem.tail _ (List.Mem.head _)) ?_
              refine z_getR (pc := 95) (k := 2) (r := 2) dX11_set_95 lf_X11_17 sh_0 rfl rf_0_2 ?_
              refine z_bipush (pc := 98) dX11_set_98 bp_35 ?_
              refine x_iload_n (pc := 100) dX11_set_100 (List.Mem.tail _ (List.Mem.tail _ (List.Mem.head _))) ?_
              refine z_iadd (pc := 101) dX11_set_101 ?_
              refine x_iload_n (pc := 102) dX11_set_102 (List.Mem.tail _ (List.Mem.tail _ (List.Mem.tail _ (List.Mem.head _)))) ?_
              refine z_iast (pc := 103) (j := 35 + what.toNat) (v := v) dX11_set_103 sh_2 (by omega) (by omega) (by decide) ?_
              have ok63 := okI ok59 2 (35 + what.toNat) (v := v) (by omega) (by omega)
              refine x_iload_n (pc := 104) dX11_set_104 (List.Mem.head _) ?_
              refine z_ireturn (pc := 105) dX11_set_105 rfl (Or.inl rfl) ok63 (by omega) (by omega) ?_
              have e : S_set (H.1 2) what v = (H.1 2 (35 + what.toNat), 6) := by unfold S_set; rw [if_pos (by omega)]; exact if_pos (by (repeat' split) <;> omega)
              rw [e]
              exact ⟨rfl, rfl⟩
            · skip
              refine z_if_ne (pc := 74) (tgt := 84) dX11_set_74 (by decide) (by decide) (by decide) (fun h => absurd h (by decide)) (fun _ => ?_)
              refine x_aload_n (pc := 77) dX11_set_77 (List.Mem.head _) ?_
              refine z_bipush (pc := 78) dX11_set_78 bp_m3 ?_
              refine z_callVip (pc := 80) (i := mX11_no) (S := []) [.int (zN ((-3)))] dX11_set_80 ml_X11_89 ok_X11_no rfl sh_0 rfl (Or.inl rfl) (Nat.le_of_ble_eq_true rfl) (c_X11_no (d := d) (code := ((-3))) (code1 := (by omega)) (code2 := (by omega)) (ok := ok59) (cn := (by first | assumption | omega))) (fun r65a r65b ok66 => ?_)
              show Ev _ _ _ _ _ _ _ (eh (wI H 1 ((refIx ((-3)))) (H.1 1 (refIx ((-3))) + 1)))
              refine z_ireturn (pc := 83) dX11_set_83 rfl (Or.inl rfl) ok66 (by omega) (by omega) ?_
              have e : S_set (H.1 2) what v = (-3, 1) := by unfold S_set; rw [if_pos (by omega)]; exact if_neg (by (repeat' split) <;> omega)
              rw [e]
              exact ⟨rfl, rfl⟩
        · skip
          refine z_ldc2_w (pc := 51) 20 dX11_set_51 cl_X11_219 (by decide) ?_
          refine x_goto (pc := 54) (tgt := 71) dX11_set_54 (by decide) ?_
          refine z_callSbp (pc := 71) (i := mX11_within) (S := []) [.long (zL (v)), .long (zL (1)), .long (zL (20))] dX11_set_71 ml_X11_152 ok_X11_within rfl (Or.inr rfl) (Nat.le_of_ble_eq_true rfl) (c_X11_within (d := d) (v := v) (lo := 1) (hi := 20) (v1 := (by omega)) (v2 := (by omega)) (lo1 := (by omega)) (lo2 := (by omega)) (hi1 := (by omega)) (hi2 := (by omega)) (ok := ok3)) (fun hc69 ok68 => ?_) (fun hc69 ok68 => ?_)
          · skip
            refine z_if_ne (pc := 74) (tgt := 84) dX11_set_74 (by decide) (by decide) (by decide) (fun _ => ?_) (fun h => absurd h (by decide))
            refine x_aload_n (pc := 84) dX11_set_84 (List.Mem.head _) ?_
            refine z_getR (pc := 85) (k := 2) (r := 2) dX11_set_85 lf_X11_17 sh_0 rfl rf_0_2 ?_
            refine z_bipush (pc := 88) dX11_set_88 bp_35 ?_
            refine x_iload_n (pc := 90) dX11_set_90 (List.Mem.tail _ (List.Mem.head _)) ?_
            refine z_iadd (pc := 91) dX11_set_91 ?_
            have rd71 := ok68.1 2 (35 + what.toNat)
            refine z_iald (pc := 92) (j := 35 + what.toNat) (v := H.1 2 (35 + what.toNat)) dX11_set_92 sh_2 (by omega) (by omega) (by decide) rfl ?_
            refine x_istore_n (pc := 93) dX11_set_93 (Nat.le_of_ble_eq_true rfl) ?_
            show Ev _ _ _ _ _ [(3, .int (zN ((H.1 2 (35 + what.toNat))))), (0, .ref 0), (1, .int (zN (what))), (2, .int (zN (v)))] _ _
            refine x_aload_n (pc := 94) dX11_set_94 (List.Mem.tail _ (List.Mem.head _)) ?_
            refine z_getR (pc := 95) (k := 2) (r := 2) dX11_set_95 lf_X11_17 sh_0 rfl rf_0_2 ?_
            refine z_bipush (pc := 98) dX11_set_98 bp_35 ?_
            refine x_iload_n (pc := 100) dX11_set_100 (List.Mem.tail _ (List.Mem.tail _ (List.Mem.head _))) ?_
            refine z_iadd (pc := 101) dX11_set_101 ?_
            refine x_iload_n (pc := 102) dX11_set_102 (List.Mem.tail _ (List.Mem.tail _ (List.Mem.tail _ (List.Mem.head _)))) ?_
            refine z_iast (pc := 103) (j := 35 + what.toNat) (v := v) dX11_set_103 sh_2 (by omega) (by omega) (by decide) ?_
            have ok72 := okI ok68 2 (35 + what.toNat) (v := v) (by omega) (by omega)
            refine x_iload_n (pc := 104) dX11_set_104 (List.Mem.head _) ?_
            refine z_ireturn (pc := 105) dX11_set_105 rfl (Or.inl rfl) ok72 (by omega) (by omega) ?_
            have e : S_set (H.1 2) what v = (H.1 2 (35 + what.toNat), 6) := by unfold S_set; rw [if_pos (by omega)]; exact if_pos (by (repeat' split) <;> omega)
            rw [e]
            exact ⟨rfl, rfl⟩
          · skip
            refine z_if_ne (pc := 74) (tgt := 84) dX11_set_74 (by decide) (by decide) (by decide) (fun h => absurd h (by decide)) (fun _ => ?_)
            refine x_aload_n (pc := 77) dX11_set_77 (List.Mem.head _) ?_
            refine z_bipush (pc := 78) dX11_set_78 bp_m3 ?_
            refine z_callVip (pc := 80) (i := mX11_no) (S := []) [.int (zN ((-3)))] dX11_set_80 ml_X11_89 ok_X11_no rfl sh_0 rfl (Or.inl rfl) (Nat.le_of_ble_eq_true rfl) (c_X11_no (d := d) (code := ((-3))) (code1 := (by omega)) (code2 := (by omega)) (ok := ok68) (cn := (by first | assumption | omega))) (fun r74a r74b ok75 => ?_)
            show Ev _ _ _ _ _ _ _ (eh (wI H 1 ((refIx ((-3)))) (H.1 1 (refIx ((-3))) + 1)))
            refine z_ireturn (pc := 83) dX11_set_83 rfl (Or.inl rfl) ok75 (by omega) (by omega) ?_
            have e : S_set (H.1 2) what v = (-3, 1) := by unfold S_set; rw [if_pos (by omega)]; exact if_neg (by (repeat' split) <;> omega)
            rw [e]
            exact ⟨rfl, rfl⟩
      · skip
        refine z_ldc2_w (pc := 40) 30 dX11_set_40 cl_X11_217 (by decide) ?_
        refine x_goto (pc := 43) (tgt := 71) dX11_set_43 (by decide) ?_
        refine z_callSbp (pc := 71) (i := mX11_within) (S := []) [.long (zL (v)), .long (zL (1)), .long (zL (30))] dX11_set_71 ml_X11_152 ok_X11_within rfl (Or.inr rfl) (Nat.le_of_ble_eq_true rfl) (c_X11_within (d := d) (v := v) (lo := 1) (hi := 30) (v1 := (by omega)) (v2 := (by omega)) (lo1 := (by omega)) (lo2 := (by omega)) (hi1 := (by omega)) (hi2 := (by omega)) (ok := ok3)) (fun hc78 ok77 => ?_) (fun hc78 ok77 => ?_)
        · skip
          refine z_if_ne (pc := 74) (tgt := 84) dX11_set_74 (by decide) (by decide) (by decide) (fun _ => ?_) (fun h => absurd h (by decide))
          refine x_aload_n (pc := 84) dX11_set_84 (List.Mem.head _) ?_
          refine z_getR (pc := 85) (k := 2) (r := 2) dX11_set_85 lf_X11_17 sh_0 rfl rf_0_2 ?_
          refine z_bipush (pc := 88) dX11_set_88 bp_35 ?_
          refine x_iload_n (pc := 90) dX11_set_90 (List.Mem.tail _ (List.Mem.head _)) ?_
          refine z_iadd (pc := 91) dX11_set_91 ?_
          have rd80 := ok77.1 2 (35 + what.toNat)
          refine z_iald (pc := 92) (j := 35 + what.toNat) (v := H.1 2 (35 + what.toNat)) dX11_set_92 sh_2 (by omega) (by omega) (by decide) rfl ?_
          refine x_istore_n (pc := 93) dX11_set_93 (Nat.le_of_ble_eq_true rfl) ?_
          show Ev _ _ _ _ _ [(3, .int (zN ((H.1 2 (35 + what.toNat))))), (0, .ref 0), (1, .int (zN (what))), (2, .int (zN (v)))] _ _
          refine x_aload_n (pc := 94) dX11_set_94 (List.Mem.tail _ (List.Mem.head _)) ?_
          refine z_getR (pc := 95) (k := 2) (r := 2) dX11_set_95 lf_X11_17 sh_0 rfl rf_0_2 ?_
          refine z_bipush (pc := 98) dX11_set_98 bp_35 ?_
          refine x_iload_n (pc := 100) dX11_set_100 (List.Mem.tail _ (List.Mem.tail _ (List.Mem.head _))) ?_
          refine z_iadd (pc := 101) dX11_set_101 ?_
          refine x_iload_n (pc := 102) dX11_set_102 (List.Mem.tail _ (List.Mem.tail _ (List.Mem.tail _ (List.Mem.head _)))) ?_
          refine z_iast (pc := 103) (j := 35 + what.toNat) (v := v) dX11_set_103 sh_2 (by omega) (by omega) (by decide) ?_
          have ok81 := okI ok77 2 (35 + what.toNat) (v := v) (by omega) (by omega)
          refine x_iload_n (pc := 104) dX11_set_104 (List.Mem.head _) ?_
          refine z_ireturn (pc := 105) dX11_set_105 rfl (Or.inl rfl) ok81 (by omega) (by omega) ?_
          have e : S_set (H.1 2) what v = (H.1 2 (35 + what.toNat), 6) := by unfold S_set; rw [if_pos (by omega)]; exact if_pos (by (repeat' split) <;> omega)
          rw [e]
          exact ⟨rfl, rfl⟩
        · skip
          refine z_if_ne (pc := 74) (tgt := 84) dX11_set_74 (by decide) (by decide) (by decide) (fun h => absurd h (by decide)) (fun _ => ?_)
          refine x_aload_n (pc := 77) dX11_set_77 (List.Mem.head _) ?_
          refine z_bipush (pc := 78) dX11_set_78 bp_m3 ?_
          refine z_callVip (pc := 80) (i := mX11_no) (S := []) [.int (zN ((-3)))] dX11_set_80 ml_X11_89 ok_X11_no rfl sh_0 rfl (Or.inl rfl) (Nat.le_of_ble_eq_true rfl) (c_X11_no (d := d) (code := ((-3))) (code1 := (by omega)) (code2 := (by omega)) (ok := ok77) (cn := (by first | assumption | omega))) (fun r83a r83b ok84 => ?_)
          show Ev _ _ _ _ _ _ _ (eh (wI H 1 ((refIx ((-3)))) (H.1 1 (refIx ((-3))) + 1)))
          refine z_ireturn (pc := 83) dX11_set_83 rfl (Or.inl rfl) ok84 (by omega) (by omega) ?_
          have e : S_set (H.1 2) what v = (-3, 1) := by unfold S_set; rw [if_pos (by omega)]; exact if_neg (by (repeat' split) <;> omega)
          rw [e]
          exact ⟨rfl, rfl⟩
  · skip
    refine z_if_ne (pc := 14) (tgt := 24) dX11_set_14 (by decide) (by decide) (by decide) (fun h => absurd h (by decide)) (fun _ => ?_)
    refine x_aload_n (pc := 17) dX11_set_17 (List.Mem.head _) ?_
    refine z_bipush (pc := 18) dX11_set_18 bp_m2 ?_
    refine z_callVip (pc := 20) (i := mX11_no) (S := []) [.int (zN ((-2)))] dX11_set_20 ml_X11_89 ok_X11_no rfl sh_0 rfl (Or.inl rfl) (Nat.le_of_ble_eq_true rfl) (c_X11_no (d := d) (code := ((-2))) (code1 := (by omega)) (code2 := (by omega)) (ok := ok3) (cn := (by first | assumption | omega))) (fun r86a r86b ok87 => ?_)
    show Ev _ _ _ _ _ _ _ (eh (wI H 1 ((refIx ((-2)))) (H.1 1 (refIx ((-2))) + 1)))
    refine z_ireturn (pc := 23) dX11_set_23 rfl (Or.inl rfl) ok87 (by omega) (by omega) ?_
    have e : S_set (H.1 2) what v = (-2, 0) := by unfold S_set; rw [if_neg (by omega)]
    rw [e]
    exact ⟨rfl, rfl⟩

theorem c_X11_hasTrait {d : Nat} {H : ZH} (ok : okZ H) {k : Nat} (hk : k < 8) (ws : WFS (H.1 2)) : EvC zX (d + 1) mX11_hasTrait [.ref 0, .int (zN ((k : Int)))] (eh H) (zPi (fun (rz : Int) (Hz : ZH) => rz = (if H.1 2 34 / 2 ^ k % 2 = 1 then 1 else 0) ∧ Hz = H)) := by
  show _ ∧ Ev zX mX11_hasTrait (EvC zX d) (zPi (fun (rz : Int) (Hz : ZH) => rz = (if H.1 2 34 / 2 ^ k % 2 = 1 then 1 else 0) ∧ Hz = H)) 0 [(0, .ref 0), (1, .int (zN ((k : Int))))] [] (eh H)
  refine ⟨Nat.le_of_ble_eq_true rfl, ?_⟩
  have wsx := ws
  obtain ⟨ws0, ws1, wsC, ws34, ws35, ws36, ws37, ws38, ws39⟩ := wsx
  have pb := pow256 (t := H.1 2 34) (k := k) (by omega) (by omega)
  refine x_aload_n (pc := 0) dX11_hasTrait_0 (List.Mem.head _) ?_
  refine z_getR (pc := 1) (k := 2) (r := 2) dX11_hasTrait_1 lf_X11_17 sh_0 rfl rf_0_2 ?_
  refine z_bipush (pc := 4) dX11_hasTrait_4 bp_34 ?_
  have rd1 := ok.1 2 34
  refine z_iald (pc := 6) (j := 34) (v := H.1 2 34) dX11_hasTrait_6 sh_2 rfl (Nat.le_of_ble_eq_true rfl) (by decide) rfl ?_
  refine x_iload_n (pc := 7) dX11_hasTrait_7 (List.Mem.tail _ (List.Mem.head _)) ?_
  refine z_ishr (pc := 8) (k := k) dX11_hasTrait_8 rfl (by omega) (by omega) (by omega) ?_
  refine z_iconst (pc := 9) dX11_hasTrait_9 ?_
  refine z_iand1 (pc := 10) dX11_hasTrait_10 ?_
  refine z_iconst (pc := 11) dX11_hasTrait_11 ?_
  refine z_icmp_ne (pc := 12) (tgt := 19) dX11_hasTrait_12 (by decide) (by omega) (by omega) (by decide) (by decide) (fun hb2 => ?_) (fun hb2 => ?_)
  · skip
    refine z_iconst (pc := 19) dX11_hasTrait_19 ?_
    refine z_ireturn (pc := 20) dX11_hasTrait_20 rfl (Or.inr ⟨rfl, by omega⟩) ok (by decide) (by decide) ?_
    exact ⟨by first | rfl | omega | simp_all, rfl⟩
  · skip
    refine z_iconst (pc := 15) dX11_hasTrait_15 ?_
    refine x_goto (pc := 16) (tgt := 20) dX11_hasTrait_16 (by decide) ?_
    refine z_ireturn (pc := 20) dX11_hasTrait_20 rfl (Or.inr ⟨rfl, by omega⟩) ok (by decide) (by decide) ?_
    exact ⟨by first | rfl | omega | simp_all, rfl⟩

theorem c_X11_canStop {d : Nat} {H : ZH} (ok : okZ H) {c : Nat} (hc : (c : Int) < H.1 2 1) (ws : WFS (H.1 2)) (wn : WFN (H.1 2) (H.1 6)) : EvC zX (d + 1) mX11_canStop [.ref 0, .int (zN ((c : Int)))] (eh H) (zPi (fun (rz : Int) (Hz : ZH) => rz = (if H.1 6 (8 + c) * (H.1 6 (8 + c) - 1) / 2 ≤ H.1 6 c - H.1 2 35 then 1 else 0) ∧ Hz = H)) := by
  show _ ∧ Ev zX mX11_canStop (EvC zX d) (zPi (fun (rz : Int) (Hz : ZH) => rz = (if H.1 6 (8 + c) * (H.1 6 (8 + c) - 1) / 2 ≤ H.1 6 c - H.1 2 35 then 1 else 0) ∧ Hz = H)) 0 [(0, .ref 0), (1, .int (zN ((c : Int))))] [] (eh H)
  refine ⟨Nat.le_of_ble_eq_true rfl, ?_⟩
  have wsx := ws
  obtain ⟨ws0, ws1, wsC, ws34, ws35, ws36, ws37, ws38, ws39⟩ := wsx
  have wnx := wn
  obtain ⟨wnC, wn32, wn33, wn34, wn35, wn36, wn37, wn38, wn39⟩ := wnx
  have wc := wnC c hc
  have m1 : 0 ≤ H.1 6 (8 + c) * (H.1 6 (8 + c) - 1) ∧ H.1 6 (8 + c) * (H.1 6 (8 + c) - 1) ≤ 81 := by
    rcases (show H.1 6 (8 + c) = 0 ∨ 1 ≤ H.1 6 (8 + c) by omega) with q | q
    · rw [q]; decide
    · exact nn2 (A := 9) (B := 9) (by omega) (by omega) (by omega) (by omega)
  refine x_aload_n (pc := 0) dX11_canStop_0 (List.Mem.head _) ?_
  refine z_getR (pc := 1) (k := 18) (r := 6) dX11_canStop_1 lf_X11_33 sh_0 rfl rf_0_18 ?_
  refine z_bipush (pc := 4) dX11_canStop_4 bp_8 ?_
  refine x_iload_n (pc := 6) dX11_canStop_6 (List.Mem.tail _ (List.Mem.head _)) ?_
  refine z_iadd (pc := 7) dX11_canStop_7 ?_
  have rd1 := ok.1 6 (8 + c)
  refine z_iald (pc := 8) (j := 8 + c) (v := H.1 6 (8 + c)) dX11_canStop_8 sh_6 (by omega) (by omega) (by decide) rfl ?_
  refine x_aload_n (pc := 9) dX11_canStop_9 (List.Mem.head _) ?_
  refine z_getR (pc := 10) (k := 18) (r := 6) dX11_canStop_10 lf_X11_33 sh_0 rfl rf_0_18 ?_
  refine z_bipush (pc := 13) dX11_canStop_13 bp_8 ?_
  refine x_iload_n (pc := 15) dX11_canStop_15 (List.Mem.tail _ (List.Mem.head _)) ?_
  refine z_iadd (pc := 16) dX11_canStop_16 ?_
  have rd2 := ok.1 6 (8 + c)
  refine z_iald (pc := 17) (j := 8 + c) (v := H.1 6 (8 + c)) dX11_canStop_17 sh_6 (by omega) (by omega) (by decide) rfl ?_
  refine z_iconst (pc := 18) dX11_canStop_18 ?_
  refine z_isub (pc := 19) dX11_canStop_19 ?_
  refine z_imul (pc := 20) dX11_canStop_20 ?_
  refine z_iconst (pc := 21) dX11_canStop_21 ?_
  refine z_idivP (pc := 22) dX11_canStop_22 (by omega) (by omega) (by omega) (by omega) ?_
  refine x_aload_n (pc := 23) dX11_canStop_23 (List.Mem.head _) ?_
  refine z_getR (pc := 24) (k := 18) (r := 6) dX11_canStop_24 lf_X11_33 sh_0 rfl rf_0_18 ?_
  refine z_iconst (pc := 27) dX11_canStop_27 ?_
  refine x_iload_n (pc := 28) dX11_canStop_28 (List.Mem.tail _ (List.Mem.head _)) ?_
  refine z_iadd (pc := 29) dX11_canStop_29 ?_
  have rd3 := ok.1 6 c
  refine z_iald (pc := 30) (j := c) (v := H.1 6 c) dX11_canStop_30 sh_6 (by omega) (by omega) (by decide) rfl ?_
  refine x_aload_n (pc := 31) dX11_canStop_31 (List.Mem.head _) ?_
  refine z_getR (pc := 32) (k := 2) (r := 2) dX11_canStop_32 lf_X11_17 sh_0 rfl rf_0_2 ?_
  refine z_bipush (pc := 35) dX11_canStop_35 bp_35 ?_
  have rd4 := ok.1 2 35
  refine z_iald (pc := 37) (j := 35) (v := H.1 2 35) dX11_canStop_37 sh_2 rfl (Nat.le_of_ble_eq_true rfl) (by decide) rfl ?_
  refine z_isub (pc := 38) dX11_canStop_38 ?_
  refine z_icmp_gt (pc := 39) (tgt := 46) dX11_canStop_39 (by decide) (by omega) (by omega) (by omega) (by omega) (fun hb5 => ?_) (fun hb5 => ?_)
  · skip
    refine z_iconst (pc := 46) dX11_canStop_46 ?_
    refine z_ireturn (pc := 47) dX11_canStop_47 rfl (Or.inr ⟨rfl, by omega⟩) ok (by decide) (by decide) ?_
    exact ⟨by first | rfl | omega | simp_all, rfl⟩
  · skip
    refine z_iconst (pc := 42) dX11_canStop_42 ?_
    refine x_goto (pc := 43) (tgt := 47) dX11_canStop_43 (by decide) ?_
    refine z_ireturn (pc := 47) dX11_canStop_47 rfl (Or.inr ⟨rfl, by omega⟩) ok (by decide) (by decide) ?_
    exact ⟨by first | rfl | omega | simp_all, rfl⟩

theorem c_X11_isSome {d : Nat} {H : ZH} (ok : okZ H) {fr to but dc bl : Int} (fr1 : -2147483648 ≤ fr) (fr2 : fr ≤ 2147483647) (to1 : -2147483648 ≤ to) (to2 : to ≤ 2147483647) (but1 : -2147483648 ≤ but) (but2 : but ≤ 2147483647) (dc1 : -2147483648 ≤ dc) (dc2 : dc ≤ 2147483647) (bl1 : -2147483648 ≤ bl) (bl2 : bl ≤ 2147483647) (ws : WFS (H.1 2)) (wn : WFN (H.1 2) (H.1 6)) : EvC zX (d + 1) mX11_isSome [.ref 0, .int (zN (fr)), .int (zN (to)), .int (zN (but)), .int (zN (dc)), .int (zN (bl))] (eh H) (zPi (fun (rz : Int) (Hz : ZH) => rz = (if tsm (H.1 2) (H.1 6) fr to but dc bl (H.1 2 1).toNat = true then 1 else 0) ∧ Hz = H)) := by
  show _ ∧ Ev zX mX11_isSome (EvC zX d) (zPi (fun (rz : Int) (Hz : ZH) => rz = (if tsm (H.1 2) (H.1 6) fr to but dc bl (H.1 2 1).toNat = true then 1 else 0) ∧ Hz = H)) 0 [(0, .ref 0), (1, .int (zN (fr))), (2, .int (zN (to))), (3, .int (zN (but))), (4, .int (zN (dc))), (5, .int (zN (bl)))] [] (eh H)
  refine ⟨Nat.le_of_ble_eq_true rfl, ?_⟩
  have wsx := ws
  obtain ⟨ws0, ws1, wsC, ws34, ws35, ws36, ws37, ws38, ws39⟩ := wsx
  have wnx := wn
  obtain ⟨wnC, wn32, wn33, wn34, wn35, wn36, wn37, wn38, wn39⟩ := wnx
  refine z_iconst (pc := 0) dX11_isSome_0 ?_
  refine x_istore (pc := 1) dX11_isSome_1 (Nat.le_of_ble_eq_true rfl) ?_
  show Ev _ _ _ _ _ [(6, .int (zN (0))), (0, .ref 0), (1, .int (zN (fr))), (2, .int (zN (to))), (3, .int (zN (but))), (4, .int (zN (dc))), (5, .int (zN (bl)))] _ _
  have lp3 : ∀ (nF : Nat) (k : Nat), ((k : Int) ≤ H.1 2 1) → (∀ j, j < k → ¬ (((fr ≤ H.1 2 (2 + j) ∧ H.1 2 (2 + j) ≤ to) ∧ H.1 2 (2 + j) ≠ but) ∧ H.1 6 (16 + j) = dc ∧ 0 < H.1 6 j ∧ H.1 6 j < bl)) → (H.1 2 1).toNat - k < nF → Ev zX mX11_isSome (EvC zX d) (zPi (fun (rz : Int) (Hz : ZH) => rz = (if tsm (H.1 2) (H.1 6) fr to but dc bl (H.1 2 1).toNat = true then 1 else 0) ∧ Hz = H)) 3 [(0, .ref 0), (1, .int (zN (fr))), (2, .int (zN (to))), (3, .int (zN (but))), (4, .int (zN (dc))), (5, .int (zN (bl))), (6, .int (zN ((k : Int))))] [] (eh H) := by
    intro nF
    induction nF with
    | zero => intro k hk ha hm; exact absurd hm (Nat.not_lt_zero _)
    | succ nF ih3 =>
      intro k hk ha hm
      refine x_iload (pc := 3) dX11_isSome_3 (List.Mem.tail _ (List.Mem.tail _ (List.Mem.tail _ (List.Mem.tail _ (List.Mem.tail _ (List.Mem.tail _ (List.Mem.head _))))))) ?_
      refine x_aload_n (pc := 5) dX11_isSome_5 (List.Mem.head _) ?_
      refine z_getR (pc := 6) (k := 2) (r := 2) dX11_isSome_6 lf_X11_17 sh_0 rfl rf_0_2 ?_
      refine z_iconst (pc := 9) dX11_isSome_9 ?_
      have rd1 := ok.1 2 1
      refine z_iald (pc := 10) (j := 1) (v := H.1 2 1) dX11_isSome_10 sh_2 rfl (Nat.le_of_ble_eq_true rfl) (by decide) rfl ?_
      refine z_icmp_ge (pc := 11) (tgt := 92) dX11_isSome_11 (by decide) (by omega) (by omega) (by omega) (by omega) (fun hb2 => ?_) (fun hb2 => ?_)
      · skip
        refine z_iconst (pc := 92) dX11_isSome_92 ?_
        refine z_ireturn (pc := 93) dX11_isSome_93 rfl (Or.inr ⟨rfl, by omega⟩) ok (by decide) (by decide) ?_
        exact ⟨by rw [tsm_f (fun j hj => ha j (by omega))]; rfl, rfl⟩
      · skip
        refine x_aload_n (pc := 14) dX11_isSome_14 (List.Mem.head _) ?_
        refine z_getR (pc := 15) (k := 2) (r := 2) dX11_isSome_15 lf_X11_17 sh_0 rfl rf_0_2 ?_
        refine z_iconst (pc := 18) dX11_isSome_18 ?_
        refine x_iload (pc := 19) dX11_isSome_19 (List.Mem.tail _ (List.Mem.tail _ (List.Mem.tail _ (List.Mem.tail _ (List.Mem.tail _ (List.Mem.tail _ (List.Mem.head _))))))) ?_
        refine z_iadd (pc := 21) dX11_isSome_21 ?_
        have rd3 := ok.1 2 (2 + k)
        refine z_iald (pc := 22) (j := 2 + k) (v := H.1 2 (2 + k)) dX11_isSome_22 sh_2 (by omega) (by omega) (by decide) rfl ?_
        refine x_istore (pc := 23) dX11_isSome_23 (Nat.le_of_ble_eq_true rfl) ?_
        show Ev _ _ _ _ _ [(7, .int (zN ((H.1 2 (2 + k))))), (0, .ref 0), (1, .int (zN (fr))), (2, .int (zN (to))), (3, .int (zN (but))), (4, .int (zN (dc))), (5, .int (zN (bl))), (6, .int (zN ((k : Int))))] _ _
        refine x_iload (pc := 25) dX11_isSome_25 (List.Mem.head _) ?_
        refine x_iload_n (pc := 27) dX11_isSome_27 (List.Mem.tail _ (List.Mem.tail _ (List.Mem.head _))) ?_
        refine z_icmp_lt (pc := 28) (tgt := 86) dX11_isSome_28 (by decide) (by omega) (by omega) (by omega) (by omega) (fun hb4 => ?_) (fun hb4 => ?_)
        · skip
          refine z_iinc (pc := 86) dX11_isSome_86 (List.Mem.tail _ (List.Mem.tail _ (List.Mem.tail _ (List.Mem.tail _ (List.Mem.tail _ (List.Mem.tail _ (List.Mem.tail _ (List.Mem.head _)))))))) (Nat.le_of_ble_eq_true rfl) ?_
          show Ev _ _ _ _ _ [(6, .int (zN ((k : Int) + 1))), (7, .int (zN ((H.1 2 (2 + k))))), (0, .ref 0), (1, .int (zN (fr))), (2, .int (zN (to))), (3, .int (zN (but))), (4, .int (zN (dc))), (5, .int (zN (bl)))] _ _
          refine x_goto (pc := 89) (tgt := 3) dX11_isSome_89 (by decide) ?_
          refine x_weaken (L1 := [(0, .ref 0), (1, .int (zN (fr))), (2, .int (zN (to))), (3, .int (zN (but))), (4, .int (zN (dc))), (5, .int (zN (bl))), (6, .int (zN ((((k + 1) : Nat) : Int))))]) (List.forall_mem_cons.mpr ⟨(List.Mem.tail _ (List.Mem.tail _ (List.Mem.head _))), (List.forall_mem_cons.mpr ⟨(List.Mem.tail _ (List.Mem.tail _ (List.Mem.tail _ (List.Mem.head _)))), (List.forall_mem_cons.mpr ⟨(List.Mem.tail _ (List.Mem.tail _ (List.Mem.tail _ (List.Mem.tail _ (List.Mem.head _))))), (List.forall_mem_cons.mpr ⟨(List.Mem.tail _ (List.Mem.tail _ (List.Mem.tail _ (List.Mem.tail _ (List.Mem.tail _ (List.Mem.head _)))))), (List.forall_mem_cons.mpr ⟨(List.Mem.tail _ (List.Mem.tail _ (List.Mem.tail _ (List.Mem.tail _ (List.Mem.tail _ (List.Mem.tail _ (List.Mem.head _))))))), (List.forall_mem_cons.mpr ⟨(List.Mem.tail _ (List.Mem.tail _ (List.Mem.tail _ (List.Mem.tail _ (List.Mem.tail _ (List.Mem.tail _ (List.Mem.tail _ (List.Mem.head _)))))))), (List.forall_mem_cons.mpr ⟨(mem_ci (by omega) (List.Mem.head _)), (fun _ h => absurd h List.not_mem_nil)⟩)⟩)⟩)⟩)⟩)⟩)⟩) ?_
          exact ih3 ((k + 1)) (by first | assumption | omega) (lt_s ha (by omega)) (by omega)
        · skip
          refine x_iload (pc := 31) dX11_isSome_31 (List.Mem.head _) ?_
          refine x_iload_n (pc := 33) dX11_isSome_33 (List.Mem.tail _ (List.Mem.tail _ (List.Mem.tail _ (List.Mem.head _)))) ?_
          refine z_icmp_gt (pc := 34) (tgt := 86) dX11_isSome_34 (by decide) (by omega) (by omega) (by omega) (by omega) (fun hb5 => ?_) (fun hb5 => ?_)
          · skip
            refine z_iinc (pc := 86) dX11_isSome_86 (List.Mem.tail _ (List.Mem.tail _ (List.Mem.tail _ (List.Mem.tail _ (List.Mem.tail _ (List.Mem.tail _ (List.Mem.tail _ (List.Mem.head _)))))))) (Nat.le_of_ble_eq_true rfl) ?_
            show Ev _ _ _ _ _ [(6, .int (zN ((k : Int) + 1))), (7, .int (zN ((H.1 2 (2 + k))))), (0, .ref 0), (1, .int (zN (fr))), (2, .int (zN (to))), (3, .int (zN (but))), (4, .int (zN (dc))), (5, .int (zN (bl)))] _ _
            refine x_goto (pc := 89) (tgt := 3) dX11_isSome_89 (by decide) ?_
            refine x_weaken (L1 := [(0, .ref 0), (1, .int (zN (fr))), (2, .int (zN (to))), (3, .int (zN (but))), (4, .int (zN (dc))), (5, .int (zN (bl))), (6, .int (zN ((((k + 1) : Nat) : Int))))]) (List.forall_mem_cons.mpr ⟨(List.Mem.tail _ (List.Mem.tail _ (List.Mem.head _))), (List.forall_mem_cons.mpr ⟨(List.Mem.tail _ (List.Mem.tail _ (List.Mem.tail _ (List.Mem.head _)))), (List.forall_mem_cons.mpr ⟨(List.Mem.tail _ (List.Mem.tail _ (List.Mem.tail _ (List.Mem.tail _ (List.Mem.head _))))), (List.forall_mem_cons.mpr ⟨(List.Mem.tail _ (List.Mem.tail _ (List.Mem.tail _ (List.Mem.tail _ (List.Mem.tail _ (List.Mem.head _)))))), (List.forall_mem_cons.mpr ⟨(List.Mem.tail _ (List.Mem.tail _ (List.Mem.tail _ (List.Mem.tail _ (List.Mem.tail _ (List.Mem.tail _ (List.Mem.head _))))))), (List.forall_mem_cons.mpr ⟨(List.Mem.tail _ (List.Mem.tail _ (List.Mem.tail _ (List.Mem.tail _ (List.Mem.tail _ (List.Mem.tail _ (List.Mem.tail _ (List.Mem.head _)))))))), (List.forall_mem_cons.mpr ⟨(mem_ci (by omega) (List.Mem.head _)), (fun _ h => absurd h List.not_mem_nil)⟩)⟩)⟩)⟩)⟩)⟩)⟩) ?_
            exact ih3 ((k + 1)) (by first | assumption | omega) (lt_s ha (by omega)) (by omega)
          · skip
            refine x_iload (pc := 37) dX11_isSome_37 (List.Mem.head _) ?_
            refine x_iload_n (pc := 39) dX11_isSome_39 (List.Mem.tail _ (List.Mem.tail _ (List.Mem.tail _ (List.Mem.tail _ (List.Mem.head _))))) ?_
            refine z_icmp_eq (pc := 40) (tgt := 86) dX11_isSome_40 (by decide) (by omega) (by omega) (by omega) (by omega) (fun hb6 => ?_) (fun hb6 => ?_)
            · skip
              refine z_iinc (pc := 86) dX11_isSome_86 (List.Mem.tail _ (List.Mem.tail _ (List.Mem.tail _ (List.Mem.tail _ (List.Mem.tail _ (List.Mem.tail _ (List.Mem.tail _ (List.Mem.head _)))))))) (Nat.le_of_ble_eq_true rfl) ?_
              show Ev _ _ _ _ _ [(6, .int (zN ((k : Int) + 1))), (7, .int (zN ((H.1 2 (2 + k))))), (0, .ref 0), (1, .int (zN (fr))), (2, .int (zN (to))), (3, .int (zN (but))), (4, .int (zN (dc))), (5, .int (zN (bl)))] _ _
              refine x_goto (pc := 89) (tgt := 3) dX11_isSome_89 (by decide) ?_
              refine x_weaken (L1 := [(0, .ref 0), (1, .int (zN (fr))), (2, .int (zN (to))), (3, .int (zN (but))), (4, .int (zN (dc))), (5, .int (zN (bl))), (6, .int (zN ((((k + 1) : Nat) : Int))))]) (List.forall_mem_cons.mpr ⟨(List.Mem.tail _ (List.Mem.tail _ (List.Mem.head _))), (List.forall_mem_cons.mpr ⟨(List.Mem.tail _ (List.Mem.tail _ (List.Mem.tail _ (List.Mem.head _)))), (List.forall_mem_cons.mpr ⟨(List.Mem.tail _ (List.Mem.tail _ (List.Mem.tail _ (List.Mem.tail _ (List.Mem.head _))))), (List.forall_mem_cons.mpr ⟨(List.Mem.tail _ (List.Mem.tail _ (List.Mem.tail _ (List.Mem.tail _ (List.Mem.tail _ (List.Mem.head _)))))), (List.forall_mem_cons.mpr ⟨(List.Mem.tail _ (List.Mem.tail _ (List.Mem.tail _ (List.Mem.tail _ (List.Mem.tail _ (List.Mem.tail _ (List.Mem.head _))))))), (List.forall_mem_cons.mpr ⟨(List.Mem.tail _ (List.Mem.tail _ (List.Mem.tail _ (List.Mem.tail _ (List.Mem.tail _ (List.Mem.tail _ (List.Mem.tail _ (List.Mem.head _)))))))), (List.forall_mem_cons.mpr ⟨(mem_ci (by omega) (List.Mem.head _)), (fun _ h => absurd h List.not_mem_nil)⟩)⟩)⟩)⟩)⟩)⟩)⟩) ?_
              exact ih3 ((k + 1)) (by first | assumption | omega) (lt_s ha (by omega)) (by omega)
            · skip
              refine x_aload_n (pc := 43) dX11_isSome_43 (List.Mem.tail _ (List.Mem.head _)) ?_
              refine z_getR (pc := 44) (k := 18) (r := 6) dX11_isSome_44 lf_X11_33 sh_0 rfl rf_0_18 ?_
              refine z_bipush (pc := 47) dX11_isSome_47 bp_16 ?_
              refine x_iload (pc := 49) dX11_isSome_49 (List.Mem.tail _ (List.Mem.tail _ (List.Mem.tail _ (List.Mem.tail _ (List.Mem.tail _ (List.Mem.tail _ (List.Mem.tail _ (List.Mem.head _)))))))) ?_
              refine z_iadd (pc := 51) dX11_isSome_51 ?_
              have rd7 := ok.1 6 (16 + k)
              refine z_iald (pc := 52) (j := 16 + k) (v := H.1 6 (16 + k)) dX11_isSome_52 sh_6 (by omega) (by omega) (by decide) rfl ?_
              refine x_iload (pc := 53) dX11_isSome_53 (List.Mem.tail _ (List.Mem.tail _ (List.Mem.tail _ (List.Mem.tail _ (List.Mem.tail _ (List.Mem.head _)))))) ?_
              refine z_icmp_ne (pc := 55) (tgt := 86) dX11_isSome_55 (by decide) (by omega) (by omega) (by omega) (by omega) (fun hb8 => ?_) (fun hb8 => ?_)
              · skip
                refine z_iinc (pc := 86) dX11_isSome_86 (List.Mem.tail _ (List.Mem.tail _ (List.Mem.tail _ (List.Mem.tail _ (List.Mem.tail _ (List.Mem.tail _ (List.Mem.tail _ (List.Mem.head _)))))))) (Nat.le_of_ble_eq_true rfl) ?_
                show Ev _ _ _ _ _ [(6, .int (zN ((k : Int) + 1))), (7, .int (zN ((H.1 2 (2 + k))))), (0, .ref 0), (1, .int (zN (fr))), (2, .int (zN (to))), (3, .int (zN (but))), (4, .int (zN (dc))), (5, .int (zN (bl)))] _ _
                refine x_goto (pc := 89) (tgt := 3) dX11_isSome_89 (by decide) ?_
                refine x_weaken (L1 := [(0, .ref 0), (1, .int (zN (fr))), (2, .int (zN (to))), (3, .int (zN (but))), (4, .int (zN (dc))), (5, .int (zN (bl))), (6, .int (zN ((((k + 1) : Nat) : Int))))]) (List.forall_mem_cons.mpr ⟨(List.Mem.tail _ (List.Mem.tail _ (List.Mem.head _))), (List.forall_mem_cons.mpr ⟨(List.Mem.tail _ (List.Mem.tail _ (List.Mem.tail _ (List.Mem.head _)))), (List.forall_mem_cons.mpr ⟨(List.Mem.tail _ (List.Mem.tail _ (List.Mem.tail _ (List.Mem.tail _ (List.Mem.head _))))), (List.forall_mem_cons.mpr ⟨(List.Mem.tail _ (List.Mem.tail _ (List.Mem.tail _ (List.Mem.tail _ (List.Mem.tail _ (List.Mem.head _)))))), (List.forall_mem_cons.mpr ⟨(List.Mem.tail _ (List.Mem.tail _ (List.Mem.tail _ (List.Mem.tail _ (List.Mem.tail _ (List.Mem.tail _ (List.Mem.head _))))))), (List.forall_mem_cons.mpr ⟨(List.Mem.tail _ (List.Mem.tail _ (List.Mem.tail _ (List.Mem.tail _ (List.Mem.tail _ (List.Mem.tail _ (List.Mem.tail _ (List.Mem.head _)))))))), (List.forall_mem_cons.mpr ⟨(mem_ci (by omega) (List.Mem.head _)), (fun _ h => absurd h List.not_mem_nil)⟩)⟩)⟩)⟩)⟩)⟩)⟩) ?_
                exact ih3 ((k + 1)) (by first | assumption | omega) (lt_s ha (by omega)) (by omega)
              · skip
                refine x_aload_n (pc := 58) dX11_isSome_58 (List.Mem.tail _ (List.Mem.head _)) ?_
                refine z_getR (pc := 59) (k := 18) (r := 6) dX11_isSome_59 lf_X11_33 sh_0 rfl rf_0_18 ?_
                refine z_iconst (pc := 62) dX11_isSome_62 ?_
                refine x_iload (pc := 63) dX11_isSome_63 (List.Mem.tail _ (List.Mem.tail _ (List.Mem.tail _ (List.Mem.tail _ (List.Mem.tail _ (List.Mem.tail _ (List.Mem.tail _ (List.Mem.head _)))))))) ?_
                refine z_iadd (pc := 65) dX11_isSome_65 ?_
                have rd9 := ok.1 6 k
                refine z_iald (pc := 66) (j := k) (v := H.1 6 k) dX11_isSome_66 sh_6 (by omega) (by omega) (by decide) rfl ?_
                refine z_if_le (pc := 67) (tgt := 86) dX11_isSome_67 (by decide) (by omega) (by omega) (fun hb10 => ?_) (fun hb10 => ?_)
                · skip
                  refine z_iinc (pc := 86) dX11_isSome_86 (List.Mem.tail _ (List.Mem.tail _ (List.Mem.tail _ (List.Mem.tail _ (List.Mem.tail _ (List.Mem.tail _ (List.Mem.tail _ (List.Mem.head _)))))))) (Nat.le_of_ble_eq_true rfl) ?_
                  show Ev _ _ _ _ _ [(6, .int (zN ((k : Int) + 1))), (7, .int (zN ((H.1 2 (2 + k))))), (0, .ref 0), (1, .int (zN (fr))), (2, .int (zN (to))), (3, .int (zN (but))), (4, .int (zN (dc))), (5, .int (zN (bl)))] _ _
                  refine x_goto (pc := 89) (tgt := 3) dX11_isSome_89 (by decide) ?_
                  refine x_weaken (L1 := [(0, .ref 0), (1, .int (zN (fr))), (2, .int (zN (to))), (3, .int (zN (but))), (4, .int (zN (dc))), (5, .int (zN (bl))), (6, .int (zN ((((k + 1) : Nat) : Int))))]) (List.forall_mem_cons.mpr ⟨(List.Mem.tail _ (List.Mem.tail _ (List.Mem.head _))), (List.forall_mem_cons.mpr ⟨(List.Mem.tail _ (List.Mem.tail _ (List.Mem.tail _ (List.Mem.head _)))), (List.forall_mem_cons.mpr ⟨(List.Mem.tail _ (List.Mem.tail _ (List.Mem.tail _ (List.Mem.tail _ (List.Mem.head _))))), (List.forall_mem_cons.mpr ⟨(List.Mem.tail _ (List.Mem.tail _ (List.Mem.tail _ (List.Mem.tail _ (List.Mem.tail _ (List.Mem.head _)))))), (List.forall_mem_cons.mpr ⟨(List.Mem.tail _ (List.Mem.tail _ (List.Mem.tail _ (List.Mem.tail _ (List.Mem.tail _ (List.Mem.tail _ (List.Mem.head _))))))), (List.forall_mem_cons.mpr ⟨(List.Mem.tail _ (List.Mem.tail _ (List.Mem.tail _ (List.Mem.tail _ (List.Mem.tail _ (List.Mem.tail _ (List.Mem.tail _ (List.Mem.head _)))))))), (List.forall_mem_cons.mpr ⟨(mem_ci (by omega) (List.Mem.head _)), (fun _ h => absurd h List.not_mem_nil)⟩)⟩)⟩)⟩)⟩)⟩)⟩) ?_
                  exact ih3 ((k + 1)) (by first | assumption | omega) (lt_s ha (by omega)) (by omega)
                · skip
                  refine x_aload_n (pc := 70) dX11_isSome_70 (List.Mem.tail _ (List.Mem.head _)) ?_
                  refine z_getR (pc := 71) (k := 18) (r := 6) dX11_isSome_71 lf_X11_33 sh_0 rfl rf_0_18 ?_
                  refine z_iconst (pc := 74) dX11_isSome_74 ?_
                  refine x_iload (pc := 75) dX11_isSome_75 (List.Mem.tail _ (List.Mem.tail _ (List.Mem.tail _ (List.Mem.tail _ (List.Mem.tail _ (List.Mem.tail _ (List.Mem.tail _ (List.Mem.head _)))))))) ?_
                  refine z_iadd (pc := 77) dX11_isSome_77 ?_
                  have rd11 := ok.1 6 k
                  refine z_iald (pc := 78) (j := k) (v := H.1 6 k) dX11_isSome_78 sh_6 (by omega) (by omega) (by decide) rfl ?_
                  refine x_iload (pc := 79) dX11_isSome_79 (List.Mem.tail _ (List.Mem.tail _ (List.Mem.tail _ (List.Mem.tail _ (List.Mem.tail _ (List.Mem.tail _ (List.Mem.head _))))))) ?_
                  refine z_icmp_ge (pc := 81) (tgt := 86) dX11_isSome_81 (by decide) (by omega) (by omega) (by omega) (by omega) (fun hb12 => ?_) (fun hb12 => ?_)
                  · skip
                    refine z_iinc (pc := 86) dX11_isSome_86 (List.Mem.tail _ (List.Mem.tail _ (List.Mem.tail _ (List.Mem.tail _ (List.Mem.tail _ (List.Mem.tail _ (List.Mem.tail _ (List.Mem.head _)))))))) (Nat.le_of_ble_eq_true rfl) ?_
                    show Ev _ _ _ _ _ [(6, .int (zN ((k : Int) + 1))), (7, .int (zN ((H.1 2 (2 + k))))), (0, .ref 0), (1, .int (zN (fr))), (2, .int (zN (to))), (3, .int (zN (but))), (4, .int (zN (dc))), (5, .int (zN (bl)))] _ _
                    refine x_goto (pc := 89) (tgt := 3) dX11_isSome_89 (by decide) ?_
                    refine x_weaken (L1 := [(0, .ref 0), (1, .int (zN (fr))), (2, .int (zN (to))), (3, .int (zN (but))), (4, .int (zN (dc))), (5, .int (zN (bl))), (6, .int (zN ((((k + 1) : Nat) : Int))))]) (List.forall_mem_cons.mpr ⟨(List.Mem.tail _ (List.Mem.tail _ (List.Mem.head _))), (List.forall_mem_cons.mpr ⟨(List.Mem.tail _ (List.Mem.tail _ (List.Mem.tail _ (List.Mem.head _)))), (List.forall_mem_cons.mpr ⟨(List.Mem.tail _ (List.Mem.tail _ (List.Mem.tail _ (List.Mem.tail _ (List.Mem.head _))))), (List.forall_mem_cons.mpr ⟨(List.Mem.tail _ (List.Mem.tail _ (List.Mem.tail _ (List.Mem.tail _ (List.Mem.tail _ (List.Mem.head _)))))), (List.forall_mem_cons.mpr ⟨(List.Mem.tail _ (List.Mem.tail _ (List.Mem.tail _ (List.Mem.tail _ (List.Mem.tail _ (List.Mem.tail _ (List.Mem.head _))))))), (List.forall_mem_cons.mpr ⟨(List.Mem.tail _ (List.Mem.tail _ (List.Mem.tail _ (List.Mem.tail _ (List.Mem.tail _ (List.Mem.tail _ (List.Mem.tail _ (List.Mem.head _)))))))), (List.forall_mem_cons.mpr ⟨(mem_ci (by omega) (List.Mem.head _)), (fun _ h => absurd h List.not_mem_nil)⟩)⟩)⟩)⟩)⟩)⟩)⟩) ?_
                    exact ih3 ((k + 1)) (by first | assumption | omega) (lt_s ha (by omega)) (by omega)
                  · skip
                    refine z_iconst (pc := 84) dX11_isSome_84 ?_
                    refine z_ireturn (pc := 85) dX11_isSome_85 rfl (Or.inr ⟨rfl, by omega⟩) ok (by decide) (by decide) ?_
                    exact ⟨by rw [tsm_t (d := k) (by omega) ⟨by omega, by omega, by omega, by omega⟩]; rfl, rfl⟩
  refine x_weaken (L1 := [(0, .ref 0), (1, .int (zN (fr))), (2, .int (zN (to))), (3, .int (zN (but))), (4, .int (zN (dc))), (5, .int (zN (bl))), (6, .int (zN (((0 : Nat) : Int))))]) (List.forall_mem_cons.mpr ⟨(List.Mem.tail _ (List.Mem.head _)), (List.forall_mem_cons.mpr ⟨(List.Mem.tail _ (List.Mem.tail _ (List.Mem.head _))), (List.forall_mem_cons.mpr ⟨(List.Mem.tail _ (List.Mem.tail _ (List.Mem.tail _ (List.Mem.head _)))), (List.forall_mem_cons.mpr ⟨(List.Mem.tail _ (List.Mem.tail _ (List.Mem.tail _ (List.Mem.tail _ (List.Mem.head _))))), (List.forall_mem_cons.mpr ⟨(List.Mem.tail _ (List.Mem.tail _ (List.Mem.tail _ (List.Mem.tail _ (List.Mem.tail _ (List.Mem.head _)))))), (List.forall_mem_cons.mpr ⟨(List.Mem.tail _ (List.Mem.tail _ (List.Mem.tail _ (List.Mem.tail _ (List.Mem.tail _ (List.Mem.tail _ (List.Mem.head _))))))), (List.forall_mem_cons.mpr ⟨(mem_ci (by omega) (List.Mem.head _)), (fun _ h => absurd h List.not_mem_nil)⟩)⟩)⟩)⟩)⟩)⟩)⟩) ?_
  exact lp3 ((H.1 2 1).toNat - 0 + 1) (0) (by first | assumption | omega) (fun j h => absurd h (Nat.not_lt_zero _)) (Nat.lt_succ_self _)

theorem c_X11_isHidden {d : Nat} {H : ZH} (ok : okZ H) {c : Nat} (hc : (c : Int) < H.1 2 1) (ws : WFS (H.1 2)) (wn : WFN (H.1 2) (H.1 6)) : EvC zX (d + 2) mX11_isHidden [.ref 0, .int (zN ((c : Int)))] (eh H) (zPi (fun (rz : Int) (Hz : ZH) => rz = (if thd (H.1 2) (H.1 6) c (H.1 2 1).toNat = true then 1 else 0) ∧ Hz = H)) := by
  show _ ∧ Ev zX mX11_isHidden (EvC zX (d + 1)) (zPi (fun (rz : Int) (Hz : ZH) => rz = (if thd (H.1 2) (H.1 6) c (H.1 2 1).toNat = true then 1 else 0) ∧ Hz = H)) 0 [(0, .ref 0), (1, .int (zN ((c : Int))))] [] (eh H)
  refine ⟨Nat.le_of_ble_eq_true rfl, ?_⟩
  have wsx := ws
  obtain ⟨ws0, ws1, wsC, ws34, ws35, ws36, ws37, ws38, ws39⟩ := wsx
  have wnx := wn
  obtain ⟨wnC, wn32, wn33, wn34, wn35, wn36, wn37, wn38, wn39⟩ := wnx
  have wc := wsC c hc
  have vc := wnC c hc
  refine z_iconst (pc := 0) dX11_isHidden_0 ?_
  refine x_istore_n (pc := 1) dX11_isHidden_1 (Nat.le_of_ble_eq_true rfl) ?_
  show Ev _ _ _ _ _ [(2, .int (zN (0))), (0, .ref 0), (1, .int (zN ((c : Int))))] _ _
  have lp2 : ∀ (nF : Nat) (k : Nat), ((k : Int) ≤ H.1 2 1) → (∀ j, j < k → ¬ (H.1 2 (2 + j) = H.1 2 (2 + c) - 1 ∧ 0 < H.1 2 (26 + j) ∧ H.1 6 (16 + j) = 2 ∧ H.1 6 (8 + j) = 0 ∧ (1 ≤ H.1 6 j ∧ H.1 6 j ≤ 3) ∧ H.1 6 j < H.1 6 c)) → (H.1 2 1).toNat - k < nF → Ev zX mX11_isHidden (EvC zX (d + 1)) (zPi (fun (rz : Int) (Hz : ZH) => rz = (if thd (H.1 2) (H.1 6) c (H.1 2 1).toNat = true then 1 else 0) ∧ Hz = H)) 2 [(0, .ref 0), (1, .int (zN ((c : Int)))), (2, .int (zN ((k : Int))))] [] (eh H) := by
    intro nF
    induction nF with
    | zero => intro k hk ha hm; exact absurd hm (Nat.not_lt_zero _)
    | succ nF ih2 =>
      intro k hk ha hm
      refine x_iload_n (pc := 2) dX11_isHidden_2 (List.Mem.tail _ (List.Mem.tail _ (List.Mem.head _))) ?_
      refine x_aload_n (pc := 3) dX11_isHidden_3 (List.Mem.head _) ?_
      refine z_getR (pc := 4) (k := 2) (r := 2) dX11_isHidden_4 lf_X11_17 sh_0 rfl rf_0_2 ?_
      refine z_iconst (pc := 7) dX11_isHidden_7 ?_
      have rd1 := ok.1 2 1
      refine z_iald (pc := 8) (j := 1) (v := H.1 2 1) dX11_isHidden_8 sh_2 rfl (Nat.le_of_ble_eq_true rfl) (by decide) rfl ?_
      refine z_icmp_ge (pc := 9) (tgt := 116) dX11_isHidden_9 (by decide) (by omega) (by omega) (by omega) (by omega) (fun hb2 => ?_) (fun hb2 => ?_)
      · skip
        refine z_iconst (pc := 116) dX11_isHidden_116 ?_
        refine z_ireturn (pc := 117) dX11_isHidden_117 rfl (Or.inr ⟨rfl, by omega⟩) ok (by decide) (by decide) ?_
        exact ⟨by rw [thd_f (fun j hj => ha j (by omega))]; rfl, rfl⟩
      · skip
        have wk := wsC k (by omega)
        have vk := wnC k (by omega)
        refine x_aload_n (pc := 12) dX11_isHidden_12 (List.Mem.head _) ?_
        refine z_getR (pc := 13) (k := 2) (r := 2) dX11_isHidden_13 lf_X11_17 sh_0 rfl rf_0_2 ?_
        refine z_iconst (pc := 16) dX11_isHidden_16 ?_
        refine x_iload_n (pc := 17) dX11_isHidden_17 (List.Mem.tail _ (List.Mem.tail _ (List.Mem.head _))) ?_
        refine z_iadd (pc := 18) dX11_isHidden_18 ?_
        have rd3 := ok.1 2 (2 + k)
        refine z_iald (pc := 19) (j := 2 + k) (v := H.1 2 (2 + k)) dX11_isHidden_19 sh_2 (by omega) (by omega) (by decide) rfl ?_
        refine x_aload_n (pc := 20) dX11_isHidden_20 (List.Mem.head _) ?_
        refine z_getR (pc := 21) (k := 2) (r := 2) dX11_isHidden_21 lf_X11_17 sh_0 rfl rf_0_2 ?_
        refine z_iconst (pc := 24) dX11_isHidden_24 ?_
        refine x_iload_n (pc := 25) dX11_isHidden_25 (List.Mem.tail _ (List.Mem.head _)) ?_
        refine z_iadd (pc := 26) dX11_isHidden_26 ?_
        have rd4 := ok.1 2 (2 + c)
        refine z_iald (pc := 27) (j := 2 + c) (v := H.1 2 (2 + c)) dX11_isHidden_27 sh_2 (by omega) (by omega) (by decide) rfl ?_
        refine z_iconst (pc := 28) dX11_isHidden_28 ?_
        refine z_isub (pc := 29) dX11_isHidden_29 ?_
        refine z_icmp_ne (pc := 30) (tgt := 110) dX11_isHidden_30 (by decide) (by omega) (by omega) (by omega) (by omega) (fun hb5 => ?_) (fun hb5 => ?_)
        · skip
          refine z_iinc (pc := 110) dX11_isHidden_110 (List.Mem.tail _ (List.Mem.tail _ (List.Mem.head _))) (Nat.le_of_ble_eq_true rfl) ?_
          show Ev _ _ _ _ _ [(2, .int (zN ((k : Int) + 1))), (0, .ref 0), (1, .int (zN ((c : Int))))] _ _
          refine x_goto (pc := 113) (tgt := 2) dX11_isHidden_113 (by decide) ?_
          refine x_weaken (L1 := [(0, .ref 0), (1, .int (zN ((c : Int)))), (2, .int (zN ((((k + 1) : Nat) : Int))))]) (List.forall_mem_cons.mpr ⟨(List.Mem.tail _ (List.Mem.head _)), (List.forall_mem_cons.mpr ⟨(List.Mem.tail _ (List.Mem.tail _ (List.Mem.head _))), (List.forall_mem_cons.mpr ⟨(mem_ci (by omega) (List.Mem.head _)), (fun _ h => absurd h List.not_mem_nil)⟩)⟩)⟩) ?_
          exact ih2 ((k + 1)) (by first | assumption | omega) (lt_s ha (by omega)) (by omega)
        · skip
          refine x_aload_n (pc := 33) dX11_isHidden_33 (List.Mem.head _) ?_
          refine z_getR (pc := 34) (k := 2) (r := 2) dX11_isHidden_34 lf_X11_17 sh_0 rfl rf_0_2 ?_
          refine z_bipush (pc := 37) dX11_isHidden_37 bp_26 ?_
          refine x_iload_n (pc := 39) dX11_isHidden_39 (List.Mem.tail _ (List.Mem.tail _ (List.Mem.head _))) ?_
          refine z_iadd (pc := 40) dX11_isHidden_40 ?_
          have rd6 := ok.1 2 (26 + k)
          refine z_iald (pc := 41) (j := 26 + k) (v := H.1 2 (26 + k)) dX11_isHidden_41 sh_2 (by omega) (by omega) (by decide) rfl ?_
          refine z_if_le (pc := 42) (tgt := 110) dX11_isHidden_42 (by decide) (by omega) (by omega) (fun hb7 => ?_) (fun hb7 => ?_)
          · skip
            refine z_iinc (pc := 110) dX11_isHidden_110 (List.Mem.tail _ (List.Mem.tail _ (List.Mem.head _))) (Nat.le_of_ble_eq_true rfl) ?_
            show Ev _ _ _ _ _ [(2, .int (zN ((k : Int) + 1))), (0, .ref 0), (1, .int (zN ((c : Int))))] _ _
            refine x_goto (pc := 113) (tgt := 2) dX11_isHidden_113 (by decide) ?_
            refine x_weaken (L1 := [(0, .ref 0), (1, .int (zN ((c : Int)))), (2, .int (zN ((((k + 1) : Nat) : Int))))]) (List.forall_mem_cons.mpr ⟨(List.Mem.tail _ (List.Mem.head _)), (List.forall_mem_cons.mpr ⟨(List.Mem.tail _ (List.Mem.tail _ (List.Mem.head _))), (List.forall_mem_cons.mpr ⟨(mem_ci (by omega) (List.Mem.head _)), (fun _ h => absurd h List.not_mem_nil)⟩)⟩)⟩) ?_
            exact ih2 ((k + 1)) (by first | assumption | omega) (lt_s ha (by omega)) (by omega)
          · skip
            refine x_aload_n (pc := 45) dX11_isHidden_45 (List.Mem.head _) ?_
            refine z_getR (pc := 46) (k := 18) (r := 6) dX11_isHidden_46 lf_X11_33 sh_0 rfl rf_0_18 ?_
            refine z_bipush (pc := 49) dX11_isHidden_49 bp_16 ?_
            refine x_iload_n (pc := 51) dX11_isHidden_51 (List.Mem.tail _ (List.Mem.tail _ (List.Mem.head _))) ?_
            refine z_iadd (pc := 52) dX11_isHidden_52 ?_
            have rd8 := ok.1 6 (16 + k)
            refine z_iald (pc := 53) (j := 16 + k) (v := H.1 6 (16 + k)) dX11_isHidden_53 sh_6 (by omega) (by omega) (by decide) rfl ?_
            refine z_iconst (pc := 54) dX11_isHidden_54 ?_
            refine z_icmp_ne (pc := 55) (tgt := 110) dX11_isHidden_55 (by decide) (by omega) (by omega) (by decide) (by decide) (fun hb9 => ?_) (fun hb9 => ?_)
            · skip
              refine z_iinc (pc := 110) dX11_isHidden_110 (List.Mem.tail _ (List.Mem.tail _ (List.Mem.head _))) (Nat.le_of_ble_eq_true rfl) ?_
              show Ev _ _ _ _ _ [(2, .int (zN ((k : Int) + 1))), (0, .ref 0), (1, .int (zN ((c : Int))))] _ _
              refine x_goto (pc := 113) (tgt := 2) dX11_isHidden_113 (by decide) ?_
              refine x_weaken (L1 := [(0, .ref 0), (1, .int (zN ((c : Int)))), (2, .int (zN ((((k + 1) : Nat) : Int))))]) (List.forall_mem_cons.mpr ⟨(List.Mem.tail _ (List.Mem.head _)), (List.forall_mem_cons.mpr ⟨(List.Mem.tail _ (List.Mem.tail _ (List.Mem.head _))), (List.forall_mem_cons.mpr ⟨(mem_ci (by omega) (List.Mem.head _)), (fun _ h => absurd h List.not_mem_nil)⟩)⟩)⟩) ?_
              exact ih2 ((k + 1)) (by first | assumption | omega) (lt_s ha (by omega)) (by omega)
            · skip
              refine x_aload_n (pc := 58) dX11_isHidden_58 (List.Mem.head _) ?_
              refine z_getR (pc := 59) (k := 18) (r := 6) dX11_isHidden_59 lf_X11_33 sh_0 rfl rf_0_18 ?_
              refine z_bipush (pc := 62) dX11_isHidden_62 bp_8 ?_
              refine x_iload_n (pc := 64) dX11_isHidden_64 (List.Mem.tail _ (List.Mem.tail _ (List.Mem.head _))) ?_
              refine z_iadd (pc := 65) dX11_isHidden_65 ?_
              have rd10 := ok.1 6 (8 + k)
              refine z_iald (pc := 66) (j := 8 + k) (v := H.1 6 (8 + k)) dX11_isHidden_66 sh_6 (by omega) (by omega) (by decide) rfl ?_
              refine z_if_ne (pc := 67) (tgt := 110) dX11_isHidden_67 (by decide) (by omega) (by omega) (fun hb11 => ?_) (fun hb11 => ?_)
              · skip
                refine z_iinc (pc := 110) dX11_isHidden_110 (List.Mem.tail _ (List.Mem.tail _ (List.Mem.head _))) (Nat.le_of_ble_eq_true rfl) ?_
                show Ev _ _ _ _ _ [(2, .int (zN ((k : Int) + 1))), (0, .ref 0), (1, .int (zN ((c : Int))))] _ _
                refine x_goto (pc := 113) (tgt := 2) dX11_isHidden_113 (by decide) ?_
                refine x_weaken (L1 := [(0, .ref 0), (1, .int (zN ((c : Int)))), (2, .int (zN ((((k + 1) : Nat) : Int))))]) (List.forall_mem_cons.mpr ⟨(List.Mem.tail _ (List.Mem.head _)), (List.forall_mem_cons.mpr ⟨(List.Mem.tail _ (List.Mem.tail _ (List.Mem.head _))), (List.forall_mem_cons.mpr ⟨(mem_ci (by omega) (List.Mem.head _)), (fun _ h => absurd h List.not_mem_nil)⟩)⟩)⟩) ?_
                exact ih2 ((k + 1)) (by first | assumption | omega) (lt_s ha (by omega)) (by omega)
              · skip
                refine x_aload_n (pc := 70) dX11_isHidden_70 (List.Mem.head _) ?_
                refine z_getR (pc := 71) (k := 18) (r := 6) dX11_isHidden_71 lf_X11_33 sh_0 rfl rf_0_18 ?_
                refine z_iconst (pc := 74) dX11_isHidden_74 ?_
                refine x_iload_n (pc := 75) dX11_isHidden_75 (List.Mem.tail _ (List.Mem.tail _ (List.Mem.head _))) ?_
                refine z_iadd (pc := 76) dX11_isHidden_76 ?_
                have rd12 := ok.1 6 k
                refine z_iald (pc := 77) (j := k) (v := H.1 6 k) dX11_isHidden_77 sh_6 (by omega) (by omega) (by decide) rfl ?_
                refine z_i2l (pc := 78) dX11_isHidden_78 (by omega) (by omega) ?_
                refine z_lconst (pc := 79) 1 dX11_isHidden_79 rfl ?_
                refine z_ldc2_w (pc := 80) 3 dX11_isHidden_80 cl_X11_213 (by decide) ?_
                refine z_callSbp (pc := 83) (i := mX11_within) (S := []) [.long (zL ((H.1 6 k))), .long (zL (1)), .long (zL (3))] dX11_isHidden_83 ml_X11_152 ok_X11_within rfl (Or.inr rfl) (Nat.le_of_ble_eq_true rfl) (c_X11_within (d := d) (v := ((H.1 6 k))) (lo := 1) (hi := 3) (v1 := (by omega)) (v2 := (by omega)) (lo1 := (by omega)) (lo2 := (by omega)) (hi1 := (by omega)) (hi2 := (by omega)) (ok := ok)) (fun hc15 ok14 => ?_) (fun hc15 ok14 => ?_)
                · skip
                  refine z_if_eq (pc := 86) (tgt := 110) dX11_isHidden_86 (by decide) (by decide) (by decide) (fun h => absurd h (by decide)) (fun _ => ?_)
                  refine x_aload_n (pc := 89) dX11_isHidden_89 (List.Mem.head _) ?_
                  refine z_getR (pc := 90) (k := 18) (r := 6) dX11_isHidden_90 lf_X11_33 sh_0 rfl rf_0_18 ?_
                  refine z_iconst (pc := 93) dX11_isHidden_93 ?_
                  refine x_iload_n (pc := 94) dX11_isHidden_94 (List.Mem.tail _ (List.Mem.tail _ (List.Mem.head _))) ?_
                  refine z_iadd (pc := 95) dX11_isHidden_95 ?_
                  have rd17 := ok14.1 6 k
                  refine z_iald (pc := 96) (j := k) (v := H.1 6 k) dX11_isHidden_96 sh_6 (by omega) (by omega) (by decide) rfl ?_
                  refine x_aload_n (pc := 97) dX11_isHidden_97 (List.Mem.head _) ?_
                  refine z_getR (pc := 98) (k := 18) (r := 6) dX11_isHidden_98 lf_X11_33 sh_0 rfl rf_0_18 ?_
                  refine z_iconst (pc := 101) dX11_isHidden_101 ?_
                  refine x_iload_n (pc := 102) dX11_isHidden_102 (List.Mem.tail _ (List.Mem.head _)) ?_
                  refine z_iadd (pc := 103) dX11_isHidden_103 ?_
                  have rd18 := ok14.1 6 c
                  refine z_iald (pc := 104) (j := c) (v := H.1 6 c) dX11_isHidden_104 sh_6 (by omega) (by omega) (by decide) rfl ?_
                  refine z_icmp_ge (pc := 105) (tgt := 110) dX11_isHidden_105 (by decide) (by omega) (by omega) (by omega) (by omega) (fun hb19 => ?_) (fun hb19 => ?_)
                  · skip
                    refine z_iinc (pc := 110) dX11_isHidden_110 (List.Mem.tail _ (List.Mem.tail _ (List.Mem.head _))) (Nat.le_of_ble_eq_true rfl) ?_
                    show Ev _ _ _ _ _ [(2, .int (zN ((k : Int) + 1))), (0, .ref 0), (1, .int (zN ((c : Int))))] _ _
                    refine x_goto (pc := 113) (tgt := 2) dX11_isHidden_113 (by decide) ?_
                    refine x_weaken (L1 := [(0, .ref 0), (1, .int (zN ((c : Int)))), (2, .int (zN ((((k + 1) : Nat) : Int))))]) (List.forall_mem_cons.mpr ⟨(List.Mem.tail _ (List.Mem.head _)), (List.forall_mem_cons.mpr ⟨(List.Mem.tail _ (List.Mem.tail _ (List.Mem.head _))), (List.forall_mem_cons.mpr ⟨(mem_ci (by omega) (List.Mem.head _)), (fun _ h => absurd h List.not_mem_nil)⟩)⟩)⟩) ?_
                    exact ih2 ((k + 1)) (by first | assumption | omega) (lt_s ha (by omega)) (by omega)
                  · skip
                    refine z_iconst (pc := 108) dX11_isHidden_108 ?_
                    refine z_ireturn (pc := 109) dX11_isHidden_109 rfl (Or.inr ⟨rfl, by omega⟩) ok14 (by decide) (by decide) ?_
                    exact ⟨by rw [thd_t (d := k) (by omega) (by omega)]; rfl, rfl⟩
                · skip
                  refine z_if_eq (pc := 86) (tgt := 110) dX11_isHidden_86 (by decide) (by decide) (by decide) (fun _ => ?_) (fun h => absurd h (by decide))
                  refine z_iinc (pc := 110) dX11_isHidden_110 (List.Mem.tail _ (List.Mem.tail _ (List.Mem.head _))) (Nat.le_of_ble_eq_true rfl) ?_
                  show Ev _ _ _ _ _ [(2, .int (zN ((k : Int) + 1))), (0, .ref 0), (1, .int (zN ((c : Int))))] _ _
                  refine x_goto (pc := 113) (tgt := 2) dX11_isHidden_113 (by decide) ?_
                  refine x_weaken (L1 := [(0, .ref 0), (1, .int (zN ((c : Int)))), (2, .int (zN ((((k + 1) : Nat) : Int))))]) (List.forall_mem_cons.mpr ⟨(List.Mem.tail _ (List.Mem.head _)), (List.forall_mem_cons.mpr ⟨(List.Mem.tail _ (List.Mem.tail _ (List.Mem.head _))), (List.forall_mem_cons.mpr ⟨(mem_ci (by omega) (List.Mem.head _)), (fun _ h => absurd h List.not_mem_nil)⟩)⟩)⟩) ?_
                  exact ih2 ((k + 1)) (by first | assumption | omega) (lt_s ha (by omega)) (by omega)
  refine x_weaken (L1 := [(0, .ref 0), (1, .int (zN ((c : Int)))), (2, .int (zN (((0 : Nat) : Int))))]) (List.forall_mem_cons.mpr ⟨(List.Mem.tail _ (List.Mem.head _)), (List.forall_mem_cons.mpr ⟨(List.Mem.tail _ (List.Mem.tail _ (List.Mem.head _))), (List.forall_mem_cons.mpr ⟨(mem_ci (by omega) (List.Mem.head _)), (fun _ h => absurd h List.not_mem_nil)⟩)⟩)⟩) ?_
  exact lp2 ((H.1 2 1).toNat - 0 + 1) (0) (by first | assumption | omega) (fun j h => absurd h (Nat.not_lt_zero _)) (Nat.lt_succ_self _)

theorem c_X11_isFree {d : Nat} {H : ZH} (ok : okZ H) {ln : Int} (ln1 : -2147483648 ≤ ln) (ln2 : ln ≤ 2147483647) (ws : WFS (H.1 2)) (wn : WFN (H.1 2) (H.1 6)) : EvC zX (d + 3) mX11_isFree [.ref 0, .int (zN (ln))] (eh H) (zPi (fun (rz : Int) (Hz : ZH) => rz = (if tfr (H.1 2) (H.1 6) ln (H.1 2 1).toNat = true then 1 else 0) ∧ Hz = H)) := by
  show _ ∧ Ev zX mX11_isFree (EvC zX (d + 2)) (zPi (fun (rz : Int) (Hz : ZH) => rz = (if tfr (H.1 2) (H.1 6) ln (H.1 2 1).toNat = true then 1 else 0) ∧ Hz = H)) 0 [(0, .ref 0), (1, .int (zN (ln)))] [] (eh H)
  refine ⟨Nat.le_of_ble_eq_true rfl, ?_⟩
  have wsx := ws
  obtain ⟨ws0, ws1, wsC, ws34, ws35, ws36, ws37, ws38, ws39⟩ := wsx
  have wnx := wn
  obtain ⟨wnC, wn32, wn33, wn34, wn35, wn36, wn37, wn38, wn39⟩ := wnx
  refine z_iconst (pc := 0) dX11_isFree_0 ?_
  refine x_istore_n (pc := 1) dX11_isFree_1 (Nat.le_of_ble_eq_true rfl) ?_
  show Ev _ _ _ _ _ [(2, .int (zN (0))), (0, .ref 0), (1, .int (zN (ln)))] _ _
  have lp2 : ∀ (nF : Nat) (k : Nat), ((k : Int) ≤ H.1 2 1) → (∀ c, c < k → ¬ (H.1 2 (2 + c) = ln ∧ 0 < H.1 6 c ∧ H.1 6 (16 + c) ≠ 2 ∧ H.1 6 (24 + c) ≠ 1 ∧ thd (H.1 2) (H.1 6) c (H.1 2 1).toNat = false ∧ H.1 6 c ≤ H.1 2 36 * H.1 6 (8 + c))) → (H.1 2 1).toNat - k < nF → Ev zX mX11_isFree (EvC zX (d + 2)) (zPi (fun (rz : Int) (Hz : ZH) => rz = (if tfr (H.1 2) (H.1 6) ln (H.1 2 1).toNat = true then 1 else 0) ∧ Hz = H)) 2 [(0, .ref 0), (1, .int (zN (ln))), (2, .int (zN ((k : Int))))] [] (eh H) := by
    intro nF
    induction nF with
    | zero => intro k hk ha hm; exact absurd hm (Nat.not_lt_zero _)
    | succ nF ih2 =>
      intro k hk ha hm
      refine x_iload_n (pc := 2) dX11_isFree_2 (List.Mem.tail _ (List.Mem.tail _ (List.Mem.head _))) ?_
      refine x_aload_n (pc := 3) dX11_isFree_3 (List.Mem.head _) ?_
      refine z_getR (pc := 4) (k := 2) (r := 2) dX11_isFree_4 lf_X11_17 sh_0 rfl rf_0_2 ?_
      refine z_iconst (pc := 7) dX11_isFree_7 ?_
      have rd1 := ok.1 2 1
      refine z_iald (pc := 8) (j := 1) (v := H.1 2 1) dX11_isFree_8 sh_2 rfl (Nat.le_of_ble_eq_true rfl) (by decide) rfl ?_
      refine z_icmp_ge (pc := 9) (tgt := 120) dX11_isFree_9 (by decide) (by omega) (by omega) (by omega) (by omega) (fun hb2 => ?_) (fun hb2 => ?_)
      · skip
        refine z_iconst (pc := 120) dX11_isFree_120 ?_
        refine z_ireturn (pc := 121) dX11_isFree_121 rfl (Or.inr ⟨rfl, by omega⟩) ok (by decide) (by decide) ?_
        exact ⟨by rw [tfr_t (fun j hj => ha j (by omega))]; rfl, rfl⟩
      · skip
        have wk := wsC k (by omega)
        have vk := wnC k (by omega)
        refine x_aload_n (pc := 12) dX11_isFree_12 (List.Mem.head _) ?_
        refine z_getR (pc := 13) (k := 2) (r := 2) dX11_isFree_13 lf_X11_17 sh_0 rfl rf_0_2 ?_
        refine z_iconst (pc := 16) dX11_isFree_16 ?_
        refine x_iload_n (pc := 17) dX11_isFree_17 (List.Mem.tail _ (List.Mem.tail _ (List.Mem.head _))) ?_
        refine z_iadd (pc := 18) dX11_isFree_18 ?_
        have rd3 := ok.1 2 (2 + k)
        refine z_iald (pc := 19) (j := (2 + k)) (v := H.1 2 (2 + k)) dX11_isFree_19 sh_2 (by omega) (by omega) (by decide) rfl ?_
        refine x_iload_n (pc := 20) dX11_isFree_20 (List.Mem.tail _ (List.Mem.head _)) ?_
        refine z_icmp_ne (pc := 21) (tgt := 114) dX11_isFree_21 (by decide) (by omega) (by omega) (by omega) (by omega) (fun hb4 => ?_) (fun hb4 => ?_)
        · skip
          refine z_iinc (pc := 114) dX11_isFree_114 (List.Mem.tail _ (List.Mem.tail _ (List.Mem.head _))) (Nat.le_of_ble_eq_true rfl) ?_
          show Ev _ _ _ _ _ [(2, .int (zN ((k : Int) + 1))), (0, .ref 0), (1, .int (zN (ln)))] _ _
          refine x_goto (pc := 117) (tgt := 2) dX11_isFree_117 (by decide) ?_
          refine x_weaken (L1 := [(0, .ref 0), (1, .int (zN (ln))), (2, .int (zN ((((k + 1) : Nat) : Int))))]) (List.forall_mem_cons.mpr ⟨(List.Mem.tail _ (List.Mem.head _)), (List.forall_mem_cons.mpr ⟨(List.Mem.tail _ (List.Mem.tail _ (List.Mem.head _))), (List.forall_mem_cons.mpr ⟨(mem_ci (by omega) (List.Mem.head _)), (fun _ h => absurd h List.not_mem_nil)⟩)⟩)⟩) ?_
          exact ih2 ((k + 1)) (by first | assumption | omega) (lt_s ha (fun q => by first | omega | (obtain ⟨q1, q2, q3, q4, q5, q6⟩ := q; first | omega | (rw [hth] at q5; exact absurd q5 (by decide)) | exact hng q6))) (by omega)
        · skip
          refine x_aload_n (pc := 24) dX11_isFree_24 (List.Mem.head _) ?_
          refine z_getR (pc := 25) (k := 18) (r := 6) dX11_isFree_25 lf_X11_33 sh_0 rfl rf_0_18 ?_
          refine z_iconst (pc := 28) dX11_isFree_28 ?_
          refine x_iload_n (pc := 29) dX11_isFree_29 (List.Mem.tail _ (List.Mem.tail _ (List.Mem.head _))) ?_
          refine z_iadd (pc := 30) dX11_isFree_30 ?_
          have rd5 := ok.1 6 k
          refine z_iald (pc := 31) (j := k) (v := H.1 6 k) dX11_isFree_31 sh_6 (by omega) (by omega) (by decide) rfl ?_
          refine z_if_le (pc := 32) (tgt := 114) dX11_isFree_32 (by decide) (by omega) (by omega) (fun hb6 => ?_) (fun hb6 => ?_)
          · skip
            refine z_iinc (pc := 114) dX11_isFree_114 (List.Mem.tail _ (List.Mem.tail _ (List.Mem.head _))) (Nat.le_of_ble_eq_true rfl) ?_
            show Ev _ _ _ _ _ [(2, .int (zN ((k : Int) + 1))), (0, .ref 0), (1, .int (zN (ln)))] _ _
            refine x_goto (pc := 117) (tgt := 2) dX11_isFree_117 (by decide) ?_
            refine x_weaken (L1 := [(0, .ref 0), (1, .int (zN (ln))), (2, .int (zN ((((k + 1) : Nat) : Int))))]) (List.forall_mem_cons.mpr ⟨(List.Mem.tail _ (List.Mem.head _)), (List.forall_mem_cons.mpr ⟨(List.Mem.tail _ (List.Mem.tail _ (List.Mem.head _))), (List.forall_mem_cons.mpr ⟨(mem_ci (by omega) (List.Mem.head _)), (fun _ h => absurd h List.not_mem_nil)⟩)⟩)⟩) ?_
            exact ih2 ((k + 1)) (by first | assumption | omega) (lt_s ha (fun q => by first | omega | (obtain ⟨q1, q2, q3, q4, q5, q6⟩ := q; first | omega | (rw [hth] at q5; exact absurd q5 (by decide)) | exact hng q6))) (by omega)
          · skip
            refine x_aload_n (pc := 35) dX11_isFree_35 (List.Mem.head _) ?_
            refine z_getR (pc := 36) (k := 18) (r := 6) dX11_isFree_36 lf_X11_33 sh_0 rfl rf_0_18 ?_
            refine z_bipush (pc := 39) dX11_isFree_39 bp_16 ?_
            refine x_iload_n (pc := 41) dX11_isFree_41 (List.Mem.tail _ (List.Mem.tail _ (List.Mem.head _))) ?_
            refine z_iadd (pc := 42) dX11_isFree_42 ?_
            have rd7 := ok.1 6 (16 + k)
            refine z_iald (pc := 43) (j := 16 + k) (v := H.1 6 (16 + k)) dX11_isFree_43 sh_6 (by omega) (by omega) (by decide) rfl ?_
            refine z_iconst (pc := 44) dX11_isFree_44 ?_
            refine z_icmp_eq (pc := 45) (tgt := 114) dX11_isFree_45 (by decide) (by omega) (by omega) (by decide) (by decide) (fun hb8 => ?_) (fun hb8 => ?_)
            · skip
              refine z_iinc (pc := 114) dX11_isFree_114 (List.Mem.tail _ (List.Mem.tail _ (List.Mem.head _))) (Nat.le_of_ble_eq_true rfl) ?_
              show Ev _ _ _ _ _ [(2, .int (zN ((k : Int) + 1))), (0, .ref 0), (1, .int (zN (ln)))] _ _
              refine x_goto (pc := 117) (tgt := 2) dX11_isFree_117 (by decide) ?_
              refine x_weaken (L1 := [(0, .ref 0), (1, .int (zN (ln))), (2, .int (zN ((((k + 1) : Nat) : Int))))]) (List.forall_mem_cons.mpr ⟨(List.Mem.tail _ (List.Mem.head _)), (List.forall_mem_cons.mpr ⟨(List.Mem.tail _ (List.Mem.tail _ (List.Mem.head _))), (List.forall_mem_cons.mpr ⟨(mem_ci (by omega) (List.Mem.head _)), (fun _ h => absurd h List.not_mem_nil)⟩)⟩)⟩) ?_
              exact ih2 ((k + 1)) (by first | assumption | omega) (lt_s ha (fun q => by first | omega | (obtain ⟨q1, q2, q3, q4, q5, q6⟩ := q; first | omega | (rw [hth] at q5; exact absurd q5 (by decide)) | exact hng q6))) (by omega)
            · skip
              refine x_aload_n (pc := 48) dX11_isFree_48 (List.Mem.head _) ?_
              refine z_getR (pc := 49) (k := 18) (r := 6) dX11_isFree_49 lf_X11_33 sh_0 rfl rf_0_18 ?_
              refine z_bipush (pc := 52) dX11_isFree_52 bp_24 ?_
              refine x_iload_n (pc := 54) dX11_isFree_54 (List.Mem.tail _ (List.Mem.tail _ (List.Mem.head _))) ?_
              refine z_iadd (pc := 55) dX11_isFree_55 ?_
              have rd9 := ok.1 6 (24 + k)
              refine z_iald (pc := 56) (j := 24 + k) (v := H.1 6 (24 + k)) dX11_isFree_56 sh_6 (by omega) (by omega) (by decide) rfl ?_
              refine z_iconst (pc := 57) dX11_isFree_57 ?_
              refine z_icmp_eq (pc := 58) (tgt := 114) dX11_isFree_58 (by decide) (by omega) (by omega) (by decide) (by decide) (fun hb10 => ?_) (fun hb10 => ?_)
              · skip
                refine z_iinc (pc := 114) dX11_isFree_114 (List.Mem.tail _ (List.Mem.tail _ (List.Mem.head _))) (Nat.le_of_ble_eq_true rfl) ?_
                show Ev _ _ _ _ _ [(2, .int (zN ((k : Int) + 1))), (0, .ref 0), (1, .int (zN (ln)))] _ _
                refine x_goto (pc := 117) (tgt := 2) dX11_isFree_117 (by decide) ?_
                refine x_weaken (L1 := [(0, .ref 0), (1, .int (zN (ln))), (2, .int (zN ((((k + 1) : Nat) : Int))))]) (List.forall_mem_cons.mpr ⟨(List.Mem.tail _ (List.Mem.head _)), (List.forall_mem_cons.mpr ⟨(List.Mem.tail _ (List.Mem.tail _ (List.Mem.head _))), (List.forall_mem_cons.mpr ⟨(mem_ci (by omega) (List.Mem.head _)), (fun _ h => absurd h List.not_mem_nil)⟩)⟩)⟩) ?_
                exact ih2 ((k + 1)) (by first | assumption | omega) (lt_s ha (fun q => by first | omega | (obtain ⟨q1, q2, q3, q4, q5, q6⟩ := q; first | omega | (rw [hth] at q5; exact absurd q5 (by decide)) | exact hng q6))) (by omega)
              · skip
                refine x_aload_n (pc := 61) dX11_isFree_61 (List.Mem.head _) ?_
                refine x_iload_n (pc := 62) dX11_isFree_62 (List.Mem.tail _ (List.Mem.tail _ (List.Mem.head _))) ?_
                refine z_callVbp (pc := 63) (i := mX11_isHidden) (S := []) [.int (zN ((k : Int)))] dX11_isFree_63 ml_X11_253 ok_X11_isHidden rfl sh_0 rfl (Or.inr rfl) (Nat.le_of_ble_eq_true rfl) (c_X11_isHidden (d := d) (c := k) (hc := (by omega)) (ok := ok) (ws := (by first | assumption | omega)) (wn := (by first | assumption | omega))) (fun hc13 ok12 => ?_) (fun hc13 ok12 => ?_)
                · skip
                  have hth := hc13
                  refine z_if_eq (pc := 66) (tgt := 72) dX11_isFree_66 (by decide) (by decide) (by decide) (fun h => absurd h (by decide)) (fun _ => ?_)
                  refine x_goto (pc := 69) (tgt := 114) dX11_isFree_69 (by decide) ?_
                  refine z_iinc (pc := 114) dX11_isFree_114 (List.Mem.tail _ (List.Mem.tail _ (List.Mem.head _))) (Nat.le_of_ble_eq_true rfl) ?_
                  show Ev _ _ _ _ _ [(2, .int (zN ((k : Int) + 1))), (0, .ref 0), (1, .int (zN (ln)))] _ _
                  refine x_goto (pc := 117) (tgt := 2) dX11_isFree_117 (by decide) ?_
                  refine x_weaken (L1 := [(0, .ref 0), (1, .int (zN (ln))), (2, .int (zN ((((k + 1) : Nat) : Int))))]) (List.forall_mem_cons.mpr ⟨(List.Mem.tail _ (List.Mem.head _)), (List.forall_mem_cons.mpr ⟨(List.Mem.tail _ (List.Mem.tail _ (List.Mem.head _))), (List.forall_mem_cons.mpr ⟨(mem_ci (by omega) (List.Mem.head _)), (fun _ h => absurd h List.not_mem_nil)⟩)⟩)⟩) ?_
                  exact ih2 ((k + 1)) (by first | assumption | omega) (lt_s ha (fun q => by first | omega | (obtain ⟨q1, q2, q3, q4, q5, q6⟩ := q; first | omega | (rw [hth] at q5; exact absurd q5 (by decide)) | exact hng q6))) (by omega)
                · skip
                  have htf := Bool.eq_false_iff.mpr hc13
                  refine z_if_eq (pc := 66) (tgt := 72) dX11_isFree_66 (by decide) (by decide) (by decide) (fun _ => ?_) (fun h => absurd h (by decide))
                  have cl := ceil_le (x := H.1 6 k) (p := H.1 6 (8 + k)) (g := H.1 2 36) (by omega) (by omega)
                  have cd0 := Int.ediv_nonneg (a := H.1 6 k + H.1 6 (8 + k) - 1) (b := H.1 6 (8 + k)) (by omega) (by omega)
                  have cd1 := Int.ediv_le_self (a := H.1 6 k + H.1 6 (8 + k) - 1) (H.1 6 (8 + k)) (by omega)
                  refine x_aload_n (pc := 72) dX11_isFree_72 (List.Mem.head _) ?_
                  refine z_getR (pc := 73) (k := 18) (r := 6) dX11_isFree_73 lf_X11_33 sh_0 rfl rf_0_18 ?_
                  refine z_iconst (pc := 76) dX11_isFree_76 ?_
                  refine x_iload_n (pc := 77) dX11_isFree_77 (List.Mem.tail _ (List.Mem.tail _ (List.Mem.head _))) ?_
                  refine z_iadd (pc := 78) dX11_isFree_78 ?_
                  have rd16 := ok12.1 6 k
                  refine z_iald (pc := 79) (j := k) (v := H.1 6 k) dX11_isFree_79 sh_6 (by omega) (by omega) (by decide) rfl ?_
                  refine x_aload_n (pc := 80) dX11_isFree_80 (List.Mem.head _) ?_
                  refine z_getR (pc := 81) (k := 18) (r := 6) dX11_isFree_81 lf_X11_33 sh_0 rfl rf_0_18 ?_
                  refine z_bipush (pc := 84) dX11_isFree_84 bp_8 ?_
                  refine x_iload_n (pc := 86) dX11_isFree_86 (List.Mem.tail _ (List.Mem.tail _ (List.Mem.head _))) ?_
                  refine z_iadd (pc := 87) dX11_isFree_87 ?_
                  have rd17 := ok12.1 6 (8 + k)
                  refine z_iald (pc := 88) (j := 8 + k) (v := H.1 6 (8 + k)) dX11_isFree_88 sh_6 (by omega) (by omega) (by decide) rfl ?_
                  refine z_iadd (pc := 89) dX11_isFree_89 ?_
                  refine z_iconst (pc := 90) dX11_isFree_90 ?_
                  refine z_isub (pc := 91) dX11_isFree_91 ?_
                  refine x_aload_n (pc := 92) dX11_isFree_92 (List.Mem.head _) ?_
                  refine z_getR (pc := 93) (k := 18) (r := 6) dX11_isFree_93 lf_X11_33 sh_0 rfl rf_0_18 ?_
                  refine z_bipush (pc := 96) dX11_isFree_96 bp_8 ?_
                  refine x_iload_n (pc := 98) dX11_isFree_98 (List.Mem.tail _ (List.Mem.tail _ (List.Mem.head _))) ?_
                  refine z_iadd (pc := 99) dX11_isFree_99 ?_
                  have rd18 := ok12.1 6 (8 + k)
                  refine z_iald (pc := 100) (j := 8 + k) (v := H.1 6 (8 + k)) dX11_isFree_100 sh_6 (by omega) (by omega) (by decide) rfl ?_
                  refine z_idivP (pc := 101) dX11_isFree_101 (by omega) (by omega) (by omega) (by omega) ?_
                  refine x_aload_n (pc := 102) dX11_isFree_102 (List.Mem.head _) ?_
                  refine z_getR (pc := 103) (k := 2) (r := 2) dX11_isFree_103 lf_X11_17 sh_0 rfl rf_0_2 ?_
                  refine z_bipush (pc := 106) dX11_isFree_106 bp_36 ?_
                  have rd19 := ok12.1 2 36
                  refine z_iald (pc := 108) (j := 36) (v := H.1 2 36) dX11_isFree_108 sh_2 rfl (Nat.le_of_ble_eq_true rfl) (by decide) rfl ?_
                  refine z_icmp_gt (pc := 109) (tgt := 114) dX11_isFree_109 (by decide) (by omega) (by omega) (by omega) (by omega) (fun hb20 => ?_) (fun hb20 => ?_)
                  · skip
                    have hng : ¬ H.1 6 k ≤ H.1 2 36 * H.1 6 (8 + k) := fun q => absurd (cl.mpr q) (by omega)
                    refine z_iinc (pc := 114) dX11_isFree_114 (List.Mem.tail _ (List.Mem.tail _ (List.Mem.head _))) (Nat.le_of_ble_eq_true rfl) ?_
                    show Ev _ _ _ _ _ [(2, .int (zN ((k : Int) + 1))), (0, .ref 0), (1, .int (zN (ln)))] _ _
                    refine x_goto (pc := 117) (tgt := 2) dX11_isFree_117 (by decide) ?_
                    refine x_weaken (L1 := [(0, .ref 0), (1, .int (zN (ln))), (2, .int (zN ((((k + 1) : Nat) : Int))))]) (List.forall_mem_cons.mpr ⟨(List.Mem.tail _ (List.Mem.head _)), (List.forall_mem_cons.mpr ⟨(List.Mem.tail _ (List.Mem.tail _ (List.Mem.head _))), (List.forall_mem_cons.mpr ⟨(mem_ci (by omega) (List.Mem.head _)), (fun _ h => absurd h List.not_mem_nil)⟩)⟩)⟩) ?_
                    exact ih2 ((k + 1)) (by first | assumption | omega) (lt_s ha (fun q => by first | omega | (obtain ⟨q1, q2, q3, q4, q5, q6⟩ := q; first | omega | (rw [hth] at q5; exact absurd q5 (by decide)) | exact hng q6))) (by omega)
                  · skip
                    have hyg := cl.mp hb20
                    refine z_iconst (pc := 112) dX11_isFree_112 ?_
                    refine z_ireturn (pc := 113) dX11_isFree_113 rfl (Or.inr ⟨rfl, by omega⟩) ok12 (by decide) (by decide) ?_
                    exact ⟨by rw [tfr_f (c := k) (by omega) ⟨by omega, by omega, by omega, by omega, htf, hyg⟩]; rfl, rfl⟩
  refine x_weaken (L1 := [(0, .ref 0), (1, .int (zN (ln))), (2, .int (zN (((0 : Nat) : Int))))]) (List.forall_mem_cons.mpr ⟨(List.Mem.tail _ (List.Mem.head _)), (List.forall_mem_cons.mpr ⟨(List.Mem.tail _ (List.Mem.tail _ (List.Mem.head _))), (List.forall_mem_cons.mpr ⟨(mem_ci (by omega) (List.Mem.head _)), (fun _ h => absurd h List.not_mem_nil)⟩)⟩)⟩) ?_
  exact lp2 ((H.1 2 1).toNat - 0 + 1) (0) (by first | assumption | omega) (fun j h => absurd h (Nat.not_lt_zero _)) (Nat.lt_succ_self _)
