/-! GROUP H18: text of the class. -/
theorem take_rp35 {H H1 : ZH} {q : Nat → Int} (t : TakeSc H H1 35 30) (r : RepSc H 30 q) (h8 : q 1 ≤ 8) : RepSc H1 35 q := by
  obtain ⟨_, _, ⟨t0, t1, t6, t7, t8, t9, t10, t11⟩, ta⟩ := t
  obtain ⟨r0, r1, rc, r6, r7, r8, r9, r10, r11⟩ := r
  exact ⟨t0.trans r0, t1.trans r1, fun c hc => ⟨(ta 1 c (by omega) (by omega) (by omega)).trans (rc c hc).1, (ta 2 c (by omega) (by omega) (by omega)).trans (rc c hc).2.1, (ta 3 c (by omega) (by omega) (by omega)).trans (rc c hc).2.2.1, (ta 4 c (by omega) (by omega) (by omega)).trans (rc c hc).2.2.2⟩, t6.trans r6, t7.trans r7, t8.trans r8, t9.trans r9, t10.trans r10, t11.trans r11⟩
theorem take_lw {H H1 : ZH} {q : Nat → Int} {c : Nat} (t : TakeLw H H1 59 55) (ro : RepOp H c q) (rl : RepLn H q) (li : LwI q c) : RepLw H1 q ∧ H1.1 59 4 = (c : Int) := by
  obtain ⟨_, _, ⟨t0, t4⟩, ta, tb⟩ := t
  have h40 := li.1.1
  refine ⟨⟨t0.trans rl.1, fun l hl => ⟨((ta l (by omega)).1).trans (rl.2 l hl).1, ((ta l (by omega)).2).trans (rl.2 l hl).2, fun i hi => ?_⟩⟩, t4.trans ro.1⟩
  have mo := WFL_mono li ((q 40).toNat - 1 - l) l (by omega)
  have r1 := ro.1
  have e := tb i (by omega)
  rw [show 59 + 3 = 62 from rfl, show 55 + 3 = 58 from rfl] at e
  rw [e]
  exact ro.2 i (by omega)
def TcF (H H1 : ZH) : Prop := (∀ cc k, cc ≠ 28 → ¬ (30 ≤ cc ∧ cc ≤ 39) → ¬ (55 ≤ cc ∧ cc ≤ 62) → ¬ (cc = 20 ∧ (k = 1 ∨ k = 8)) → cc ≠ 25 → H1.1 cc k = H.1 cc k) ∧ H1.2 = H.2 ∧ H1.1 20 1 = 0
def TcB (H H1 : ZH) (r w p : Int) : Prop := w ≠ 0 ∧ r = -30 - w ∧ H1.1 28 2 = w ∧ H1.1 28 3 = p ∧ H1.1 25 = (bumpC 5 H).1 25 ∧ H1.1 20 8 = H.1 20 8 ∧ (∀ cc k, (35 ≤ cc ∧ cc ≤ 39) ∨ (59 ≤ cc ∧ cc ≤ 62) → H1.1 cc k = H.1 cc k)
def Tc0 (H H1 : ZH) (r : Int) (o : (Int × Nat) × (Nat → Int)) : Prop := TcF H H1 ∧ (TcB H H1 r o.1.1 (o.1.2 : Int) ∨ (o.1.1 = 0 ∧ r = o.2 39 ∧ H1.1 28 2 = 0 ∧ H1.1 28 3 = -1 ∧ H1.1 25 = H.1 25 ∧ H1.1 20 8 = 0 ∧ RepSc H1 35 o.2 ∧ WFS o.2 ∧ (∀ cc k, 59 ≤ cc ∧ cc ≤ 62 → H1.1 cc k = H.1 cc k)))
def Tc1 (H H1 : ZH) (r : Int) (o : Ox) : Prop := TcF H H1 ∧ (TcB H H1 r o.1.1 (o.1.2 : Int) ∨ (o.1.1 = 0 ∧ r = o.2.2 40 ∧ H1.1 28 2 = 0 ∧ H1.1 28 3 = -1 ∧ H1.1 25 = H.1 25 ∧ H1.1 20 8 = 0 ∧ RepLw H1 o.2.2 ∧ H1.1 59 4 = (o.2.1 : Int) ∧ LwI o.2.2 o.2.1 ∧ (∀ cc k, 35 ≤ cc ∧ cc ≤ 39 → H1.1 cc k = H.1 cc k)))
theorem k5_0 : (0 : Int) ≤ 0 ∧ (0 : Int) ≤ 5 := ⟨by decide, by decide⟩
theorem k5_2 : (0 : Int) ≤ 2 ∧ (2 : Int) ≤ 5 := ⟨by decide, by decide⟩
theorem k5_4 : (0 : Int) ≤ 4 ∧ (4 : Int) ≤ 5 := ⟨by decide, by decide⟩
theorem k5_5 : (0 : Int) ≤ 5 ∧ (5 : Int) ≤ 5 := ⟨by decide, by decide⟩
theorem pfW_w {T : Nat → Int} {n p : Nat} {a : Int} (ha : 0 ≤ a ∧ a ≤ 5) : 0 ≤ pfW T n a 0 p ∧ pfW T n a 0 p ≤ 5 := by
  have e : pfW T n a 0 p = if tkK T n p = 35 then 1 else a := if_pos rfl
  rw [e]
  split <;> omega
theorem pn_w {T : Nat → Int} {n : Nat} {a : Int} {o : Int × Nat} (h : 0 ≤ o.1 ∧ o.1 ≤ 5) : 0 ≤ (pn T n a o).1 ∧ (pn T n a o).1 ≤ 5 := by
  show 0 ≤ pnW T n a o.1 o.2 ∧ pnW T n a o.1 o.2 ≤ 5
  unfold pnW
  (repeat' split) <;> omega
theorem pt_w {T : Nat → Int} {n : Nat} {lo hi : Int} {o : Int × Nat} (h : 0 ≤ o.1 ∧ o.1 ≤ 5) : 0 ≤ (pt T n lo hi o).1 ∧ (pt T n lo hi o).1 ≤ 5 := by
  show 0 ≤ ptW T n lo hi o.1 o.2 ∧ ptW T n lo hi o.1 o.2 ≤ 5
  unfold ptW
  (repeat' split) <;> omega
theorem lnM_w (T : Nat → Int) (n p : Nat) (q : Nat → Int) : 0 ≤ (lnM T n p q).1.1 ∧ (lnM T n p q).1.1 ≤ 5 := by
  have z : (0 : Int) ≤ ((0, tkE T n p) : Int × Nat).1 ∧ ((0, tkE T n p) : Int × Nat).1 ≤ 5 := k5_0
  unfold lnM
  repeat' split
  all_goals first | exact pt_w z | exact k5_0 | exact k5_2 | exact k5_4 | exact k5_5 | exact pt_w (pn_w (pt_w (pn_w (pt_w (pn_w (pt_w z)))))) | exact pfW_w (by omega)
theorem lnL_w (T : Nat → Int) (n p : Nat) (q : Nat → Int) : 0 ≤ (lnL T n p q).1.1 ∧ (lnL T n p q).1.1 ≤ 5 := pn_w (lnM_w T n p q)
theorem scR_w {T : Nat → Int} {n : Nat} : ∀ f p (q : Nat → Int), 0 ≤ n → 0 ≤ (scR T n f p q).1.1 ∧ (scR T n f p q).1.1 ≤ 5 := by
  intro f
  induction f with
  | zero => intro p q _; first | exact k5_0 | exact k5_2 | exact k5_4 | exact k5_5
  | succ f ih =>
    intro p q h
    by_cases hk : tkK T n p = 34
    · rw [scR_e hk]; first | exact k5_0 | exact k5_2 | exact k5_4 | exact k5_5
    · by_cases hb : (lnL T n p q).1.1 = 0
      · rw [scR_g hk hb]; exact ih _ _ h
      · rw [scR_b hk hb]; exact lnL_w T n p q
theorem pX_w (T : Nat → Int) (n : Nat) : ∀ (f m dd p : Nat) (s : Sx), 0 ≤ (pX T n f m dd p s).1.1 ∧ (pX T n f m dd p s).1.1 ≤ 5 := by
  intro f
  induction f with
  | zero => intro m dd p s; first | exact k5_0 | exact k5_2 | exact k5_4 | exact k5_5
  | succ f ih =>
    intro m dd p s
    have hc : ∀ (op : Int) (b : Bool) (o : Ox) (k : Nat), (0 ≤ o.1.1 ∧ o.1.1 ≤ 5) → 0 ≤ (cnt T n op b o (pX T n f k dd)).1.1 ∧ (cnt T n op b o (pX T n f k dd)).1.1 ≤ 5 := by
      intro op b o k h
      unfold cnt
      split
      · exact h
      · split
        · exact ih _ _ _ _
        · exact h
    rcases (show m = 0 ∨ m = 1 ∨ m = 2 ∨ m = 3 ∨ 4 ≤ m by omega) with e | e | e | e | e
    · subst e
      by_cases hk : tkK T n p = 21 ∨ tkK T n p = 32
      · by_cases hd : dd = 8
        · subst hd
          rw [pX_0d hk]; first | exact k5_0 | exact k5_2 | exact k5_4 | exact k5_5
        · rcases hk with hk | hk
          · rw [pX_0n hk hd]; exact ih _ _ _ _
          · rw [pX_0o hk hd]; exact pn_w (ih _ _ _ _)
      · rw [pX_0s hk]
        have z : (0 : Int) ≤ ((0, tkE T n p) : Int × Nat).1 ∧ ((0, tkE T n p) : Int × Nat).1 ≤ 5 := k5_0
        unfold fcS
        repeat' split
        all_goals first | exact pt_w z | exact k5_0 | exact k5_2 | exact k5_4 | exact k5_5 | exact pfW_w (by omega)
    · subst e; rw [pX_1]; exact hc _ _ _ _ (ih _ _ _ _)
    · subst e; rw [pX_2]; exact hc _ _ _ _ (ih _ _ _ _)
    · subst e; rw [pX_3]; exact hc _ _ _ _ (ih _ _ _ _)
    · have e4 : pX T n (f + 1) m dd p s = cnt T n 19 true (pX T n f 1 dd p s) (pX T n f 4 dd) := (if_neg (by omega)).trans ((if_neg (by omega)).trans ((if_neg (by omega)).trans (if_neg (by omega))))
      rw [e4]; exact hc _ _ _ _ (ih _ _ _ _)
theorem lwL_w (T : Nat → Int) (n p : Nat) (s : Sx) : 0 ≤ (lwL T n p s).1.1 ∧ (lwL T n p s).1.1 ≤ 5 := by
  have z : (0 : Int) ≤ ((0, tkE T n p) : Int × Nat).1 ∧ ((0, tkE T n p) : Int × Nat).1 ≤ 5 := k5_0
  have ht : 0 ≤ (lwT T n p s).1.1 ∧ (lwT T n p s).1.1 ≤ 5 := by
    unfold lwT
    split
    · exact pX_w T n _ _ _ _ _
    · exact pn_w (pt_w z)
  unfold lwL
  repeat' split
  all_goals first | exact pn_w ht | exact k5_0 | exact k5_2 | exact k5_4 | exact k5_5 | exact pfW_w (by omega)
theorem lwR_w {T : Nat → Int} {n : Nat} : ∀ f p (s : Sx), 0 ≤ n → 0 ≤ (lwR T n f p s).1.1 ∧ (lwR T n f p s).1.1 ≤ 5 := by
  intro f
  induction f with
  | zero => intro p s _; first | exact k5_0 | exact k5_2 | exact k5_4 | exact k5_5
  | succ f ih =>
    intro p s h
    by_cases hk : tkK T n p = 34
    · rw [lwR_e hk]; first | exact k5_0 | exact k5_2 | exact k5_4 | exact k5_5
    · by_cases hb : (lwL T n p s).1.1 = 0
      · rw [lwR_g hk hb]; exact ih _ _ h
      · rw [lwR_b hk hb]; exact lwL_w T n p s

set_option maxHeartbeats 8000000 in
theorem c_X10_text_0 {d : Nat} {H : ZH} (ok : okZ H) {T f : Nat → Int} {t : Nat} {b : Int} (b1 : -2147483648 ≤ b) (b2 : b ≤ 2147483647) (ht4 : t ≤ 400) (cn : cntOK H 25) (ht : H.1 20 1 = (t : Int)) (htp : TpC H T t) : EvC zX (d + 23) mX10_text [.ref 20, .int (zN (0)), .int (zN (b))] (eh H) (zPi (fun (r : Int) (H1 : ZH) => (¬ (0 ≤ b ∧ b ≤ t) ∧ r = -3 ∧ H1 = bumpC 1 H) ∨ ((0 ≤ b ∧ b ≤ t) ∧ Tc0 H H1 r (scR T b.toNat 402 0 (plF f))))) := by
  show _ ∧ Ev zX mX10_text (EvC zX (d + 22)) (zPi (fun (r : Int) (H1 : ZH) => (¬ (0 ≤ b ∧ b ≤ t) ∧ r = -3 ∧ H1 = bumpC 1 H) ∨ ((0 ≤ b ∧ b ≤ t) ∧ Tc0 H H1 r (scR T b.toNat 402 0 (plF f))))) 0 [(0, .ref 20), (1, .int (zN (0))), (2, .int (zN (b)))] [] (eh H)
  refine ⟨Nat.le_of_ble_eq_true rfl, ?_⟩
  refine x_iload_n (pc := 0) dX10_text_0 (List.Mem.tail _ (List.Mem.head _)) ?_
  refine z_if_lt (pc := 1) (tgt := 9) dX10_text_1 (by decide) (by decide) (by decide) (fun h => absurd h (by decide)) (fun _ => ?_)
  refine x_iload_n (pc := 4) dX10_text_4 (List.Mem.tail _ (List.Mem.head _)) ?_
  refine z_iconst (pc := 5) dX10_text_5 ?_
  refine z_icmp_le (pc := 6) (tgt := 16) dX10_text_6 (by decide) (by decide) (by decide) (by decide) (by decide) (fun _ => ?_) (fun h => absurd h (by decide))
  refine x_iload_n (pc := 16) dX10_text_16 (List.Mem.tail _ (List.Mem.tail _ (List.Mem.head _))) ?_
  refine z_if_lt (pc := 17) (tgt := 28) dX10_text_17 (by decide) (by omega) (by omega) (fun hb3 => ?_) (fun hb3 => ?_)
  · skip
    have hno : ¬ (0 ≤ b ∧ b ≤ t) := by omega
    refine x_aload_n (pc := 28) dX10_text_28 (List.Mem.head _) ?_
    refine z_bipush (pc := 29) dX10_text_29 bp_m3 ?_
    refine z_callVip (pc := 31) (i := mX10_refuse) (S := []) [.int (zN ((-3)))] dX10_text_31 ml_X10_97 ok_X10_refuse rfl sh_20 rfl (Or.inl rfl) (Nat.le_of_ble_eq_true rfl) (c_X10_refuse (d := d + 21) (code := ((-3))) (code1 := (by omega)) (code2 := (by omega)) (ok := ok) (cn := (by first | assumption | omega))) (fun r4a r4b ok5 => ?_)
    show Ev _ _ _ _ _ _ _ (eh (wI H 25 ((refIx ((-3)))) (H.1 25 (refIx ((-3))) + 1)))
    refine z_ireturn (pc := 34) dX10_text_34 rfl (Or.inl rfl) ok5 (by omega) (by omega) ?_
    exact Or.inl ⟨hno, rfl, rfl⟩
  · skip
    refine x_iload_n (pc := 20) dX10_text_20 (List.Mem.tail _ (List.Mem.tail _ (List.Mem.head _))) ?_
    refine x_aload_n (pc := 21) dX10_text_21 (List.Mem.head _) ?_
    refine z_getI (pc := 22) (k := 1) (v := (t : Int)) dX10_text_22 lf_X10_93 sh_20 rfl ht ?_
    refine z_icmp_le (pc := 25) (tgt := 35) dX10_text_25 (by decide) (by omega) (by omega) (by omega) (by omega) (fun hb6 => ?_) (fun hb6 => ?_)
    · skip
      have hyes : 0 ≤ b ∧ b ≤ t := by omega
      obtain ⟨m, hm⟩ : ∃ m : Nat, b = (m : Int) := ⟨b.toNat, by omega⟩
      have hm4 : m ≤ 400 := by omega
      have htm : TpC (wI H 20 1 0) T m := TpC_c (wIf (by omega)) (fun k hk => htp k (by omega))
      refine x_aload_n (pc := 35) dX10_text_35 (List.Mem.head _) ?_
      refine z_iconst (pc := 36) dX10_text_36 ?_
      refine z_putI (pc := 37) (k := 1) dX10_text_37 lp_X10_93 sh_20 rfl ?_
      have ok7 := okI ok 20 1 (v := 0) (by decide) (by decide)
      refine x_iload_n (pc := 40) dX10_text_40 (List.Mem.tail _ (List.Mem.head _)) ?_
      refine z_if_ne (pc := 41) (tgt := 59) dX10_text_41 (by decide) (by decide) (by decide) (fun h => absurd h (by decide)) (fun _ => ?_)
      refine x_aload_n (pc := 44) dX10_text_44 (List.Mem.head _) ?_
      refine z_getR (pc := 45) (k := 2) (r := 28) dX10_text_45 lf_X10_16 sh_20 rfl rf_20_2 ?_
      refine x_aload_n (pc := 48) dX10_text_48 (List.Mem.head _) ?_
      refine z_getR (pc := 49) (k := 0) (r := 21) dX10_text_49 lf_X10_9 sh_20 rfl rf_20_0 ?_
      refine x_iload_n (pc := 52) dX10_text_52 (List.Mem.tail _ (List.Mem.tail _ (List.Mem.head _))) ?_
      refine z_callVi (pc := 53) (i := mX3_readScene) (S := []) [.ref 21, .int (zN (b))] dX10_text_53 ml_X10_105 ok_X3_readScene rfl sh_28 rfl (Or.inr rfl) (Nat.le_of_ble_eq_true rfl) (by have qz := c_X3_readScene (d := d + 16) (T := T) (f := f) (n := m) (hn := hm4) (ok := ok7) (htp := htm); rw [show ((m : Nat) : Int) = b by omega] at qz; exact qz) ?_
      intro r9 Hb r9a r9b ok10 hp11
      obtain ⟨o, ho⟩ : ∃ o, o = (scR T m 402 0 (plF f)) := ⟨_, rfl⟩
      rw [← ho] at hp11
      obtain ⟨p1, p2, p3⟩ := hp11
      have fr0 : ∀ cc k, cc ≠ 28 → ¬ (30 ≤ cc ∧ cc ≤ 34) → ¬ (55 ≤ cc ∧ cc ≤ 58) → ¬ (cc = 20 ∧ k = 1) → Hb.1 cc k = H.1 cc k := fun cc k g h i j => by rw [p3.1 cc k g h i, wIg, if_neg j]
      have e201 : Hb.1 20 1 = 0 := by rw [p3.1 20 1 (by omega) (by omega) (by omega), wI1]
      have cnb : cntOK Hb 25 := fun k hk => by rw [fr0 25 k (by omega) (by omega) (by omega) (by omega)]; exact cn k hk
      have eJ : Hb.2 = H.2 := p3.2
      have r01 : r9 = 0 ∨ r9 = 1 := by
        by_cases z : o.1.1 = 0
        · exact Or.inr (p1 z).1
        · exact Or.inl (p2 z).1
      have okb_ := ok10
      refine x_goto (pc := 56) (tgt := 71) dX10_text_56 (by decide) ?_
      refine x_istore_n (pc := 71) dX10_text_71 (Nat.le_of_ble_eq_true rfl) ?_
      show Ev _ _ _ _ _ [(3, .int (zN (r9))), (0, .ref 20), (1, .int (zN (0))), (2, .int (zN (b)))] _ _
      refine x_iload_n (pc := 72) dX10_text_72 (List.Mem.head _) ?_
      refine z_if_ne (pc := 73) (tgt := 91) dX10_text_73 (by decide) (by omega) (by omega) (fun hb12 => ?_) (fun hb12 => ?_)
      · skip
        have hw0 : o.1.1 = 0 := if z : o.1.1 = 0 then z else absurd (p2 z).1 hb12
        have hq := p1 hw0
        have hws : WFS o.2 := by have y := scR_bd 402 0 (plF f) (plF_WFS f) (Nat.zero_le m) hm4 (Int.le_refl _) (by rw [← ho]; exact hw0); rw [← ho] at y; exact y
        refine x_aload_n (pc := 91) dX10_text_91 (List.Mem.tail _ (List.Mem.head _)) ?_
        refine z_iconst (pc := 92) dX10_text_92 ?_
        refine z_putZ (pc := 93) (k := 8) dX10_text_93 lp_X10_115 sh_20 rfl (by omega) ?_
        have ok13 := okI ok10 20 8 (v := 0) (by decide) (by decide)
        refine x_iload_n (pc := 96) dX10_text_96 (List.Mem.tail _ (List.Mem.tail _ (List.Mem.head _))) ?_
        refine z_if_ne (pc := 97) (tgt := 128) dX10_text_97 (by decide) (by decide) (by decide) (fun h => absurd h (by decide)) (fun _ => ?_)
        refine x_aload_n (pc := 100) dX10_text_100 (List.Mem.tail _ (List.Mem.head _)) ?_
        refine z_getR (pc := 101) (k := 3) (r := 98) dX10_text_101 lf_X10_23 sh_20 rfl rf_20_3 ?_
        refine z_getR (pc := 104) (k := 0) (r := 35) dX10_text_104 lf_X10_37 sh_98 rfl rf_98_0 ?_
        refine x_aload_n (pc := 107) dX10_text_107 (List.Mem.tail _ (List.Mem.head _)) ?_
        refine z_getR (pc := 108) (k := 2) (r := 28) dX10_text_108 lf_X10_16 sh_20 rfl rf_20_2 ?_
        refine z_getR (pc := 111) (k := 0) (r := 30) dX10_text_111 lf_X10_119 sh_28 rfl rf_28_0 ?_
        refine z_callVv (pc := 114) (i := mX6_take) (S := []) [.ref 30] dX10_text_114 ml_X10_120 ok_X6_take rfl sh_35 rfl rfl (Nat.le_of_ble_eq_true rfl) (c_X6_take_35_30 (d := d + 21) (ok := ok13)) ?_
        intro Hd ok16 hp17
        have htk := hp17
        refine x_aload_n (pc := 117) dX10_text_117 (List.Mem.tail _ (List.Mem.head _)) ?_
        refine z_getR (pc := 118) (k := 3) (r := 98) dX10_text_118 lf_X10_23 sh_20 rfl rf_20_3 ?_
        refine z_getR (pc := 121) (k := 0) (r := 35) dX10_text_121 lf_X10_37 sh_98 rfl rf_98_0 ?_
        have z39 := hws.2.2.2.2.2.2.2.2
        refine z_getI (pc := 124) (k := 11) (v := (o.2 39)) dX10_text_124 lf_X10_124 sh_35 rfl (htk.2.2.1.2.2.2.2.2.2.2.trans ((wI1c (by omega)).trans hq.2.2.2.2.2.2.2.2.2.2.2)) ?_
        refine z_ireturn (pc := 127) dX10_text_127 rfl (Or.inl rfl) ok16 (by omega) (by omega) ?_
        refine Or.inr ⟨hyes, ?_⟩
        rw [show b.toNat = m by omega, ← ho]
        have hf : ∀ cc k, cc < 35 ∨ 39 < cc → Hd.1 cc k = (wI Hb 20 8 0).1 cc k := fun cc k h => congrFun (htk.2.1 cc h) k
        refine ⟨⟨fun cc k h1 h2 h3 h4 h5 => ?_, htk.1.trans eJ, ?_⟩, Or.inr ⟨hw0, rfl, ?_, ?_, ?_, ?_, ?_, hws, fun cc k h => ?_⟩⟩
        · rw [hf cc k (by omega), wIg, if_neg (by omega)]; exact fr0 cc k h1 (by omega) (by omega) (by omega)
        · rw [hf 20 1 (by omega), wI1k (by omega)]; exact e201
        · rw [hf 28 2 (by omega), wI1c (by omega)]; exact hq.2.1
        · rw [hf 28 3 (by omega), wI1c (by omega)]; exact hq.2.2.1
        · exact funext (fun k => by rw [hf 25 k (by omega), wI1c (by omega)]; exact fr0 25 k (by omega) (by omega) (by omega) (by omega))
        · rw [hf 20 8 (by omega), wI1]
        · exact take_rp35 htk (RepSc_cg (fun cc k h1 h2 => wI1c (by omega)) hq.2.2.2) hws.2.1.2
        · rw [hf cc k (by omega), wI1c (by omega)]; exact fr0 cc k (by omega) (by omega) (by omega) (by omega)
      · skip
        have hw0 : o.1.1 ≠ 0 := fun z => by have y := (p1 z).1; omega
        have hq := p2 hw0
        have erx : refIx (-30 - o.1.1) = 5 ∧ o.1.1 ≤ 5 ∧ 0 ≤ o.1.1 := by
          have y := okb_.1 28 2
          rw [hq.2.1] at y
          have z : 0 ≤ o.1.1 ∧ o.1.1 ≤ 5 := by rw [ho]; exact scR_w _ _ _ (Nat.zero_le m)
          refine ⟨?_, z.2, z.1⟩
          unfold refIx
          (repeat rw [if_neg (by omega)])
        refine x_aload_n (pc := 76) dX10_text_76 (List.Mem.tail _ (List.Mem.head _)) ?_
        refine z_bipush (pc := 77) dX10_text_77 bp_m30 ?_
        refine x_aload_n (pc := 79) dX10_text_79 (List.Mem.tail _ (List.Mem.head _)) ?_
        refine z_getR (pc := 80) (k := 2) (r := 28) dX10_text_80 lf_X10_16 sh_20 rfl rf_20_2 ?_
        refine z_getI (pc := 83) (k := 2) (v := (o.1.1)) dX10_text_83 lf_X10_112 sh_28 rfl hq.2.1 ?_
        refine z_isub (pc := 86) dX10_text_86 ?_
        refine z_callVip (pc := 87) (i := mX10_refuse) (S := []) [.int (zN (((-30) - ((o.1.1)))))] dX10_text_87 ml_X10_97 ok_X10_refuse rfl sh_20 rfl (Or.inl rfl) (Nat.le_of_ble_eq_true rfl) (c_X10_refuse (d := d + 21) (code := (((-30) - ((o.1.1))))) (code1 := (by omega)) (code2 := (by omega)) (ok := ok10) (cn := cnb)) (fun r18a r18b ok19 => ?_)
        show Ev _ _ _ _ _ _ _ (eh (wI Hb 25 ((refIx (((-30) - ((o.1.1)))))) (Hb.1 25 (refIx (((-30) - ((o.1.1))))) + 1)))
        refine z_ireturn (pc := 90) dX10_text_90 rfl (Or.inl rfl) ok19 (by omega) (by omega) ?_
        refine Or.inr ⟨hyes, ?_⟩
        rw [show b.toNat = m by omega, ← ho]
        refine ⟨⟨fun cc k h1 h2 h3 h4 h5 => ?_, eJ, ?_⟩, Or.inl ⟨hw0, rfl, ?_, ?_, ?_, ?_, fun cc k h => ?_⟩⟩
        · rw [wI1c h5]; exact fr0 cc k h1 (by omega) (by omega) (by omega)
        · rw [wI1c (by omega)]; exact e201
        · rw [wI1c (by omega)]; exact hq.2.1
        · rw [wI1c (by omega)]; exact hq.2.2
        · have e1 : Hb.1 25 = H.1 25 := funext (fun k => fr0 25 k (by omega) (by omega) (by omega) (by omega))
          rw [erx.1, wI_up, e1]; exact (wI_up H 25 5 _).symm
        · rw [wI1c (by omega)]; exact fr0 20 8 (by omega) (by omega) (by omega) (by omega)
        · rw [wI1c (by omega)]; exact fr0 cc k (by omega) (by omega) (by omega) (by omega)
    · skip
      have hno : ¬ (0 ≤ b ∧ b ≤ t) := by omega
      refine x_aload_n (pc := 28) dX10_text_28 (List.Mem.head _) ?_
      refine z_bipush (pc := 29) dX10_text_29 bp_m3 ?_
      refine z_callVip (pc := 31) (i := mX10_refuse) (S := []) [.int (zN ((-3)))] dX10_text_31 ml_X10_97 ok_X10_refuse rfl sh_20 rfl (Or.inl rfl) (Nat.le_of_ble_eq_true rfl) (c_X10_refuse (d := d + 21) (code := ((-3))) (code1 := (by omega)) (code2 := (by omega)) (ok := ok) (cn := (by first | assumption | omega))) (fun r20a r20b ok21 => ?_)
      show Ev _ _ _ _ _ _ _ (eh (wI H 25 ((refIx ((-3)))) (H.1 25 (refIx ((-3))) + 1)))
      refine z_ireturn (pc := 34) dX10_text_34 rfl (Or.inl rfl) ok21 (by omega) (by omega) ?_
      exact Or.inl ⟨hno, rfl, rfl⟩

set_option maxHeartbeats 8000000 in
theorem c_X10_text_1 {d : Nat} {H : ZH} (ok : okZ H) {T f : Nat → Int} {t : Nat} {b : Int} (b1 : -2147483648 ≤ b) (b2 : b ≤ 2147483647) (ht4 : t ≤ 400) (cn : cntOK H 25) (ht : H.1 20 1 = (t : Int)) (htp : TpC H T t) : EvC zX (d + 23) mX10_text [.ref 20, .int (zN (1)), .int (zN (b))] (eh H) (zPi (fun (r : Int) (H1 : ZH) => (¬ (0 ≤ b ∧ b ≤ t) ∧ r = -3 ∧ H1 = bumpC 1 H) ∨ ((0 ≤ b ∧ b ≤ t) ∧ Tc1 H H1 r (lwR T b.toNat 402 0 (0, plF f))))) := by
  show _ ∧ Ev zX mX10_text (EvC zX (d + 22)) (zPi (fun (r : Int) (H1 : ZH) => (¬ (0 ≤ b ∧ b ≤ t) ∧ r = -3 ∧ H1 = bumpC 1 H) ∨ ((0 ≤ b ∧ b ≤ t) ∧ Tc1 H H1 r (lwR T b.toNat 402 0 (0, plF f))))) 0 [(0, .ref 20), (1, .int (zN (1))), (2, .int (zN (b)))] [] (eh H)
  refine ⟨Nat.le_of_ble_eq_true rfl, ?_⟩
  refine x_iload_n (pc := 0) dX10_text_0 (List.Mem.tail _ (List.Mem.head _)) ?_
  refine z_if_lt (pc := 1) (tgt := 9) dX10_text_1 (by decide) (by decide) (by decide) (fun h => absurd h (by decide)) (fun _ => ?_)
  refine x_iload_n (pc := 4) dX10_text_4 (List.Mem.tail _ (List.Mem.head _)) ?_
  refine z_iconst (pc := 5) dX10_text_5 ?_
  refine z_icmp_le (pc := 6) (tgt := 16) dX10_text_6 (by decide) (by decide) (by decide) (by decide) (by decide) (fun _ => ?_) (fun h => absurd h (by decide))
  refine x_iload_n (pc := 16) dX10_text_16 (List.Mem.tail _ (List.Mem.tail _ (List.Mem.head _))) ?_
  refine z_if_lt (pc := 17) (tgt := 28) dX10_text_17 (by decide) (by omega) (by omega) (fun hb3 => ?_) (fun hb3 => ?_)
  · skip
    have hno : ¬ (0 ≤ b ∧ b ≤ t) := by omega
    refine x_aload_n (pc := 28) dX10_text_28 (List.Mem.head _) ?_
    refine z_bipush (pc := 29) dX10_text_29 bp_m3 ?_
    refine z_callVip (pc := 31) (i := mX10_refuse) (S := []) [.int (zN ((-3)))] dX10_text_31 ml_X10_97 ok_X10_refuse rfl sh_20 rfl (Or.inl rfl) (Nat.le_of_ble_eq_true rfl) (c_X10_refuse (d := d + 21) (code := ((-3))) (code1 := (by omega)) (code2 := (by omega)) (ok := ok) (cn := (by first | assumption | omega))) (fun r4a r4b ok5 => ?_)
    show Ev _ _ _ _ _ _ _ (eh (wI H 25 ((refIx ((-3)))) (H.1 25 (refIx ((-3))) + 1)))
    refine z_ireturn (pc := 34) dX10_text_34 rfl (Or.inl rfl) ok5 (by omega) (by omega) ?_
    exact Or.inl ⟨hno, rfl, rfl⟩
  · skip
    refine x_iload_n (pc := 20) dX10_text_20 (List.Mem.tail _ (List.Mem.tail _ (List.Mem.head _))) ?_
    refine x_aload_n (pc := 21) dX10_text_21 (List.Mem.head _) ?_
    refine z_getI (pc := 22) (k := 1) (v := (t : Int)) dX10_text_22 lf_X10_93 sh_20 rfl ht ?_
    refine z_icmp_le (pc := 25) (tgt := 35) dX10_text_25 (by decide) (by omega) (by omega) (by omega) (by omega) (fun hb6 => ?_) (fun hb6 => ?_)
    · skip
      have hyes : 0 ≤ b ∧ b ≤ t := by omega
      obtain ⟨m, hm⟩ : ∃ m : Nat, b = (m : Int) := ⟨b.toNat, by omega⟩
      have hm4 : m ≤ 400 := by omega
      have htm : TpC (wI H 20 1 0) T m := TpC_c (wIf (by omega)) (fun k hk => htp k (by omega))
      refine x_aload_n (pc := 35) dX10_text_35 (List.Mem.head _) ?_
      refine z_iconst (pc := 36) dX10_text_36 ?_
      refine z_putI (pc := 37) (k := 1) dX10_text_37 lp_X10_93 sh_20 rfl ?_
      have ok7 := okI ok 20 1 (v := 0) (by decide) (by decide)
      refine x_iload_n (pc := 40) dX10_text_40 (List.Mem.tail _ (List.Mem.head _)) ?_
      refine z_if_ne (pc := 41) (tgt := 59) dX10_text_41 (by decide) (by decide) (by decide) (fun _ => ?_) (fun h => absurd h (by decide))
      refine x_aload_n (pc := 59) dX10_text_59 (List.Mem.head _) ?_
      refine z_getR (pc := 60) (k := 2) (r := 28) dX10_text_60 lf_X10_16 sh_20 rfl rf_20_2 ?_
      refine x_aload_n (pc := 63) dX10_text_63 (List.Mem.head _) ?_
      refine z_getR (pc := 64) (k := 0) (r := 21) dX10_text_64 lf_X10_9 sh_20 rfl rf_20_0 ?_
      refine x_iload_n (pc := 67) dX10_text_67 (List.Mem.tail _ (List.Mem.tail _ (List.Mem.head _))) ?_
      refine z_callVi (pc := 68) (i := mX3_readLaw) (S := []) [.ref 21, .int (zN (b))] dX10_text_68 ml_X10_109 ok_X3_readLaw rfl sh_28 rfl (Or.inr rfl) (Nat.le_of_ble_eq_true rfl) (by have qz := c_X3_readLaw (d := d) (T := T) (f := f) (n := m) (hn := hm4) (ok := ok7) (htp := htm); rw [show ((m : Nat) : Int) = b by omega] at qz; exact qz) ?_
      intro r9 Hb r9a r9b ok10 hp11
      obtain ⟨o, ho⟩ : ∃ o, o = (lwR T m 402 0 (0, plF f)) := ⟨_, rfl⟩
      rw [← ho] at hp11
      obtain ⟨p1, p2, p3⟩ := hp11
      have fr0 : ∀ cc k, cc ≠ 28 → ¬ (30 ≤ cc ∧ cc ≤ 34) → ¬ (55 ≤ cc ∧ cc ≤ 58) → ¬ (cc = 20 ∧ k = 1) → Hb.1 cc k = H.1 cc k := fun cc k g h i j => by rw [p3.1 cc k g h i, wIg, if_neg j]
      have e201 : Hb.1 20 1 = 0 := by rw [p3.1 20 1 (by omega) (by omega) (by omega), wI1]
      have cnb : cntOK Hb 25 := fun k hk => by rw [fr0 25 k (by omega) (by omega) (by omega) (by omega)]; exact cn k hk
      have eJ : Hb.2 = H.2 := p3.2
      have r01 : r9 = 0 ∨ r9 = 1 := by
        by_cases z : o.1.1 = 0
        · exact Or.inr (p1 z).1
        · exact Or.inl (p2 z).1
      have okb_ := ok10
      refine x_istore_n (pc := 71) dX10_text_71 (Nat.le_of_ble_eq_true rfl) ?_
      show Ev _ _ _ _ _ [(3, .int (zN (r9))), (0, .ref 20), (1, .int (zN (1))), (2, .int (zN (b)))] _ _
      refine x_iload_n (pc := 72) dX10_text_72 (List.Mem.head _) ?_
      refine z_if_ne (pc := 73) (tgt := 91) dX10_text_73 (by decide) (by omega) (by omega) (fun hb12 => ?_) (fun hb12 => ?_)
      · skip
        have hw0 : o.1.1 = 0 := if z : o.1.1 = 0 then z else absurd (p2 z).1 hb12
        have hq := p1 hw0
        have hws : LwI o.2.2 o.2.1 := by have y := lwR_bd 402 0 (0, plF f) (plF_LwI f) (Nat.zero_le m) hm4 (Nat.le_refl _) (by rw [← ho]; exact hw0); rw [← ho] at y; exact y
        refine x_aload_n (pc := 91) dX10_text_91 (List.Mem.tail _ (List.Mem.head _)) ?_
        refine z_iconst (pc := 92) dX10_text_92 ?_
        refine z_putZ (pc := 93) (k := 8) dX10_text_93 lp_X10_115 sh_20 rfl (by omega) ?_
        have ok13 := okI ok10 20 8 (v := 0) (by decide) (by decide)
        refine x_iload_n (pc := 96) dX10_text_96 (List.Mem.tail _ (List.Mem.tail _ (List.Mem.head _))) ?_
        refine z_if_ne (pc := 97) (tgt := 128) dX10_text_97 (by decide) (by decide) (by decide) (fun _ => ?_) (fun h => absurd h (by decide))
        refine x_aload_n (pc := 128) dX10_text_128 (List.Mem.tail _ (List.Mem.head _)) ?_
        refine z_getR (pc := 129) (k := 3) (r := 98) dX10_text_129 lf_X10_23 sh_20 rfl rf_20_3 ?_
        refine z_getR (pc := 132) (k := 1) (r := 59) dX10_text_132 lf_X10_41 sh_98 rfl rf_98_1 ?_
        refine x_aload_n (pc := 135) dX10_text_135 (List.Mem.tail _ (List.Mem.head _)) ?_
        refine z_getR (pc := 136) (k := 2) (r := 28) dX10_text_136 lf_X10_16 sh_20 rfl rf_20_2 ?_
        refine z_getR (pc := 139) (k := 1) (r := 55) dX10_text_139 lf_X10_127 sh_28 rfl rf_28_1 ?_
        refine z_callVv (pc := 142) (i := mX1_take) (S := []) [.ref 55] dX10_text_142 ml_X10_128 ok_X1_take rfl sh_59 rfl rfl (Nat.le_of_ble_eq_true rfl) (c_X1_take_59_55 (d := d + 21) (ok := ok13) (hz := (by rw [wI1c (by omega)]; have y := hq.2.2.2.1.1; have y2 := hws.2.2; omega))) ?_
        intro Hd ok16 hp17
        have htk := hp17
        refine x_aload_n (pc := 145) dX10_text_145 (List.Mem.tail _ (List.Mem.head _)) ?_
        refine z_getR (pc := 146) (k := 3) (r := 98) dX10_text_146 lf_X10_23 sh_20 rfl rf_20_3 ?_
        refine z_getR (pc := 149) (k := 1) (r := 59) dX10_text_149 lf_X10_41 sh_98 rfl rf_98_1 ?_
        have z40 := hws.1.1
        refine z_getI (pc := 152) (k := 0) (v := (o.2.2 40)) dX10_text_152 lf_X10_133 sh_59 rfl (htk.2.2.1.1.trans ((wI1c (by omega)).trans hq.2.2.2.2.1)) ?_
        refine z_ireturn (pc := 155) dX10_text_155 rfl (Or.inl rfl) ok16 (by omega) (by omega) ?_
        refine Or.inr ⟨hyes, ?_⟩
        rw [show b.toNat = m by omega, ← ho]
        have hf : ∀ cc k, cc < 59 ∨ 62 < cc → Hd.1 cc k = (wI Hb 20 8 0).1 cc k := fun cc k h => congrFun (htk.2.1 cc h) k
        have hl := take_lw htk (c := o.2.1) (q := o.2.2) ⟨(wI1c (by omega)).trans hq.2.2.2.1.1, fun i hi => (wI1c (by omega)).trans (hq.2.2.2.1.2 i hi)⟩ (RepLn_cg (fun cc k h => wI1c (by omega)) hq.2.2.2.2) hws
        refine ⟨⟨fun cc k h1 h2 h3 h4 h5 => ?_, htk.1.trans eJ, ?_⟩, Or.inr ⟨hw0, rfl, ?_, ?_, ?_, ?_, hl.1, hl.2, hws, fun cc k h => ?_⟩⟩
        · rw [hf cc k (by omega), wIg, if_neg (by omega)]; exact fr0 cc k h1 (by omega) (by omega) (by omega)
        · rw [hf 20 1 (by omega), wI1k (by omega)]; exact e201
        · rw [hf 28 2 (by omega), wI1c (by omega)]; exact hq.2.1
        · rw [hf 28 3 (by omega), wI1c (by omega)]; exact hq.2.2.1
        · exact funext (fun k => by rw [hf 25 k (by omega), wI1c (by omega)]; exact fr0 25 k (by omega) (by omega) (by omega) (by omega))
        · rw [hf 20 8 (by omega), wI1]
        · rw [hf cc k (by omega), wI1c (by omega)]; exact fr0 cc k (by omega) (by omega) (by omega) (by omega)
      · skip
        have hw0 : o.1.1 ≠ 0 := fun z => by have y := (p1 z).1; omega
        have hq := p2 hw0
        have erx : refIx (-30 - o.1.1) = 5 ∧ o.1.1 ≤ 5 ∧ 0 ≤ o.1.1 := by
          have y := okb_.1 28 2
          rw [hq.2.1] at y
          have z : 0 ≤ o.1.1 ∧ o.1.1 ≤ 5 := by rw [ho]; exact lwR_w _ _ _ (Nat.zero_le m)
          refine ⟨?_, z.2, z.1⟩
          unfold refIx
          (repeat rw [if_neg (by omega)])
        refine x_aload_n (pc := 76) dX10_text_76 (List.Mem.tail _ (List.Mem.head _)) ?_
        refine z_bipush (pc := 77) dX10_text_77 bp_m30 ?_
        refine x_aload_n (pc := 79) dX10_text_79 (List.Mem.tail _ (List.Mem.head _)) ?_
        refine z_getR (pc := 80) (k := 2) (r := 28) dX10_text_80 lf_X10_16 sh_20 rfl rf_20_2 ?_
        refine z_getI (pc := 83) (k := 2) (v := (o.1.1)) dX10_text_83 lf_X10_112 sh_28 rfl hq.2.1 ?_
        refine z_isub (pc := 86) dX10_text_86 ?_
        refine z_callVip (pc := 87) (i := mX10_refuse) (S := []) [.int (zN (((-30) - ((o.1.1)))))] dX10_text_87 ml_X10_97 ok_X10_refuse rfl sh_20 rfl (Or.inl rfl) (Nat.le_of_ble_eq_true rfl) (c_X10_refuse (d := d + 21) (code := (((-30) - ((o.1.1))))) (code1 := (by omega)) (code2 := (by omega)) (ok := ok10) (cn := cnb)) (fun r18a r18b ok19 => ?_)
        show Ev _ _ _ _ _ _ _ (eh (wI Hb 25 ((refIx (((-30) - ((o.1.1)))))) (Hb.1 25 (refIx (((-30) - ((o.1.1))))) + 1)))
        refine z_ireturn (pc := 90) dX10_text_90 rfl (Or.inl rfl) ok19 (by omega) (by omega) ?_
        refine Or.inr ⟨hyes, ?_⟩
        rw [show b.toNat = m by omega, ← ho]
        refine ⟨⟨fun cc k h1 h2 h3 h4 h5 => ?_, eJ, ?_⟩, Or.inl ⟨hw0, rfl, ?_, ?_, ?_, ?_, fun cc k h => ?_⟩⟩
        · rw [wI1c h5]; exact fr0 cc k h1 (by omega) (by omega) (by omega)
        · rw [wI1c (by omega)]; exact e201
        · rw [wI1c (by omega)]; exact hq.2.1
        · rw [wI1c (by omega)]; exact hq.2.2
        · have e1 : Hb.1 25 = H.1 25 := funext (fun k => fr0 25 k (by omega) (by omega) (by omega) (by omega))
          rw [erx.1, wI_up, e1]; exact (wI_up H 25 5 _).symm
        · rw [wI1c (by omega)]; exact fr0 20 8 (by omega) (by omega) (by omega) (by omega)
        · rw [wI1c (by omega)]; exact fr0 cc k (by omega) (by omega) (by omega) (by omega)
    · skip
      have hno : ¬ (0 ≤ b ∧ b ≤ t) := by omega
      refine x_aload_n (pc := 28) dX10_text_28 (List.Mem.head _) ?_
      refine z_bipush (pc := 29) dX10_text_29 bp_m3 ?_
      refine z_callVip (pc := 31) (i := mX10_refuse) (S := []) [.int (zN ((-3)))] dX10_text_31 ml_X10_97 ok_X10_refuse rfl sh_20 rfl (Or.inl rfl) (Nat.le_of_ble_eq_true rfl) (c_X10_refuse (d := d + 21) (code := ((-3))) (code1 := (by omega)) (code2 := (by omega)) (ok := ok) (cn := (by first | assumption | omega))) (fun r20a r20b ok21 => ?_)
      show Ev _ _ _ _ _ _ _ (eh (wI H 25 ((refIx ((-3)))) (H.1 25 (refIx ((-3))) + 1)))
      refine z_ireturn (pc := 34) dX10_text_34 rfl (Or.inl rfl) ok21 (by omega) (by omega) ?_
      exact Or.inl ⟨hno, rfl, rfl⟩

set_option maxHeartbeats 8000000 in
theorem c_X10_text_x {d : Nat} {H : ZH} (ok : okZ H) {a b : Int} (a1 : -2147483648 ≤ a) (a2 : a ≤ 2147483647) (b1 : -2147483648 ≤ b) (b2 : b ≤ 2147483647) (ha : ¬ (0 ≤ a ∧ a ≤ 1)) (cn : cntOK H 25) : EvC zX (d + 23) mX10_text [.ref 20, .int (zN (a)), .int (zN (b))] (eh H) (zPi (fun (r : Int) (H1 : ZH) => r = -2 ∧ H1 = bumpC 0 H)) := by
  show _ ∧ Ev zX mX10_text (EvC zX (d + 22)) (zPi (fun (r : Int) (H1 : ZH) => r = -2 ∧ H1 = bumpC 0 H)) 0 [(0, .ref 20), (1, .int (zN (a))), (2, .int (zN (b)))] [] (eh H)
  refine ⟨Nat.le_of_ble_eq_true rfl, ?_⟩
  refine x_iload_n (pc := 0) dX10_text_0 (List.Mem.tail _ (List.Mem.head _)) ?_
  refine z_if_lt (pc := 1) (tgt := 9) dX10_text_1 (by decide) (by omega) (by omega) (fun hb1 => ?_) (fun hb1 => ?_)
  · skip
    refine x_aload_n (pc := 9) dX10_text_9 (List.Mem.head _) ?_
    refine z_bipush (pc := 10) dX10_text_10 bp_m2 ?_
    refine z_callVip (pc := 12) (i := mX10_refuse) (S := []) [.int (zN ((-2)))] dX10_text_12 ml_X10_97 ok_X10_refuse rfl sh_20 rfl (Or.inl rfl) (Nat.le_of_ble_eq_true rfl) (c_X10_refuse (d := d + 21) (code := ((-2))) (code1 := (by omega)) (code2 := (by omega)) (ok := ok) (cn := (by first | assumption | omega))) (fun r2a r2b ok3 => ?_)
    show Ev _ _ _ _ _ _ _ (eh (wI H 25 ((refIx ((-2)))) (H.1 25 (refIx ((-2))) + 1)))
    refine z_ireturn (pc := 15) dX10_text_15 rfl (Or.inl rfl) ok3 (by omega) (by omega) ?_
    exact ⟨rfl, rfl⟩
  · skip
    refine x_iload_n (pc := 4) dX10_text_4 (List.Mem.tail _ (List.Mem.head _)) ?_
    refine z_iconst (pc := 5) dX10_text_5 ?_
    refine z_icmp_le (pc := 6) (tgt := 16) dX10_text_6 (by decide) (by omega) (by omega) (by decide) (by decide) (fun hb4 => ?_) (fun hb4 => ?_)
    · skip
      exact absurd hb4 (by omega)
    · skip
      refine x_aload_n (pc := 9) dX10_text_9 (List.Mem.head _) ?_
      refine z_bipush (pc := 10) dX10_text_10 bp_m2 ?_
      refine z_callVip (pc := 12) (i := mX10_refuse) (S := []) [.int (zN ((-2)))] dX10_text_12 ml_X10_97 ok_X10_refuse rfl sh_20 rfl (Or.inl rfl) (Nat.le_of_ble_eq_true rfl) (c_X10_refuse (d := d + 21) (code := ((-2))) (code1 := (by omega)) (code2 := (by omega)) (ok := ok) (cn := (by first | assumption | omega))) (fun r5a r5b ok6 => ?_)
      show Ev _ _ _ _ _ _ _ (eh (wI H 25 ((refIx ((-2)))) (H.1 25 (refIx ((-2))) + 1)))
      refine z_ireturn (pc := 15) dX10_text_15 rfl (Or.inl rfl) ok6 (by omega) (by omega) ?_
      exact ⟨rfl, rfl⟩
