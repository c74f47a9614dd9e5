/-! GROUP G34: a car left out. -/
/-- the scene without car c -/
def lvo (q : Nat → Int) (c j : Nat) : Int := if j = 1 then q 1 - 1 else if (2 ≤ j ∧ j < 34) ∧ c ≤ (j - 2) % 8 then q (j + 1) else q j
theorem lvo_1 (q : Nat → Int) (c : Nat) : lvo q c 1 = q 1 - 1 := if_pos rfl
theorem lvo_o {q : Nat → Int} {c j : Nat} (h : j = 0 ∨ 34 ≤ j) : lvo q c j = q j := by
  unfold lvo
  rw [if_neg (by omega), if_neg (by omega)]
theorem lvo_c {q : Nat → Int} {c b i : Nat} (hb : b = 2 ∨ b = 10 ∨ b = 18 ∨ b = 26) (hi : i < 8) : lvo q c (b + i) = if i < c then q (b + i) else q (b + (i + 1)) := by
  have e : (b + i - 2) % 8 = i := by omega
  unfold lvo
  rw [if_neg (by omega), e]
  by_cases z : i < c
  · rw [if_pos z, if_neg (by omega)]
  · rw [if_neg z, if_pos (by omega)]
    rfl
theorem lvo_ws {q : Nat → Int} {c : Nat} (ws : WFS q) (hc : (c : Int) < q 1) : WFS (lvo q c) := by
  obtain ⟨h0, h1, hC, hR⟩ := ws
  have e := fun j (h : j = 0 ∨ 34 ≤ j) => lvo_o (q := q) (c := c) h
  refine ⟨by rw [e 0 (by omega)]; exact h0, by rw [lvo_1]; omega, fun i hi => ?_, by rw [e 34 (by omega), e 35 (by omega), e 36 (by omega), e 37 (by omega), e 38 (by omega), e 39 (by omega)]; exact hR⟩
  rw [lvo_1] at hi
  rw [lvo_c (b := 2) (by omega) (by omega), lvo_c (b := 10) (by omega) (by omega), lvo_c (b := 18) (by omega) (by omega), lvo_c (b := 26) (by omega) (by omega), e 0 (by omega)]
  by_cases z : i < c
  · rw [if_pos z, if_pos z, if_pos z, if_pos z]
    exact hC i (by omega)
  · rw [if_neg z, if_neg z, if_neg z, if_neg z]
    exact hC (i + 1) (by omega)
theorem lvo_wl {q : Nat → Int} {c : Nat} (wl : WFL q) : WFL (lvo q c) := by
  have e : ∀ j, 40 ≤ j → lvo q c j = q j := fun j hj => lvo_o (by omega)
  have er := rdep_cg (A := q) (B := lvo q c) (fun j hj => e j (by omega))
  unfold WFL at wl ⊢
  rw [e 40 (by omega)]
  refine ⟨wl.1, fun l hl => ?_⟩
  obtain ⟨h1, h2, h3, h4, h5⟩ := wl.2 l hl
  rw [e (41 + l) (by omega), e (53 + l) (by omega), e (65 + l) (by omega), er, e (65 + (l - 1)) (by omega)]
  refine ⟨h1, h2, h3, h4, fun n hn => ?_⟩
  rw [er, e (77 + 2 * ((q (53 + l)).toNat + n)) (by omega), e (78 + 2 * ((q (53 + l)).toNat + n)) (by omega)]
  exact h5 n hn
theorem lvo_lw {H : ZH} {q : Nat → Int} {c : Nat} (r : RepLw H q) : RepLw H (lvo q c) := by
  have e : ∀ j, 40 ≤ j → lvo q c j = q j := fun j h => lvo_o (by omega)
  unfold RepLw at r ⊢
  rw [e 40 (by omega)]
  refine ⟨r.1, fun l hl => ?_⟩
  obtain ⟨a, b, d⟩ := r.2 l hl
  rw [e (41 + l) (by omega), e (65 + l) (by omega)]
  exact ⟨a, b, fun j hj => by rw [e (77 + 2 * j) (by omega), e (78 + 2 * j) (by omega)]; exact d j hj⟩
/-- what leaving car c out makes of scene s -/
def LvP (H H1 : ZH) (s c : Nat) (n : Int) : Prop := H1.2 = H.2 ∧ H1.1 s 1 = n - 1 ∧ (∀ i j : Nat, 1 ≤ i → i ≤ 4 → (j : Int) < n - 1 → H1.1 (s + i) j = if j < c then H.1 (s + i) j else H.1 (s + i) (j + 1)) ∧ (∀ k, k ≠ 1 → H1.1 s k = H.1 s k) ∧ ∀ cc, cc < s ∨ s + 4 < cc → H1.1 cc = H.1 cc
theorem lvo_rep {H H1 : ZH} {q : Nat → Int} {c : Nat} (ws : WFS q) (hc : (c : Int) < q 1) (r : RepSc H 50 q) (h : LvP H H1 50 c (q 1)) : RepSc H1 50 (lvo q c) := by
  obtain ⟨_, l1, lc, lk, _⟩ := h
  obtain ⟨r0, r1, rC, r34, r35, r36, r37, r38, r39⟩ := r
  have w1 := ws.2.1
  have e := fun j (h : j = 0 ∨ 34 ≤ j) => lvo_o (q := q) (c := c) h
  refine ⟨by rw [lk 0 (by omega), e 0 (by omega)]; exact r0, by rw [l1, lvo_1], fun i hi => ?_, by rw [lk 6 (by omega), e 34 (by omega)]; exact r34, by rw [lk 7 (by omega), e 35 (by omega)]; exact r35, by rw [lk 8 (by omega), e 36 (by omega)]; exact r36, by rw [lk 9 (by omega), e 37 (by omega)]; exact r37, by rw [lk 10 (by omega), e 38 (by omega)]; exact r38, by rw [lk 11 (by omega), e 39 (by omega)]; exact r39⟩
  rw [lvo_1] at hi
  rw [lvo_c (b := 2) (by omega) (by omega), lvo_c (b := 10) (by omega) (by omega), lvo_c (b := 18) (by omega) (by omega), lvo_c (b := 26) (by omega) (by omega), lc 1 i (by omega) (by omega) hi, lc 2 i (by omega) (by omega) hi, lc 3 i (by omega) (by omega) hi, lc 4 i (by omega) (by omega) hi]
  by_cases z : i < c
  · rw [if_pos z, if_pos z, if_pos z, if_pos z, if_pos z, if_pos z, if_pos z, if_pos z]
    exact rC i (by omega)
  · rw [if_neg z, if_neg z, if_neg z, if_neg z, if_neg z, if_neg z, if_neg z, if_neg z]
    exact rC (i + 1) (by omega)
theorem FrP_lv {H H1 : ZH} {c : Nat} {n : Int} (h : LvP H H1 50 c n) : FrP H H1 := ⟨fun cc k a _ _ => by rw [h.2.2.2.2 cc (by omega)], fun cc k _ _ _ => by rw [h.1]⟩

theorem c_X6_leaveOut {d : Nat} {H : ZH} (ok : okZ H) {c : Nat} {n : Int} (hn : 1 ≤ n ∧ n ≤ 8) (hc : (c : Int) < n) (h1 : H.1 50 1 = n) : EvC zX (d + 1) mX6_leaveOut [.ref 50, .int (zN ((c : Int)))] (eh H) (zPv (fun (H1 : ZH) => LvP H H1 50 c n)) := by
  show _ ∧ Ev zX mX6_leaveOut (EvC zX d) (zPv (fun (H1 : ZH) => LvP H H1 50 c n)) 0 [(0, .ref 50), (1, .int (zN ((c : Int))))] [] (eh H)
  refine ⟨Nat.le_of_ble_eq_true rfl, ?_⟩
  refine x_iload_n (pc := 0) dX6_leaveOut_0 (List.Mem.tail _ (List.Mem.head _)) ?_
  refine x_istore_n (pc := 1) dX6_leaveOut_1 (Nat.le_of_ble_eq_true rfl) ?_
  show Ev _ _ _ _ _ [(2, .int (zN ((c : Int)))), (0, .ref 50), (1, .int (zN ((c : Int))))] _ _
  have lp2 : ∀ (nF : Nat) (k : Nat) (Hm : ZH), okZ Hm → (c ≤ k ∧ (k : Int) < n) → (∀ i j : Nat, 1 ≤ i → i ≤ 4 → Hm.1 (50 + i) j = if c ≤ j ∧ j < k then H.1 (50 + i) (j + 1) else H.1 (50 + i) j) → (Hm.2 = H.2) → (∀ cc, cc ≤ 50 ∨ 54 < cc → Hm.1 cc = H.1 cc) → 8 - k < nF → Ev zX mX6_leaveOut (EvC zX d) (zPv (fun (H1 : ZH) => LvP H H1 50 c n)) 2 [(0, .ref 50), (1, .int (zN ((c : Int)))), (2, .int (zN ((k : Int))))] [] (eh Hm) := by
    intro nF
    induction nF with
    | zero => intro k Hm okl2 hk iv m2 mo hm; exact absurd hm (Nat.not_lt_zero _)
    | succ nF ih2 =>
      intro k Hm okl2 hk iv m2 mo hm
      have m50 : Hm.1 50 1 = n := by rw [mo 50 (by omega)]; exact h1
      refine x_iload_n (pc := 2) dX6_leaveOut_2 (List.Mem.tail _ (List.Mem.tail _ (List.Mem.head _))) ?_
      refine z_iconst (pc := 3) dX6_leaveOut_3 ?_
      refine z_iadd (pc := 4) dX6_leaveOut_4 ?_
      refine x_aload_n (pc := 5) dX6_leaveOut_5 (List.Mem.head _) ?_
      refine z_getI (pc := 6) (k := 1) (v := n) dX6_leaveOut_6 lf_X6_37 sh_50 rfl m50 ?_
      refine z_icmp_ge (pc := 9) (tgt := 74) dX6_leaveOut_9 (by decide) (by omega) (by omega) (by omega) (by omega) (fun hb1 => ?_) (fun hb1 => ?_)
      · skip
        refine x_aload_n (pc := 74) dX6_leaveOut_74 (List.Mem.head _) ?_
        refine x_dup (pc := 75) dX6_leaveOut_75 rfl ?_
        refine z_getI (pc := 76) (k := 1) (v := n) dX6_leaveOut_76 lf_X6_37 sh_50 rfl m50 ?_
        refine z_iconst (pc := 79) dX6_leaveOut_79 ?_
        refine z_isub (pc := 80) dX6_leaveOut_80 ?_
        refine z_putI (pc := 81) (k := 1) dX6_leaveOut_81 lp_X6_37 sh_50 rfl ?_
        have ok2 := okI okl2 50 1 (v := (n - 1)) (by omega) (by omega)
        refine z_vreturn (pc := 84) dX6_leaveOut_84 rfl ok2 ?_
        refine ⟨m2, wI1 _ _ _ _, fun i j a b hj => ?_, fun k hk => ?_, fun cc h => ?_⟩
        · rw [wI1c (by omega), iv i j a b]
          by_cases z : j < c
          · rw [if_pos z, if_neg (by omega)]
          · rw [if_neg z, if_pos (by omega)]
        · rw [wI1k hk, mo 50 (by omega)]
        · rw [wIf (by omega)]; exact mo cc (by omega)
      · skip
        have o1 := ok.1 51 (k + 1)
        have o2 := ok.1 52 (k + 1)
        have o3 := ok.1 53 (k + 1)
        have o4 := ok.1 54 (k + 1)
        refine x_aload_n (pc := 12) dX6_leaveOut_12 (List.Mem.head _) ?_
        refine z_getR (pc := 13) (k := 2) (r := 51) dX6_leaveOut_13 lf_X6_15 sh_50 rfl rf_50_2 ?_
        refine x_iload_n (pc := 16) dX6_leaveOut_16 (List.Mem.tail _ (List.Mem.tail _ (List.Mem.head _))) ?_
        refine x_aload_n (pc := 17) dX6_leaveOut_17 (List.Mem.head _) ?_
        refine z_getR (pc := 18) (k := 2) (r := 51) dX6_leaveOut_18 lf_X6_15 sh_50 rfl rf_50_2 ?_
        refine x_iload_n (pc := 21) dX6_leaveOut_21 (List.Mem.tail _ (List.Mem.tail _ (List.Mem.head _))) ?_
        refine z_iconst (pc := 22) dX6_leaveOut_22 ?_
        refine z_iadd (pc := 23) dX6_leaveOut_23 ?_
        refine z_iald (pc := 24) (j := k + 1) (v := (H.1 51 (k + 1))) dX6_leaveOut_24 sh_51 (by omega) (by omega) (by decide) (by (repeat rw [wI1c (by omega)]); rw [show 51 = 50 + 1 from rfl, iv 1 (k + 1) (by omega) (by omega), if_neg (by omega)]) ?_
        refine z_iast (pc := 25) (j := k) (v := ((H.1 51 (k + 1)))) dX6_leaveOut_25 sh_51 rfl (by omega) (by decide) ?_
        have ok3 := okI okl2 51 k (v := ((H.1 51 (k + 1)))) (by omega) (by omega)
        refine x_aload_n (pc := 26) dX6_leaveOut_26 (List.Mem.head _) ?_
        refine z_getR (pc := 27) (k := 3) (r := 52) dX6_leaveOut_27 lf_X6_19 sh_50 rfl rf_50_3 ?_
        refine x_iload_n (pc := 30) dX6_leaveOut_30 (List.Mem.tail _ (List.Mem.tail _ (List.Mem.head _))) ?_
        refine x_aload_n (pc := 31) dX6_leaveOut_31 (List.Mem.head _) ?_
        refine z_getR (pc := 32) (k := 3) (r := 52) dX6_leaveOut_32 lf_X6_19 sh_50 rfl rf_50_3 ?_
        refine x_iload_n (pc := 35) dX6_leaveOut_35 (List.Mem.tail _ (List.Mem.tail _ (List.Mem.head _))) ?_
        refine z_iconst (pc := 36) dX6_leaveOut_36 ?_
        refine z_iadd (pc := 37) dX6_leaveOut_37 ?_
        refine z_iald (pc := 38) (j := k + 1) (v := (H.1 52 (k + 1))) dX6_leaveOut_38 sh_52 (by omega) (by omega) (by decide) (by (repeat rw [wI1c (by omega)]); rw [show 52 = 50 + 2 from rfl, iv 2 (k + 1) (by omega) (by omega), if_neg (by omega)]) ?_
        refine z_iast (pc := 39) (j := k) (v := ((H.1 52 (k + 1)))) dX6_leaveOut_39 sh_52 rfl (by omega) (by decide) ?_
        have ok4 := okI ok3 52 k (v := ((H.1 52 (k + 1)))) (by omega) (by omega)
        refine x_aload_n (pc := 40) dX6_leaveOut_40 (List.Mem.head _) ?_
        refine z_getR (pc := 41) (k := 4) (r := 53) dX6_leaveOut_41 lf_X6_22 sh_50 rfl rf_50_4 ?_
        refine x_iload_n (pc := 44) dX6_leaveOut_44 (List.Mem.tail _ (List.Mem.tail _ (List.Mem.head _))) ?_
        refine x_aload_n (pc := 45) dX6_leaveOut_45 (List.Mem.head _) ?_
        refine z_getR (pc := 46) (k := 4) (r := 53) dX6_leaveOut_46 lf_X6_22 sh_50 rfl rf_50_4 ?_
        refine x_iload_n (pc := 49) dX6_leaveOut_49 (List.Mem.tail _ (List.Mem.tail _ (List.Mem.head _))) ?_
        refine z_iconst (pc := 50) dX6_leaveOut_50 ?_
        refine z_iadd (pc := 51) dX6_leaveOut_51 ?_
        refine z_iald (pc := 52) (j := k + 1) (v := (H.1 53 (k + 1))) dX6_leaveOut_52 sh_53 (by omega) (by omega) (by decide) (by (repeat rw [wI1c (by omega)]); rw [show 53 = 50 + 3 from rfl, iv 3 (k + 1) (by omega) (by omega), if_neg (by omega)]) ?_
        refine z_iast (pc := 53) (j := k) (v := ((H.1 53 (k + 1)))) dX6_leaveOut_53 sh_53 rfl (by omega) (by decide) ?_
        have ok5 := okI ok4 53 k (v := ((H.1 53 (k + 1)))) (by omega) (by omega)
        refine x_aload_n (pc := 54) dX6_leaveOut_54 (List.Mem.head _) ?_
        refine z_getR (pc := 55) (k := 5) (r := 54) dX6_leaveOut_55 lf_X6_25 sh_50 rfl rf_50_5 ?_
        refine x_iload_n (pc := 58) dX6_leaveOut_58 (List.Mem.tail _ (List.Mem.tail _ (List.Mem.head _))) ?_
        refine x_aload_n (pc := 59) dX6_leaveOut_59 (List.Mem.head _) ?_
        refine z_getR (pc := 60) (k := 5) (r := 54) dX6_leaveOut_60 lf_X6_25 sh_50 rfl rf_50_5 ?_
        refine x_iload_n (pc := 63) dX6_leaveOut_63 (List.Mem.tail _ (List.Mem.tail _ (List.Mem.head _))) ?_
        refine z_iconst (pc := 64) dX6_leaveOut_64 ?_
        refine z_iadd (pc := 65) dX6_leaveOut_65 ?_
        refine z_iald (pc := 66) (j := k + 1) (v := (H.1 54 (k + 1))) dX6_leaveOut_66 sh_54 (by omega) (by omega) (by decide) (by (repeat rw [wI1c (by omega)]); rw [show 54 = 50 + 4 from rfl, iv 4 (k + 1) (by omega) (by omega), if_neg (by omega)]) ?_
        refine z_iast (pc := 67) (j := k) (v := ((H.1 54 (k + 1)))) dX6_leaveOut_67 sh_54 rfl (by omega) (by decide) ?_
        have ok6 := okI ok5 54 k (v := ((H.1 54 (k + 1)))) (by omega) (by omega)
        refine z_iinc (pc := 68) dX6_leaveOut_68 (List.Mem.tail _ (List.Mem.tail _ (List.Mem.head _))) (Nat.le_of_ble_eq_true rfl) ?_
        show Ev _ _ _ _ _ [(2, .int (zN ((k : Int) + 1))), (0, .ref 50), (1, .int (zN ((c : Int))))] _ _
        refine x_goto (pc := 71) (tgt := 2) dX6_leaveOut_71 (by decide) ?_
        refine x_weaken (L1 := [(0, .ref 50), (1, .int (zN ((c : Int)))), (2, .int (zN ((((k + 1) : Nat) : Int))))]) (List.forall_mem_cons.mpr ⟨(List.Mem.tail _ (List.Mem.head _)), (List.forall_mem_cons.mpr ⟨(List.Mem.tail _ (List.Mem.tail _ (List.Mem.head _))), (List.forall_mem_cons.mpr ⟨(mem_ci (by omega) (List.Mem.head _)), (fun _ h => absurd h List.not_mem_nil)⟩)⟩)⟩) ?_
        exact ih2 ((k + 1)) (wI (wI (wI (wI Hm 51 k (((H.1 51 (k + 1))))) 52 k (((H.1 52 (k + 1))))) 53 k (((H.1 53 (k + 1))))) 54 k (((H.1 54 (k + 1))))) ok6 (by omega) (fun i j a b => by
      have f1 : Hm.1 51 j = if c ≤ j ∧ j < k then H.1 (50 + 1) (j + 1) else H.1 (50 + 1) j := iv 1 j (by omega) (by omega)
      have f2 : Hm.1 52 j = if c ≤ j ∧ j < k then H.1 (50 + 2) (j + 1) else H.1 (50 + 2) j := iv 2 j (by omega) (by omega)
      have f3 : Hm.1 53 j = if c ≤ j ∧ j < k then H.1 (50 + 3) (j + 1) else H.1 (50 + 3) j := iv 3 j (by omega) (by omega)
      have f4 : Hm.1 54 j = if c ≤ j ∧ j < k then H.1 (50 + 4) (j + 1) else H.1 (50 + 4) j := iv 4 j (by omega) (by omega)
      rcases (show i = 1 ∨ i = 2 ∨ i = 3 ∨ i = 4 by omega) with z | z | z | z <;> subst z <;> (repeat rw [wI1c (by omega)]) <;> rw [wIp] <;> (repeat rw [wI1c (by omega)])
      all_goals
        by_cases z : j = k
        · rw [if_pos z, if_pos (by omega), z]
        · rw [if_neg z]; first | rw [f1] | rw [f2] | rw [f3] | rw [f4]
          by_cases y : c ≤ j ∧ j < k
          · rw [if_pos y, if_pos (by omega)]
          · rw [if_neg y, if_neg (by omega)]) (m2) (fun cc h => by rw [wIf (by omega), wIf (by omega), wIf (by omega), wIf (by omega)]; exact mo cc h) (by omega)
  refine x_weaken (L1 := [(0, .ref 50), (1, .int (zN ((c : Int)))), (2, .int (zN (((c : Nat) : Int))))]) (List.forall_mem_cons.mpr ⟨(List.Mem.tail _ (List.Mem.head _)), (List.forall_mem_cons.mpr ⟨(List.Mem.tail _ (List.Mem.tail _ (List.Mem.head _))), (List.forall_mem_cons.mpr ⟨(mem_ci (by omega) (List.Mem.head _)), (fun _ h => absurd h List.not_mem_nil)⟩)⟩)⟩) ?_
  exact lp2 (8 - c + 1) (c) H ok (by omega) (fun i j a b => (if_neg (by omega)).symm) (rfl) (fun _ _ => rfl) (Nat.lt_succ_self _)

theorem c_X10_absent {d : Nat} {H : ZH} (ok : okZ H) {c : Int} (c1 : -2147483648 ≤ c) (c2 : c ≤ 2147483647) (cn : cntOK H 25) (ws : WFS (H.1 2)) (rs : RepSc H 35 (H.1 2)) (rl : RepLw H (H.1 2)) (wl : WFL (H.1 2)) (tv : H.1 20 8 ≠ 0 → TrD H 113 (H.1 2) (-1)) : EvC zX (d + 8) mX10_absent [.ref 20, .int (zN (c))] (eh H) (zPl (fun (r : Int) (H1 : ZH) => ((0 ≤ c ∧ c ≤ H.1 2 1 - 1) ∧ r = (100 * (TS (lvo (H.1 2) c.toNat) (-1) (-1) (gK 1)) - (TS (H.1 2) (-1) (-1) (gK 1))) ∧ WnP H H1 (H.1 2)) ∨ (¬ (0 ≤ c ∧ c ≤ H.1 2 1 - 1) ∧ r = -2 ∧ H1 = bumpC 0 H))) := by
  show _ ∧ Ev zX mX10_absent (EvC zX (d + 7)) (zPl (fun (r : Int) (H1 : ZH) => ((0 ≤ c ∧ c ≤ H.1 2 1 - 1) ∧ r = (100 * (TS (lvo (H.1 2) c.toNat) (-1) (-1) (gK 1)) - (TS (H.1 2) (-1) (-1) (gK 1))) ∧ WnP H H1 (H.1 2)) ∨ (¬ (0 ≤ c ∧ c ≤ H.1 2 1 - 1) ∧ r = -2 ∧ H1 = bumpC 0 H))) 0 [(0, .ref 20), (1, .int (zN (c)))] [] (eh H)
  refine ⟨Nat.le_of_ble_eq_true rfl, ?_⟩
  have wsx := ws
  obtain ⟨ws0, ws1, wsC, ws34, ws35, ws36, ws37, ws38, ws39⟩ := wsx
  have rsx := rs
  obtain ⟨rs0, rs1, rsC, rs34, rs35, rs36, rs37, rs38, rs39⟩ := rsx
  have pb := p100_bd (n := (H.1 2 1).toNat) (by omega)
  refine x_aload_n (pc := 0) dX10_absent_0 (List.Mem.head _) ?_
  refine x_iload_n (pc := 1) dX10_absent_1 (List.Mem.tail _ (List.Mem.head _)) ?_
  refine z_callVbp (pc := 2) (i := mX10_isCar) (S := []) [.int (zN (c))] dX10_absent_2 ml_X10_137 ok_X10_isCar rfl sh_20 rfl (Or.inr rfl) (Nat.le_of_ble_eq_true rfl) (c_X10_isCar (d := d + 6) (a := c) (a1 := (by omega)) (a2 := (by omega)) (ok := ok) (ws := (by first | assumption | omega)) (rs := (by first | assumption | omega))) (fun hc3 ok2 => ?_) (fun hc3 ok2 => ?_)
  · skip
    refine z_if_ne (pc := 5) (tgt := 16) dX10_absent_5 (by decide) (by decide) (by decide) (fun _ => ?_) (fun h => absurd h (by decide))
    refine x_aload_n (pc := 16) dX10_absent_16 (List.Mem.head _) ?_
    refine z_callVv (pc := 17) (i := mX10_weighNow) (S := []) [] dX10_absent_17 ml_X10_216 ok_X10_weighNow rfl sh_20 rfl rfl (Nat.le_of_ble_eq_true rfl) (c_X10_weighNow (d := d) (ok := ok2) (ws := ws) (rs := rs) (rl := rl) (wl := wl) (tv := tv)) ?_
    intro Hm ok6 hp7
    have wn := hp7
    have td := wn.1
    have tb := TS_bd (wo := -1) (wc := -1) ws (gK_ok (H.1 2) 1)
    have wsl := lvo_ws (c := c.toNat) ws (by omega)
    have wll : WFL (lvo (H.1 2) c.toNat) := lvo_wl wl
    refine x_aload_n (pc := 20) dX10_absent_20 (List.Mem.head _) ?_
    refine z_getR (pc := 21) (k := 9) (r := 50) dX10_absent_21 lf_X10_62 sh_20 rfl rf_20_9 ?_
    refine x_aload_n (pc := 24) dX10_absent_24 (List.Mem.head _) ?_
    refine z_getR (pc := 25) (k := 3) (r := 98) dX10_absent_25 lf_X10_23 sh_20 rfl rf_20_3 ?_
    refine z_getR (pc := 28) (k := 0) (r := 35) dX10_absent_28 lf_X10_37 sh_98 rfl rf_98_0 ?_
    refine z_callVv (pc := 31) (i := mX6_take) (S := []) [.ref 35] dX10_absent_31 ml_X10_120 ok_X6_take rfl sh_50 rfl rfl (Nat.le_of_ble_eq_true rfl) (c_X6_take_50_35 (d := d + 6) (ok := ok6)) ?_
    intro Ht ok9 hp10
    have tk := hp10
    have fp1 := FrP_take tk
    have rt := take_rep ws tk (wn_sc wn.2.2 rs rl).1
    have rt1 := rt.2.1
    refine x_aload_n (pc := 34) dX10_absent_34 (List.Mem.head _) ?_
    refine z_getR (pc := 35) (k := 9) (r := 50) dX10_absent_35 lf_X10_62 sh_20 rfl rf_20_9 ?_
    refine x_iload_n (pc := 38) dX10_absent_38 (List.Mem.tail _ (List.Mem.head _)) ?_
    refine z_callVv (pc := 39) (i := mX6_leaveOut) (S := []) [.int (zN (c))] dX10_absent_39 ml_X10_273 ok_X6_leaveOut rfl sh_50 rfl rfl (Nat.le_of_ble_eq_true rfl) (by have qz := c_X6_leaveOut (d := d + 6) (c := c.toNat) (n := (H.1 2 1)) (hn := (by omega)) (hc := (by omega)) (ok := ok9) (h1 := rt1); rw [show ((c.toNat : Nat) : Int) = c by omega] at qz; exact qz) ?_
    intro Hl ok12 hp13
    have lv := hp13
    have rlv := lvo_rep (c := c.toNat) ws (by omega) rt lv
    have fp2 := FrP_tr fp1 (FrP_lv lv)
    refine x_aload_n (pc := 42) dX10_absent_42 (List.Mem.head _) ?_
    refine z_getR (pc := 43) (k := 10) (r := 116) dX10_absent_43 lf_X10_65 sh_20 rfl rf_20_10 ?_
    refine x_aload_n (pc := 46) dX10_absent_46 (List.Mem.head _) ?_
    refine z_getR (pc := 47) (k := 6) (r := 104) dX10_absent_47 lf_X10_48 sh_20 rfl rf_20_6 ?_
    refine x_aload_n (pc := 50) dX10_absent_50 (List.Mem.head _) ?_
    refine z_getR (pc := 51) (k := 9) (r := 50) dX10_absent_51 lf_X10_62 sh_20 rfl rf_20_9 ?_
    refine z_iconst (pc := 54) dX10_absent_54 ?_
    refine z_callVv (pc := 55) (i := mX9_weigh) (S := []) [.ref 104, .ref 50, .int (zN ((-1)))] dX10_absent_55 ml_X10_236 ok_X9_weigh rfl sh_116 rfl rfl (Nat.le_of_ble_eq_true rfl) (c_X9_weigh (d := d + 1) (t := 116) (s := 50) (q := (lvo (H.1 2) c.toNat)) (k := ((-1))) (k1 := (by omega)) (k2 := (by omega)) (ok := ok12) (ht := isTr_116) (hs := isSc_50) (ws := wsl) (rs := rlv) (rl := (lvo_lw (lw_P fp2 (wn_sc wn.2.2 rs rl).2))) (wl := wll)) ?_
    intro Hw ok15 hp16
    obtain ⟨td2, ft⟩ := hp16
    have fp := FrP_tr fp2 (FrP_tr116 ft)
    have tb2 := TS_w (wo := -1) (wc := -1) wsl 1 (by omega)
    have tb3 := TS_bd (wo := -1) (wc := -1) wsl (gK_ok (lvo (H.1 2) c.toNat) 1)
    have e1 : (lvo (H.1 2) c.toNat) 1 = H.1 2 1 - 1 := lvo_1 _ _
    have pb2 := p100_bd (n := ((lvo (H.1 2) c.toNat) 1).toNat) (by omega)
    have wn2 : WnP H Hw (H.1 2) := ⟨trd_P fp td, by rw [fp.1 20 8 (by omega) (by omega) (by omega)]; exact wn.2.1, FrO_P wn.2.2 fp⟩
    refine z_ldc2_w (pc := 58) 100 dX10_absent_58 cl_X10_276 (by decide) ?_
    refine x_aload_n (pc := 61) dX10_absent_61 (List.Mem.head _) ?_
    refine z_getR (pc := 62) (k := 10) (r := 116) dX10_absent_62 lf_X10_65 sh_20 rfl rf_20_10 ?_
    refine z_getJ (pc := 65) (k := 2) (v := (TS (lvo (H.1 2) c.toNat) (-1) (-1) (gK 1))) dX10_absent_65 lf_X10_223 sh_116 rfl (trd_k td2 1 (by omega)) ?_
    refine z_lmul (pc := 68) dX10_absent_68 ?_
    refine x_aload_n (pc := 69) dX10_absent_69 (List.Mem.head _) ?_
    refine z_getR (pc := 70) (k := 7) (r := 113) dX10_absent_70 lf_X10_55 sh_20 rfl rf_20_7 ?_
    refine z_getJ (pc := 73) (k := 2) (v := (TS (H.1 2) (-1) (-1) (gK 1))) dX10_absent_73 lf_X10_223 sh_113 rfl (trd_k wn2.1 1 (by omega)) ?_
    refine z_lsub (pc := 76) dX10_absent_76 ?_
    refine z_lreturn (pc := 77) dX10_absent_77 rfl ok15 (by omega) (by omega) ?_
    exact Or.inl ⟨by omega, rfl, wn2⟩
  · skip
    refine z_if_ne (pc := 5) (tgt := 16) dX10_absent_5 (by decide) (by decide) (by decide) (fun h => absurd h (by decide)) (fun _ => ?_)
    refine x_aload_n (pc := 8) dX10_absent_8 (List.Mem.head _) ?_
    refine z_bipush (pc := 9) dX10_absent_9 bp_m2 ?_
    refine z_callVip (pc := 11) (i := mX10_refuse) (S := []) [.int (zN ((-2)))] dX10_absent_11 ml_X10_97 ok_X10_refuse rfl sh_20 rfl (Or.inl rfl) (Nat.le_of_ble_eq_true rfl) (c_X10_refuse (d := d + 6) (code := ((-2))) (code1 := (by omega)) (code2 := (by omega)) (ok := ok2) (cn := (by first | assumption | omega))) (fun r18a r18b ok19 => ?_)
    show Ev _ _ _ _ _ _ _ (eh (wI H 25 ((refIx ((-2)))) (H.1 25 (refIx ((-2))) + 1)))
    refine z_i2l (pc := 14) dX10_absent_14 (by omega) (by omega) ?_
    refine z_lreturn (pc := 15) dX10_absent_15 rfl ok19 (by omega) (by omega) ?_
    exact Or.inr ⟨by omega, rfl, rfl⟩
