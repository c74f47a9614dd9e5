/-! GROUP G33: best of the class. -/
theorem and_bit1 {x m b : Nat} (h : m.testBit b = true) : (x &&& m) / 2 ^ b % 2 = x / 2 ^ b % 2 := by
  have e : (x &&& m).testBit b = x.testBit b := by rw [Nat.testBit_and, h, Bool.and_true]
  rw [Nat.testBit_eq_decide_div_mod_eq, Nat.testBit_eq_decide_div_mod_eq] at e
  have z := decide_eq_decide.mp e
  omega
def msk (q : Nat → Int) : Nat := tam q (lend q).toNat ||| 1 ||| 64
theorem msk_bd (q : Nat → Int) : msk q < 2 ^ 8 := Nat.or_lt_two_pow (Nat.or_lt_two_pow (tam_bd q _) (by decide)) (by decide)
theorem wordOf_tr {k : Int} (h : 5 ≤ k ∧ k ≤ 12) : wordOf k = (k - 5).toNat := by
  unfold wordOf
  rw [if_neg (by omega), if_pos h]
/-- the traits that nobody asks for change nothing -/
theorem best_eq {q : Nat → Int} {s : Nat} {g : (Nat → Int) → Int → Int} (ws : WFS q) (wl : WFL q) (hs : s < 256) : TS (upA q 34 (((((q 34).toNat ^^^ s) &&& msk q : Nat)) : Int)) (-1) (-1) g = TS (tr2 q s) (-1) (-1) g := by
  have wt := tr2_ws ws hs
  have wlt : WFL (tr2 q s) := WFL_up wl (by omega)
  have ag : AgA (tr2 q s) (upA q 34 (((((q 34).toNat ^^^ s) &&& msk q : Nat)) : Int)) := fun j h _ => by
    show _ = upA q 34 _ j
    rw [upA_ne h, upA_ne h]
  have e34 : (tr2 q s) 34 = ((((q 34).toNat ^^^ s : Nat)) : Int) := upA_at _ _ _
  have key : ∀ b, (msk q).testBit b = true → (upA q 34 (((((q 34).toNat ^^^ s) &&& msk q : Nat)) : Int)) 34 / 2 ^ b % 2 = (tr2 q s) 34 / 2 ^ b % 2 := by
    intro b hb
    rw [upA_at, e34, bitI, bitI, and_bit1 hb]
  have n40 : ∀ j, 40 ≤ j → (tr2 q s) j = q j := fun j hj => upA_ne (by omega)
  refine TS_cg ag wt wlt (fun l i h1 h2 h3 h4 => ?_) ?_ ?_ ?_
  · rw [n40 40 (by omega)] at h1
    rw [n40 (53 + l) (by omega)] at h2
    rw [n40 (65 + l) (by omega)] at h3
    rw [n40 (77 + 2 * i) (by omega)] at h4 ⊢
    have w := wordOf_tr h4
    refine key _ ?_
    unfold msk
    rw [Nat.testBit_or, Nat.testBit_or, ← w, tam_bit q _ i ?_ (by omega), Bool.true_or, Bool.true_or]
    -- within the law
    have a : ∀ m : Nat, (m : Int) < q 40 → q (65 + l) ≤ q (65 + (l + (m - l))) ∨ ¬ (l ≤ m) := by
      intro m
      induction m with
      | zero => intro hm; exact if z : l ≤ 0 then Or.inl (by rw [show l + (0 - l) = l by omega]; exact Int.le_refl _) else Or.inr z
      | succ m ih =>
        intro hm
        by_cases z : l ≤ m
        · refine Or.inl ?_
          have y := (ih (by omega)).resolve_right (fun w => w z)
          have u := wl.2 (m + 1) hm
          have u1 := u.2.2.1
          rw [if_neg (by omega), show m + 1 - 1 = m by omega] at u1
          rw [show l + (m - l) = m by omega] at y
          rw [show l + (m + 1 - l) = m + 1 by omega]
          have := u.2.1
          omega
        · by_cases z2 : l = m + 1
          · refine Or.inl ?_
            rw [show l + (m + 1 - l) = l by omega]
            exact Int.le_refl _
          · exact Or.inr (by omega)
    have y := (a ((q 40).toNat - 1) (by omega)).resolve_right (fun w => w (by omega))
    rw [show l + ((q 40).toNat - 1 - l) = (q 40).toNat - 1 by omega] at y
    unfold lend
    rw [if_neg (by omega)]
    omega
  · unfold ned
    rw [key 0 (by unfold msk; rw [Nat.testBit_or, Nat.testBit_or, show (1 : Nat).testBit 0 = true from rfl, Bool.or_true, Bool.true_or])]
  · rw [upA_ne (by omega)]
    exact (upA_ne (by omega)).symm
  · exact key 6 (by unfold msk; rw [Nat.testBit_or, show (64 : Nat).testBit 6 = true from rfl, Bool.or_true])
theorem bsF_fix {V : Nat → Int} {k : Int} {v n : Nat} (hn : v ≤ n) (h1 : (bsF V k v).1 ≠ -1) (h : ∀ u, v ≤ u → u < n → V u ≤ (bsF V k v).2) : bsF V k n = bsF V k v := by
  induction n with
  | zero => rw [show v = 0 by omega]
  | succ n ih =>
    by_cases q : v = n + 1
    · rw [q]
    · have i := ih (by omega) (fun u a b => h u a (by omega))
      show (if (bcn n 8 : Int) = k ∧ ((bsF V k n).1 = -1 ∨ (bsF V k n).2 < V n) then ((n : Int), V n) else bsF V k n) = _
      rw [i, if_neg (fun z => by
        have := h n (by omega) (by omega)
        rcases z.2 with y | y
        · exact h1 y
        · omega)]
theorem bsF_ne {V : Nat → Int} {k : Int} {s n : Nat} (hs : s < n) (hk : (bcn s 8 : Int) = k) : (bsF V k n).1 ≠ -1 := by
  induction n with
  | zero => omega
  | succ n ih =>
    show (if (bcn n 8 : Int) = k ∧ ((bsF V k n).1 = -1 ∨ (bsF V k n).2 < V n) then ((n : Int), V n) else bsF V k n).1 ≠ -1
    by_cases q : (bcn n 8 : Int) = k ∧ ((bsF V k n).1 = -1 ∨ (bsF V k n).2 < V n)
    · rw [if_pos q]
      show (n : Int) ≠ -1
      omega
    · rw [if_neg q]
      by_cases z : s = n
      · intro y
        exact q ⟨by rw [← z]; exact hk, Or.inl y⟩
      · exact ih (by omega)
theorem bsF_some {V : Nat → Int} {k : Int} (hk : 0 ≤ k ∧ k ≤ 3) : (bsF V k 256).1 ≠ -1 := by
  rcases (show k = 0 ∨ k = 1 ∨ k = 2 ∨ k = 3 by omega) with e | e | e | e <;> subst e
  · exact bsF_ne (s := 0) (by omega) rfl
  · exact bsF_ne (s := 1) (by omega) rfl
  · exact bsF_ne (s := 3) (by omega) rfl
  · exact bsF_ne (s := 7) (by omega) rfl

theorem FrP_23 {H : ZH} {k : Nat} {v : Int} : FrP H (wJ H 23 k v) := ⟨fun _ _ _ _ _ => rfl, fun cc j _ _ c => by rw [wJ1c c]⟩
theorem c_X10_best {d : Nat} {H : ZH} (ok : okZ H) {kk : Int} (kk1 : -2147483648 ≤ kk) (kk2 : kk ≤ 2147483647) (cn : cntOK H 25) (ws : WFS (H.1 2)) (rs : RepSc H 35 (H.1 2)) (rl : RepLw H (H.1 2)) (wl : WFL (H.1 2)) (lz : H.1 59 4 = lend (H.1 2)) : EvC zX (d + 7) mX10_best [.ref 20, .int (zN (kk))] (eh H) (zPi (fun (r : Int) (H1 : ZH) => ((0 ≤ kk ∧ kk ≤ 3) ∧ r = (bsF (fun s => TS (tr2 (H.1 2) s) (-1) (-1) (gK 0)) kk 256).1 ∧ FrP H H1) ∨ (¬ (0 ≤ kk ∧ kk ≤ 3) ∧ r = -3 ∧ H1 = bumpC 1 H))) := by
  show _ ∧ Ev zX mX10_best (EvC zX (d + 6)) (zPi (fun (r : Int) (H1 : ZH) => ((0 ≤ kk ∧ kk ≤ 3) ∧ r = (bsF (fun s => TS (tr2 (H.1 2) s) (-1) (-1) (gK 0)) kk 256).1 ∧ FrP H H1) ∨ (¬ (0 ≤ kk ∧ kk ≤ 3) ∧ r = -3 ∧ H1 = bumpC 1 H))) 0 [(0, .ref 20), (1, .int (zN (kk)))] [] (eh H)
  refine ⟨Nat.le_of_ble_eq_true rfl, ?_⟩
  have wsx := ws
  obtain ⟨ws0, ws1, wsC, ws34, ws35, ws36, ws37, ws38, ws39⟩ := wsx
  have rsx := rs
  obtain ⟨rs0, rs1, rsC, rs34, rs35, rs36, rs37, rs38, rs39⟩ := rsx
  have pb := p100_bd (n := (H.1 2 1).toNat) (by omega)
  have mkb := msk_bd (H.1 2)
  have vb : ∀ s, s < 256 → 0 ≤ (fun s => TS (tr2 (H.1 2) s) (-1) (-1) (gK 0)) s ∧ (fun s => TS (tr2 (H.1 2) s) (-1) (-1) (gK 0)) s ≤ 162 * 100 ^ (H.1 2 1).toNat := fun s hs => by
    have tb := TS_bd (wo := -1) (wc := -1) (tr2_ws ws hs) (gK_ok (tr2 (H.1 2) s) 0)
    rw [show (tr2 (H.1 2) s) 1 = H.1 2 1 from upA_ne (by omega)] at tb
    exact tb
  have vw : ∀ s, s < 256 → (fun s => TS (tr2 (H.1 2) s) (-1) (-1) (gK 0)) s ≤ 100 ^ (H.1 2 1).toNat := fun s hs => by
    have tb := TS_w (wo := -1) (wc := -1) (tr2_ws ws hs) 0 (by omega)
    rw [show (tr2 (H.1 2) s) 1 = H.1 2 1 from upA_ne (by omega)] at tb
    exact tb
  refine x_iload_n (pc := 0) dX10_best_0 (List.Mem.tail _ (List.Mem.head _)) ?_
  refine z_if_lt (pc := 1) (tgt := 9) dX10_best_1 (by decide) (by omega) (by omega) (fun hb1 => ?_) (fun hb1 => ?_)
  · skip
    refine x_aload_n (pc := 9) dX10_best_9 (List.Mem.head _) ?_
    refine z_bipush (pc := 10) dX10_best_10 bp_m3 ?_
    refine z_callVip (pc := 12) (i := mX10_refuse) (S := []) [.int (zN ((-3)))] dX10_best_12 ml_X10_97 ok_X10_refuse rfl sh_20 rfl (Or.inl rfl) (Nat.le_of_ble_eq_true rfl) (c_X10_refuse (d := d + 5) (code := ((-3))) (code1 := (by omega)) (code2 := (by omega)) (ok := ok) (cn := (by first | assumption | omega))) (fun r2a r2b ok3 => ?_)
    show Ev _ _ _ _ _ _ _ (eh (wI H 25 ((refIx ((-3)))) (H.1 25 (refIx ((-3))) + 1)))
    refine z_ireturn (pc := 15) dX10_best_15 rfl (Or.inl rfl) ok3 (by omega) (by omega) ?_
    exact Or.inr ⟨by omega, rfl, rfl⟩
  · skip
    refine x_iload_n (pc := 4) dX10_best_4 (List.Mem.tail _ (List.Mem.head _)) ?_
    refine z_iconst (pc := 5) dX10_best_5 ?_
    refine z_icmp_le (pc := 6) (tgt := 16) dX10_best_6 (by decide) (by omega) (by omega) (by decide) (by decide) (fun hb4 => ?_) (fun hb4 => ?_)
    · skip
      refine x_aload_n (pc := 16) dX10_best_16 (List.Mem.head _) ?_
      refine z_getR (pc := 17) (k := 3) (r := 98) dX10_best_17 lf_X10_23 sh_20 rfl rf_20_3 ?_
      refine z_getR (pc := 20) (k := 1) (r := 59) dX10_best_20 lf_X10_41 sh_98 rfl rf_98_1 ?_
      refine z_callVip (pc := 23) (i := mX1_traitsAsked) (S := []) [] dX10_best_23 ml_X10_240 ok_X1_traitsAsked rfl sh_59 rfl (Or.inl rfl) (Nat.le_of_ble_eq_true rfl) (c_X1_traitsAsked (d := d + 5) (q := (H.1 2)) (ok := ok) (rl := rl) (wl := wl) (lz := lz)) (fun r5a r5b ok6 => ?_)
      refine z_iconst (pc := 26) dX10_best_26 ?_
      refine z_ior (pc := 27) (m := (tam (H.1 2) (lend (H.1 2)).toNat)) (n := 1) dX10_best_27 (by omega) rfl ?_
      refine z_bipush (pc := 28) dX10_best_28 bp_64 ?_
      refine z_ior (pc := 30) (m := (((tam (H.1 2) (lend (H.1 2)).toNat)) ||| (1))) (n := 64) dX10_best_30 (by omega) rfl ?_
      refine x_istore_n (pc := 31) dX10_best_31 (Nat.le_of_ble_eq_true rfl) ?_
      show Ev _ _ _ _ _ [(2, .int (zN (((((((tam (H.1 2) (lend (H.1 2)).toNat)) ||| (1))) ||| (64) : Nat) : Int)))), (0, .ref 20), (1, .int (zN (kk)))] _ _
      refine x_aload_n (pc := 32) dX10_best_32 (List.Mem.tail _ (List.Mem.head _)) ?_
      refine z_getR (pc := 33) (k := 11) (r := 23) dX10_best_33 lf_X10_68 sh_20 rfl rf_20_11 ?_
      refine z_ldc2_w (pc := 36) (-1) dX10_best_36 cl_X10_243 (by decide) ?_
      refine z_callSvp (pc := 39) (i := mJ7_fill_d0a16) (S := []) [.ref 23, .long (zL ((-1)))] dX10_best_39 ml_X10_245 ok_J7_fill_d0a16 rfl rfl (Nat.le_of_ble_eq_true rfl) (c_J7_fill_d0a16 (d := d + 5) (c := 23) (n := 256) (hn := (by omega)) (v := ((-1))) (v1 := (by omega)) (v2 := (by omega)) (ok := ok6) (sh := sh_23)) (fun ok8 => ?_)
      refine x_aload_n (pc := 42) dX10_best_42 (List.Mem.tail _ (List.Mem.head _)) ?_
      refine z_getR (pc := 43) (k := 9) (r := 50) dX10_best_43 lf_X10_62 sh_20 rfl rf_20_9 ?_
      refine x_aload_n (pc := 46) dX10_best_46 (List.Mem.tail _ (List.Mem.head _)) ?_
      refine z_getR (pc := 47) (k := 3) (r := 98) dX10_best_47 lf_X10_23 sh_20 rfl rf_20_3 ?_
      refine z_getR (pc := 50) (k := 0) (r := 35) dX10_best_50 lf_X10_37 sh_98 rfl rf_98_0 ?_
      refine z_callVv (pc := 53) (i := mX6_take) (S := []) [.ref 35] dX10_best_53 ml_X10_120 ok_X6_take rfl sh_50 rfl rfl (Nat.le_of_ble_eq_true rfl) (c_X6_take_50_35 (d := d + 5) (ok := ok8)) ?_
      intro Ht ok10 hp11
      have tk := hp11
      have ft0 : FrP H Ht := ⟨fun cc k a b c => by rw [tk.2.1 cc (by omega)]; rfl, fun cc k a b c => by rw [tk.1, wB1c c]⟩
      have fr0 := ft0
      have ru0 : RepSc Ht 50 (upA (H.1 2) 34 (H.1 2 34)) := by rw [upA_self]; exact take_rep ws tk rs
      have c23 : ∀ t, t < 256 → Ht.2 23 t = -1 := fun t h => by rw [tk.1, wB1]; exact if_pos h
      have ca0 : (∀ t, t < 256 → Ht.2 23 t = -1 ∨ Ht.2 23 t = (TS (upA (H.1 2) 34 (((t : Nat)) : Int)) (-1) (-1) (gK 0))) ∧ ((∀ t, t < 256 → Ht.2 23 t = -1) ∨ Ht.2 116 0 = 100 ^ (H.1 2 1).toNat) := ⟨fun t h => Or.inl (c23 t h), Or.inl c23⟩
      refine z_ldc2_w (pc := 56) (-1) dX10_best_56 cl_X10_243 (by decide) ?_
      refine x_lstore_n (pc := 59) dX10_best_59 (Nat.le_of_ble_eq_true rfl) ?_
      show Ev _ _ _ _ _ [(3, .long (zL ((-1)))), (2, .int (zN (((((((tam (H.1 2) (lend (H.1 2)).toNat)) ||| (1))) ||| (64) : Nat) : Int)))), (0, .ref 20), (1, .int (zN (kk)))] _ _
      refine z_iconst (pc := 60) dX10_best_60 ?_
      refine x_istore (pc := 61) dX10_best_61 (Nat.le_of_ble_eq_true rfl) ?_
      show Ev _ _ _ _ _ [(5, .int (zN (0))), (3, .long (zL ((-1)))), (2, .int (zN (((((((tam (H.1 2) (lend (H.1 2)).toNat)) ||| (1))) ||| (64) : Nat) : Int)))), (0, .ref 20), (1, .int (zN (kk)))] _ _
      refine z_iconst (pc := 63) dX10_best_63 ?_
      refine x_istore (pc := 64) dX10_best_64 (Nat.le_of_ble_eq_true rfl) ?_
      show Ev _ _ _ _ _ [(6, .int (zN (0))), (5, .int (zN (0))), (3, .long (zL ((-1)))), (2, .int (zN (((((((tam (H.1 2) (lend (H.1 2)).toNat)) ||| (1))) ||| (64) : Nat) : Int)))), (0, .ref 20), (1, .int (zN (kk)))] _ _
      have lp66 : ∀ (nF : Nat) (n : Nat) (mo : Int) (fo : Int) (u : Int) (Hm : ZH), okZ Hm → (n ≤ 256) → (FrP H Hm) → (RepSc Hm 50 (upA (H.1 2) 34 u)) → ((∀ t, t < 256 → Hm.2 23 t = -1 ∨ Hm.2 23 t = (TS (upA (H.1 2) 34 (((t : Nat)) : Int)) (-1) (-1) (gK 0))) ∧ ((∀ t, t < 256 → Hm.2 23 t = -1) ∨ Hm.2 116 0 = 100 ^ (H.1 2 1).toNat)) → (((bsF (fun s => TS (tr2 (H.1 2) s) (-1) (-1) (gK 0)) kk n).1 = -1 ∧ fo = 0 ∧ mo = -1) ∨ ((bsF (fun s => TS (tr2 (H.1 2) s) (-1) (-1) (gK 0)) kk n).1 ≠ -1 ∧ fo = (bsF (fun s => TS (tr2 (H.1 2) s) (-1) (-1) (gK 0)) kk n).1 ∧ mo = (bsF (fun s => TS (tr2 (H.1 2) s) (-1) (-1) (gK 0)) kk n).2)) → 256 - n < nF → Ev zX mX10_best (EvC zX (d + 6)) (zPi (fun (r : Int) (H1 : ZH) => ((0 ≤ kk ∧ kk ≤ 3) ∧ r = (bsF (fun s => TS (tr2 (H.1 2) s) (-1) (-1) (gK 0)) kk 256).1 ∧ FrP H H1) ∨ (¬ (0 ≤ kk ∧ kk ≤ 3) ∧ r = -3 ∧ H1 = bumpC 1 H))) 66 [(0, .ref 20), (1, .int (zN (kk))), (2, .int (zN ((((msk (H.1 2)) : Nat) : Int)))), (3, .long (zL (mo))), (5, .int (zN (fo))), (6, .int (zN ((n : Int))))] [] (eh Hm) := by
        intro nF
        induction nF with
        | zero => intro n mo fo u Hm okl66 hn fr ru hca hfm hm; exact absurd hm (Nat.not_lt_zero _)
        | succ nF ih66 =>
          intro n mo fo u Hm okl66 hn fr ru hca hfm hm
          have rlm := lw_P fr rl
          have rsm := sc_P fr rs
          have bb := bsF_bd (k := kk) vb (by omega) n hn
          have mob : -1 ≤ mo ∧ mo ≤ 162 * 100 ^ (H.1 2 1).toNat ∧ 0 ≤ fo ∧ fo ≤ 255 := by rcases hfm with z | z <;> omega
          refine x_iload (pc := 66) dX10_best_66 (List.Mem.tail _ (List.Mem.tail _ (List.Mem.tail _ (List.Mem.tail _ (List.Mem.tail _ (List.Mem.head _)))))) ?_
          refine z_sipush (pc := 68) dX10_best_68 sp_256 ?_
          refine z_icmp_ge (pc := 71) (tgt := 196) dX10_best_71 (by decide) (by omega) (by omega) (by decide) (by decide) (fun hb12 => ?_) (fun hb12 => ?_)
          · skip
            refine x_iload (pc := 196) dX10_best_196 (List.Mem.tail _ (List.Mem.tail _ (List.Mem.tail _ (List.Mem.tail _ (List.Mem.head _))))) ?_
            refine z_ireturn (pc := 198) dX10_best_198 rfl (Or.inl rfl) okl66 (by omega) (by omega) ?_
            refine Or.inl ⟨by omega, ?_, fr⟩
            have hs := bsF_some (V := (fun s => TS (tr2 (H.1 2) s) (-1) (-1) (gK 0))) (k := kk) (by omega)
            rw [show 256 = n by omega] at hs ⊢
            rcases hfm with z | z
            · exact absurd z.1 hs
            · exact z.2.1
          · skip
            refine x_iload (pc := 74) dX10_best_74 (List.Mem.tail _ (List.Mem.tail _ (List.Mem.tail _ (List.Mem.tail _ (List.Mem.tail _ (List.Mem.head _)))))) ?_
            refine z_callSip (pc := 76) (i := mJ6_bitCount_0f7a4) (S := []) [.int (zN ((n : Int)))] dX10_best_76 ml_X10_251 ok_J6_bitCount_0f7a4 rfl (Or.inl rfl) (Nat.le_of_ble_eq_true rfl) (c_J6_bitCount_0f7a4 (d := d + 5) (s := n) (hs := (by omega)) (ok := okl66)) (fun r13a r13b ok14 => ?_)
            refine x_iload_n (pc := 79) dX10_best_79 (List.Mem.tail _ (List.Mem.head _)) ?_
            refine z_icmp_ne (pc := 80) (tgt := 190) dX10_best_80 (by decide) (by omega) (by omega) (by omega) (by omega) (fun hb15 => ?_) (fun hb15 => ?_)
            · skip
              have fr2 := fr
              have ru2 := ru
              have ca2 := hca
              have hfm2 : ((bsF (fun s => TS (tr2 (H.1 2) s) (-1) (-1) (gK 0)) kk (n + 1)).1 = -1 ∧ fo = 0 ∧ mo = -1) ∨ ((bsF (fun s => TS (tr2 (H.1 2) s) (-1) (-1) (gK 0)) kk (n + 1)).1 ≠ -1 ∧ fo = (bsF (fun s => TS (tr2 (H.1 2) s) (-1) (-1) (gK 0)) kk (n + 1)).1 ∧ mo = (bsF (fun s => TS (tr2 (H.1 2) s) (-1) (-1) (gK 0)) kk (n + 1)).2) := by
                have e : (bsF (fun s => TS (tr2 (H.1 2) s) (-1) (-1) (gK 0)) kk (n + 1)) = (bsF (fun s => TS (tr2 (H.1 2) s) (-1) (-1) (gK 0)) kk n) := if_neg (fun z => by omega)
                rw [e]; exact hfm
              refine z_iinc (pc := 190) dX10_best_190 (List.Mem.tail _ (List.Mem.tail _ (List.Mem.tail _ (List.Mem.tail _ (List.Mem.tail _ (List.Mem.head _)))))) (Nat.le_of_ble_eq_true rfl) ?_
              show Ev _ _ _ _ _ [(6, .int (zN ((n : Int) + 1))), (0, .ref 20), (1, .int (zN (kk))), (2, .int (zN ((((msk (H.1 2)) : Nat) : Int)))), (3, .long (zL (mo))), (5, .int (zN (fo)))] _ _
              refine x_goto (pc := 193) (tgt := 66) dX10_best_193 (by decide) ?_
              refine x_weaken (L1 := [(0, .ref 20), (1, .int (zN (kk))), (2, .int (zN ((((msk (H.1 2)) : Nat) : Int)))), (3, .long (zL (mo))), (5, .int (zN (fo))), (6, .int (zN ((((n + 1) : Nat) : Int))))]) (List.forall_mem_cons.mpr ⟨(List.Mem.tail _ (List.Mem.head _)), (List.forall_mem_cons.mpr ⟨(List.Mem.tail _ (List.Mem.tail _ (List.Mem.head _))), (List.forall_mem_cons.mpr ⟨(List.Mem.tail _ (List.Mem.tail _ (List.Mem.tail _ (List.Mem.head _)))), (List.forall_mem_cons.mpr ⟨(List.Mem.tail _ (List.Mem.tail _ (List.Mem.tail _ (List.Mem.tail _ (List.Mem.head _))))), (List.forall_mem_cons.mpr ⟨(List.Mem.tail _ (List.Mem.tail _ (List.Mem.tail _ (List.Mem.tail _ (List.Mem.tail _ (List.Mem.head _)))))), (List.forall_mem_cons.mpr ⟨(mem_ci (by omega) (List.Mem.head _)), (fun _ h => absurd h List.not_mem_nil)⟩)⟩)⟩)⟩)⟩)⟩) ?_
              exact ih66 ((n + 1)) (mo) (fo) (u) Hm ok14 (by omega) (fr2) (ru2) (ca2) (hfm2) (by omega)
            · skip
              have hTb : (((H.1 2 34).toNat ^^^ n) &&& msk (H.1 2)) < 256 := Nat.lt_of_le_of_lt (Nat.and_le_right) mkb
              have hbe : (TS (upA (H.1 2) 34 ((((((H.1 2 34).toNat ^^^ n) &&& msk (H.1 2)) : Nat)) : Int)) (-1) (-1) (gK 0)) = (TS (tr2 (H.1 2) n) (-1) (-1) (gK 0)) := best_eq ws wl (by omega)
              have rc := okl66.2 23 (((H.1 2 34).toNat ^^^ n) &&& msk (H.1 2))
              have tbn := vb n (by omega)
              have twn := vw n (by omega)
              have tbn2 : 0 ≤ (TS (tr2 (H.1 2) n) (-1) (-1) (gK 0)) ∧ (TS (tr2 (H.1 2) n) (-1) (-1) (gK 0)) ≤ 162 * 100 ^ (H.1 2 1).toNat := tbn
              have twn2 : (TS (tr2 (H.1 2) n) (-1) (-1) (gK 0)) ≤ 100 ^ (H.1 2 1).toNat := twn
              have hkb : (bcn n 8 : Int) = kk := by omega
              have ebs : (bsF (fun s => TS (tr2 (H.1 2) s) (-1) (-1) (gK 0)) kk (n + 1)) = (if (bcn n 8 : Int) = kk ∧ ((bsF (fun s => TS (tr2 (H.1 2) s) (-1) (-1) (gK 0)) kk n).1 = -1 ∨ (bsF (fun s => TS (tr2 (H.1 2) s) (-1) (-1) (gK 0)) kk n).2 < (fun s => TS (tr2 (H.1 2) s) (-1) (-1) (gK 0)) n) then ((n : Int), (fun s => TS (tr2 (H.1 2) s) (-1) (-1) (gK 0)) n) else (bsF (fun s => TS (tr2 (H.1 2) s) (-1) (-1) (gK 0)) kk n)) := rfl
              have wsx2 : WFS (upA (H.1 2) 34 ((((((H.1 2 34).toNat ^^^ n) &&& msk (H.1 2)) : Nat)) : Int)) := WFS_up ws (by omega) ⟨by omega, fun _ => by omega, by omega, by omega, by omega⟩
              have wlx2 : WFL (upA (H.1 2) 34 ((((((H.1 2 34).toNat ^^^ n) &&& msk (H.1 2)) : Nat)) : Int)) := WFL_up wl (by omega)
              have e1x : (upA (H.1 2) 34 ((((((H.1 2 34).toNat ^^^ n) &&& msk (H.1 2)) : Nat)) : Int)) 1 = H.1 2 1 := upA_ne (by omega)
              have tbc := TS_bd (wo := -1) (wc := -1) wsx2 (gK_ok (upA (H.1 2) 34 ((((((H.1 2 34).toNat ^^^ n) &&& msk (H.1 2)) : Nat)) : Int)) 0)
              rw [e1x] at tbc
              refine x_aload_n (pc := 83) dX10_best_83 (List.Mem.head _) ?_
              refine z_getR (pc := 84) (k := 3) (r := 98) dX10_best_84 lf_X10_23 sh_20 rfl rf_20_3 ?_
              refine z_getR (pc := 87) (k := 0) (r := 35) dX10_best_87 lf_X10_37 sh_98 rfl rf_98_0 ?_
              refine z_getI (pc := 90) (k := 6) (v := (H.1 2 34)) dX10_best_90 lf_X10_153 sh_35 rfl rsm.2.2.2.1 ?_
              refine x_iload (pc := 93) dX10_best_93 (List.Mem.tail _ (List.Mem.tail _ (List.Mem.tail _ (List.Mem.tail _ (List.Mem.tail _ (List.Mem.head _)))))) ?_
              refine z_ixor (pc := 95) (m := (H.1 2 34).toNat) (n := n) dX10_best_95 (by omega) rfl ?_
              refine x_iload_n (pc := 96) dX10_best_96 (List.Mem.tail _ (List.Mem.tail _ (List.Mem.head _))) ?_
              refine z_iand (pc := 97) (m := (((H.1 2 34).toNat) ^^^ (n))) (n := (msk (H.1 2))) dX10_best_97 (by omega) (by omega) ?_
              refine x_istore (pc := 98) dX10_best_98 (Nat.le_of_ble_eq_true rfl) ?_
              show Ev _ _ _ _ _ [(7, .int (zN (((((((H.1 2 34).toNat) ^^^ (n))) &&& ((msk (H.1 2))) : Nat) : Int)))), (0, .ref 20), (1, .int (zN (kk))), (2, .int (zN ((((msk (H.1 2)) : Nat) : Int)))), (3, .long (zL (mo))), (5, .int (zN (fo))), (6, .int (zN ((n : Int))))] _ _
              have jn151 : ∀ (u2 : Int) (Hj : ZH), okZ Hj → (FrP H Hj) → (RepSc Hj 50 (upA (H.1 2) 34 u2)) → (Hj.2 23 (((H.1 2 34).toNat ^^^ n) &&& msk (H.1 2)) = (TS (upA (H.1 2) 34 ((((((H.1 2 34).toNat ^^^ n) &&& msk (H.1 2)) : Nat)) : Int)) (-1) (-1) (gK 0))) → (Hj.2 116 0 = 100 ^ (H.1 2 1).toNat) → (∀ t, t < 256 → Hj.2 23 t = -1 ∨ Hj.2 23 t = (TS (upA (H.1 2) 34 (((t : Nat)) : Int)) (-1) (-1) (gK 0))) → Ev zX mX10_best (EvC zX (d + 6)) (zPi (fun (r : Int) (H1 : ZH) => ((0 ≤ kk ∧ kk ≤ 3) ∧ r = (bsF (fun s => TS (tr2 (H.1 2) s) (-1) (-1) (gK 0)) kk 256).1 ∧ FrP H H1) ∨ (¬ (0 ≤ kk ∧ kk ≤ 3) ∧ r = -3 ∧ H1 = bumpC 1 H))) 151 [(0, .ref 20), (1, .int (zN (kk))), (2, .int (zN ((((msk (H.1 2)) : Nat) : Int)))), (3, .long (zL (mo))), (5, .int (zN (fo))), (6, .int (zN ((n : Int)))), (7, .int (zN ((((((H.1 2 34).toNat ^^^ n) &&& msk (H.1 2)) : Nat) : Int))))] [] (eh Hj) := by
                intro u2 Hj okj151 fr2 ru2 hT h116 hc1
                refine x_aload_n (pc := 151) dX10_best_151 (List.Mem.head _) ?_
                refine z_getR (pc := 152) (k := 11) (r := 23) dX10_best_152 lf_X10_68 sh_20 rfl rf_20_11 ?_
                refine x_iload (pc := 155) dX10_best_155 (List.Mem.tail _ (List.Mem.tail _ (List.Mem.tail _ (List.Mem.tail _ (List.Mem.tail _ (List.Mem.tail _ (List.Mem.head _))))))) ?_
                refine z_lald (pc := 157) (j := (((H.1 2 34).toNat ^^^ n) &&& msk (H.1 2))) (v := (TS (tr2 (H.1 2) n) (-1) (-1) (gK 0))) dX10_best_157 sh_23 (by omega) (by omega) (by decide) (hT.trans hbe) ?_
                refine x_lload_n (pc := 158) dX10_best_158 (List.Mem.tail _ (List.Mem.tail _ (List.Mem.tail _ (List.Mem.head _)))) ?_
                refine z_lcmp_le (pc := 159) (tgt := 175) dX10_best_159 dX10_best_160 (by decide) (by omega) (by omega) (by omega) (by omega) (fun hb16 => ?_) (fun hb16 => ?_)
                · skip
                  have hfm2 : ((bsF (fun s => TS (tr2 (H.1 2) s) (-1) (-1) (gK 0)) kk (n + 1)).1 = -1 ∧ fo = 0 ∧ mo = -1) ∨ ((bsF (fun s => TS (tr2 (H.1 2) s) (-1) (-1) (gK 0)) kk (n + 1)).1 ≠ -1 ∧ fo = (bsF (fun s => TS (tr2 (H.1 2) s) (-1) (-1) (gK 0)) kk (n + 1)).1 ∧ mo = (bsF (fun s => TS (tr2 (H.1 2) s) (-1) (-1) (gK 0)) kk (n + 1)).2) := by
                    rcases hfm with z | z
                    · omega
                    · have e : (bsF (fun s => TS (tr2 (H.1 2) s) (-1) (-1) (gK 0)) kk (n + 1)) = (bsF (fun s => TS (tr2 (H.1 2) s) (-1) (-1) (gK 0)) kk n) := by rw [ebs, if_neg (fun y => y.2.elim (fun x => z.1 x) (fun x => by have x2 : (bsF (fun s => TS (tr2 (H.1 2) s) (-1) (-1) (gK 0)) kk n).2 < (TS (tr2 (H.1 2) n) (-1) (-1) (gK 0)) := x; omega))]
                      rw [e]; exact Or.inr z
                  have ca2 : (∀ t, t < 256 → Hj.2 23 t = -1 ∨ Hj.2 23 t = (TS (upA (H.1 2) 34 (((t : Nat)) : Int)) (-1) (-1) (gK 0))) ∧ ((∀ t, t < 256 → Hj.2 23 t = -1) ∨ Hj.2 116 0 = 100 ^ (H.1 2 1).toNat) := ⟨hc1, Or.inr h116⟩
                  refine x_lload_n (pc := 175) dX10_best_175 (List.Mem.tail _ (List.Mem.tail _ (List.Mem.tail _ (List.Mem.head _)))) ?_
                  refine x_aload_n (pc := 176) dX10_best_176 (List.Mem.head _) ?_
                  refine z_getR (pc := 177) (k := 10) (r := 116) dX10_best_177 lf_X10_65 sh_20 rfl rf_20_10 ?_
                  refine z_getJ (pc := 180) (k := 0) (v := ((100 : Int) ^ (H.1 2 1).toNat)) dX10_best_180 lf_X10_233 sh_116 rfl h116 ?_
                  refine z_lcmp_ne (pc := 183) (tgt := 190) dX10_best_183 dX10_best_184 (by decide) (by omega) (by omega) (by omega) (by omega) (fun hb17 => ?_) (fun hb17 => ?_)
                  · skip
                    refine z_iinc (pc := 190) dX10_best_190 (List.Mem.tail _ (List.Mem.tail _ (List.Mem.tail _ (List.Mem.tail _ (List.Mem.tail _ (List.Mem.head _)))))) (Nat.le_of_ble_eq_true rfl) ?_
                    show Ev _ _ _ _ _ [(6, .int (zN ((n : Int) + 1))), (0, .ref 20), (1, .int (zN (kk))), (2, .int (zN ((((msk (H.1 2)) : Nat) : Int)))), (3, .long (zL (mo))), (5, .int (zN (fo))), (7, .int (zN ((((((H.1 2 34).toNat ^^^ n) &&& msk (H.1 2)) : Nat) : Int))))] _ _
                    refine x_goto (pc := 193) (tgt := 66) dX10_best_193 (by decide) ?_
                    refine x_weaken (L1 := [(0, .ref 20), (1, .int (zN (kk))), (2, .int (zN ((((msk (H.1 2)) : Nat) : Int)))), (3, .long (zL (mo))), (5, .int (zN (fo))), (6, .int (zN ((((n + 1) : Nat) : Int))))]) (List.forall_mem_cons.mpr ⟨(List.Mem.tail _ (List.Mem.head _)), (List.forall_mem_cons.mpr ⟨(List.Mem.tail _ (List.Mem.tail _ (List.Mem.head _))), (List.forall_mem_cons.mpr ⟨(List.Mem.tail _ (List.Mem.tail _ (List.Mem.tail _ (List.Mem.head _)))), (List.forall_mem_cons.mpr ⟨(List.Mem.tail _ (List.Mem.tail _ (List.Mem.tail _ (List.Mem.tail _ (List.Mem.head _))))), (List.forall_mem_cons.mpr ⟨(List.Mem.tail _ (List.Mem.tail _ (List.Mem.tail _ (List.Mem.tail _ (List.Mem.tail _ (List.Mem.head _)))))), (List.forall_mem_cons.mpr ⟨(mem_ci (by omega) (List.Mem.head _)), (fun _ h => absurd h List.not_mem_nil)⟩)⟩)⟩)⟩)⟩)⟩) ?_
                    exact ih66 ((n + 1)) (mo) (fo) (u2) Hj okj151 (by omega) (fr2) (ru2) (ca2) (hfm2) (by omega)
                  · skip
                    refine x_iload (pc := 187) dX10_best_187 (List.Mem.tail _ (List.Mem.tail _ (List.Mem.tail _ (List.Mem.tail _ (List.Mem.head _))))) ?_
                    refine z_ireturn (pc := 189) dX10_best_189 rfl (Or.inl rfl) okj151 (by omega) (by omega) ?_
                    refine Or.inl ⟨by omega, ?_, fr2⟩
                    rcases hfm2 with z | z
                    · omega
                    · rw [bsF_fix (v := n + 1) (n := 256) (by omega) z.1 (fun x a b => by rw [← z.2.2]; exact Int.le_trans (vw x b) (by omega))]; exact z.2.1
                · skip
                  have hfm2 : ((bsF (fun s => TS (tr2 (H.1 2) s) (-1) (-1) (gK 0)) kk (n + 1)).1 = -1 ∧ (n : Int) = 0 ∧ (TS (tr2 (H.1 2) n) (-1) (-1) (gK 0)) = -1) ∨ ((bsF (fun s => TS (tr2 (H.1 2) s) (-1) (-1) (gK 0)) kk (n + 1)).1 ≠ -1 ∧ (n : Int) = (bsF (fun s => TS (tr2 (H.1 2) s) (-1) (-1) (gK 0)) kk (n + 1)).1 ∧ (TS (tr2 (H.1 2) n) (-1) (-1) (gK 0)) = (bsF (fun s => TS (tr2 (H.1 2) s) (-1) (-1) (gK 0)) kk (n + 1)).2) := by
                    have e : (bsF (fun s => TS (tr2 (H.1 2) s) (-1) (-1) (gK 0)) kk (n + 1)) = ((n : Int), (TS (tr2 (H.1 2) n) (-1) (-1) (gK 0))) := by
                      rw [ebs, if_pos]
                      refine ⟨hkb, ?_⟩
                      rcases hfm with z | z
                      · exact Or.inl z.1
                      · exact Or.inr (show (bsF (fun s => TS (tr2 (H.1 2) s) (-1) (-1) (gK 0)) kk n).2 < (TS (tr2 (H.1 2) n) (-1) (-1) (gK 0)) by omega)
                    rw [e]
                    exact Or.inr ⟨by show (n : Int) ≠ -1; omega, rfl, rfl⟩
                  refine x_aload_n (pc := 163) dX10_best_163 (List.Mem.head _) ?_
                  refine z_getR (pc := 164) (k := 11) (r := 23) dX10_best_164 lf_X10_68 sh_20 rfl rf_20_11 ?_
                  refine x_iload (pc := 167) dX10_best_167 (List.Mem.tail _ (List.Mem.tail _ (List.Mem.tail _ (List.Mem.tail _ (List.Mem.tail _ (List.Mem.tail _ (List.Mem.head _))))))) ?_
                  refine z_lald (pc := 169) (j := (((H.1 2 34).toNat ^^^ n) &&& msk (H.1 2))) (v := (TS (tr2 (H.1 2) n) (-1) (-1) (gK 0))) dX10_best_169 sh_23 (by omega) (by omega) (by decide) (hT.trans hbe) ?_
                  refine x_lstore_n (pc := 170) dX10_best_170 (Nat.le_of_ble_eq_true rfl) ?_
                  show Ev _ _ _ _ _ [(3, .long (zL (((TS (tr2 (H.1 2) n) (-1) (-1) (gK 0)))))), (0, .ref 20), (1, .int (zN (kk))), (2, .int (zN ((((msk (H.1 2)) : Nat) : Int)))), (5, .int (zN (fo))), (6, .int (zN ((n : Int)))), (7, .int (zN ((((((H.1 2 34).toNat ^^^ n) &&& msk (H.1 2)) : Nat) : Int))))] _ _
                  refine x_iload (pc := 171) dX10_best_171 (List.Mem.tail _ (List.Mem.tail _ (List.Mem.tail _ (List.Mem.tail _ (List.Mem.tail _ (List.Mem.head _)))))) ?_
                  refine x_istore (pc := 173) dX10_best_173 (Nat.le_of_ble_eq_true rfl) ?_
                  show Ev _ _ _ _ _ [(5, .int (zN ((n : Int)))), (3, .long (zL (((TS (tr2 (H.1 2) n) (-1) (-1) (gK 0)))))), (0, .ref 20), (1, .int (zN (kk))), (2, .int (zN ((((msk (H.1 2)) : Nat) : Int)))), (6, .int (zN ((n : Int)))), (7, .int (zN ((((((H.1 2 34).toNat ^^^ n) &&& msk (H.1 2)) : Nat) : Int))))] _ _
                  have ca2 : (∀ t, t < 256 → Hj.2 23 t = -1 ∨ Hj.2 23 t = (TS (upA (H.1 2) 34 (((t : Nat)) : Int)) (-1) (-1) (gK 0))) ∧ ((∀ t, t < 256 → Hj.2 23 t = -1) ∨ Hj.2 116 0 = 100 ^ (H.1 2 1).toNat) := ⟨hc1, Or.inr h116⟩
                  refine x_lload_n (pc := 175) dX10_best_175 (List.Mem.tail _ (List.Mem.head _)) ?_
                  refine x_aload_n (pc := 176) dX10_best_176 (List.Mem.tail _ (List.Mem.tail _ (List.Mem.head _))) ?_
                  refine z_getR (pc := 177) (k := 10) (r := 116) dX10_best_177 lf_X10_65 sh_20 rfl rf_20_10 ?_
                  refine z_getJ (pc := 180) (k := 0) (v := ((100 : Int) ^ (H.1 2 1).toNat)) dX10_best_180 lf_X10_233 sh_116 rfl h116 ?_
                  refine z_lcmp_ne (pc := 183) (tgt := 190) dX10_best_183 dX10_best_184 (by decide) (by omega) (by omega) (by omega) (by omega) (fun hb18 => ?_) (fun hb18 => ?_)
                  · skip
                    refine z_iinc (pc := 190) dX10_best_190 (List.Mem.tail _ (List.Mem.tail _ (List.Mem.tail _ (List.Mem.tail _ (List.Mem.tail _ (List.Mem.head _)))))) (Nat.le_of_ble_eq_true rfl) ?_
                    show Ev _ _ _ _ _ [(6, .int (zN ((n : Int) + 1))), (5, .int (zN ((n : Int)))), (3, .long (zL (((TS (tr2 (H.1 2) n) (-1) (-1) (gK 0)))))), (0, .ref 20), (1, .int (zN (kk))), (2, .int (zN ((((msk (H.1 2)) : Nat) : Int)))), (7, .int (zN ((((((H.1 2 34).toNat ^^^ n) &&& msk (H.1 2)) : Nat) : Int))))] _ _
                    refine x_goto (pc := 193) (tgt := 66) dX10_best_193 (by decide) ?_
                    refine x_weaken (L1 := [(0, .ref 20), (1, .int (zN (kk))), (2, .int (zN ((((msk (H.1 2)) : Nat) : Int)))), (3, .long (zL (((TS (tr2 (H.1 2) n) (-1) (-1) (gK 0)))))), (5, .int (zN ((n : Int)))), (6, .int (zN ((((n + 1) : Nat) : Int))))]) (List.forall_mem_cons.mpr ⟨(List.Mem.tail _ (List.Mem.tail _ (List.Mem.tail _ (List.Mem.head _)))), (List.forall_mem_cons.mpr ⟨(List.Mem.tail _ (List.Mem.tail _ (List.Mem.tail _ (List.Mem.tail _ (List.Mem.head _))))), (List.forall_mem_cons.mpr ⟨(List.Mem.tail _ (List.Mem.tail _ (List.Mem.tail _ (List.Mem.tail _ (List.Mem.tail _ (List.Mem.head _)))))), (List.forall_mem_cons.mpr ⟨(List.Mem.tail _ (List.Mem.tail _ (List.Mem.head _))), (List.forall_mem_cons.mpr ⟨(List.Mem.tail _ (List.Mem.head _)), (List.forall_mem_cons.mpr ⟨(mem_ci (by omega) (List.Mem.head _)), (fun _ h => absurd h List.not_mem_nil)⟩)⟩)⟩)⟩)⟩)⟩) ?_
                    exact ih66 ((n + 1)) (((TS (tr2 (H.1 2) n) (-1) (-1) (gK 0)))) ((n : Int)) (u2) Hj okj151 (by omega) (fr2) (ru2) (ca2) (hfm2) (by omega)
                  · skip
                    refine x_iload (pc := 187) dX10_best_187 (List.Mem.head _) ?_
                    refine z_ireturn (pc := 189) dX10_best_189 rfl (Or.inl rfl) okj151 (by omega) (by omega) ?_
                    refine Or.inl ⟨by omega, ?_, fr2⟩
                    rcases hfm2 with z | z
                    · omega
                    · rw [bsF_fix (v := n + 1) (n := 256) (by omega) z.1 (fun x a b => by rw [← z.2.2]; exact Int.le_trans (vw x b) (by omega))]; exact z.2.1
              refine x_aload_n (pc := 100) dX10_best_100 (List.Mem.tail _ (List.Mem.head _)) ?_
              refine z_getR (pc := 101) (k := 11) (r := 23) dX10_best_101 lf_X10_68 sh_20 rfl rf_20_11 ?_
              refine x_iload (pc := 104) dX10_best_104 (List.Mem.head _) ?_
              refine z_lald (pc := 106) (j := (((((H.1 2 34).toNat) ^^^ (n))) &&& ((msk (H.1 2))))) (v := (Hm.2 23 (((H.1 2 34).toNat ^^^ n) &&& msk (H.1 2)))) dX10_best_106 sh_23 (by omega) (by omega) (by decide) rfl ?_
              refine z_lconst (pc := 107) 0 dX10_best_107 rfl ?_
              refine z_lcmp_ge (pc := 108) (tgt := 151) dX10_best_108 dX10_best_109 (by decide) (by omega) (by omega) (by decide) (by decide) (fun hb19 => ?_) (fun hb19 => ?_)
              · skip
                refine x_weaken (L1 := [(0, .ref 20), (1, .int (zN (kk))), (2, .int (zN ((((msk (H.1 2)) : Nat) : Int)))), (3, .long (zL (mo))), (5, .int (zN (fo))), (6, .int (zN ((n : Int)))), (7, .int (zN ((((((H.1 2 34).toNat ^^^ n) &&& msk (H.1 2)) : Nat) : Int))))]) (List.forall_mem_cons.mpr ⟨(List.Mem.tail _ (List.Mem.head _)), (List.forall_mem_cons.mpr ⟨(List.Mem.tail _ (List.Mem.tail _ (List.Mem.head _))), (List.forall_mem_cons.mpr ⟨(List.Mem.tail _ (List.Mem.tail _ (List.Mem.tail _ (List.Mem.head _)))), (List.forall_mem_cons.mpr ⟨(List.Mem.tail _ (List.Mem.tail _ (List.Mem.tail _ (List.Mem.tail _ (List.Mem.head _))))), (List.forall_mem_cons.mpr ⟨(List.Mem.tail _ (List.Mem.tail _ (List.Mem.tail _ (List.Mem.tail _ (List.Mem.tail _ (List.Mem.head _)))))), (List.forall_mem_cons.mpr ⟨(List.Mem.tail _ (List.Mem.tail _ (List.Mem.tail _ (List.Mem.tail _ (List.Mem.tail _ (List.Mem.tail _ (List.Mem.head _))))))), (List.forall_mem_cons.mpr ⟨(mem_ci (by omega) (List.Mem.head _)), (fun _ h => absurd h List.not_mem_nil)⟩)⟩)⟩)⟩)⟩)⟩)⟩) ?_
                exact jn151 (u) Hm ok14 (by first | exact FrP_tr frw FrP_23 | exact fr) (by first | exact RepSc_e (fun _ _ _ => rfl) ruw | exact ru) (by first | (rw [wJ1]; done) | exact (hca.1 (((H.1 2 34).toNat ^^^ n) &&& msk (H.1 2)) hTb).resolve_left (by omega)) (by first | (rw [wJ1c (by omega)]; exact hal) | exact hca.2.resolve_left (fun z => by have := z (((H.1 2 34).toNat ^^^ n) &&& msk (H.1 2)) hTb; omega)) (by first | exact (fun t h => by rw [wJp]; exact if z : t = (((H.1 2 34).toNat ^^^ n) &&& msk (H.1 2)) then Or.inr (by rw [if_pos z, z]) else by rw [if_neg z, h23]; exact hca.1 t h) | exact hca.1)
              · skip
                refine x_aload_n (pc := 112) dX10_best_112 (List.Mem.tail _ (List.Mem.head _)) ?_
                refine z_getR (pc := 113) (k := 9) (r := 50) dX10_best_113 lf_X10_62 sh_20 rfl rf_20_9 ?_
                refine x_iload (pc := 116) dX10_best_116 (List.Mem.head _) ?_
                refine z_putI (pc := 118) (k := 6) dX10_best_118 lp_X10_153 sh_50 rfl ?_
                have ok20 := okI ok14 50 6 (v := ((((((H.1 2 34).toNat) ^^^ (n))) &&& ((msk (H.1 2))) : Nat) : Int)) (by omega) (by omega)
                refine x_aload_n (pc := 121) dX10_best_121 (List.Mem.tail _ (List.Mem.head _)) ?_
                refine z_getR (pc := 122) (k := 10) (r := 116) dX10_best_122 lf_X10_65 sh_20 rfl rf_20_10 ?_
                refine x_aload_n (pc := 125) dX10_best_125 (List.Mem.tail _ (List.Mem.head _)) ?_
                refine z_getR (pc := 126) (k := 6) (r := 104) dX10_best_126 lf_X10_48 sh_20 rfl rf_20_6 ?_
                refine x_aload_n (pc := 129) dX10_best_129 (List.Mem.tail _ (List.Mem.head _)) ?_
                refine z_getR (pc := 130) (k := 9) (r := 50) dX10_best_130 lf_X10_62 sh_20 rfl rf_20_9 ?_
                refine z_iconst (pc := 133) dX10_best_133 ?_
                refine z_callVv (pc := 134) (i := mX9_weigh) (S := []) [.ref 104, .ref 50, .int (zN ((-1)))] dX10_best_134 ml_X10_236 ok_X9_weigh rfl sh_116 rfl rfl (Nat.le_of_ble_eq_true rfl) (c_X9_weigh (d := d) (t := 116) (s := 50) (q := (upA (H.1 2) 34 ((((((H.1 2 34).toNat ^^^ n) &&& msk (H.1 2)) : Nat)) : Int))) (k := ((-1))) (k1 := (by omega)) (k2 := (by omega)) (ok := ok20) (ht := isTr_116) (hs := isSc_50) (ws := wsx2) (rs := (rep_up ws (by omega) ru)) (rl := (lw_up (by omega) (lw_P FrP_50 rlm))) (wl := wlx2)) ?_
                intro Hw ok22 hp23
                obtain ⟨td2, ft⟩ := hp23
                have frw : FrP H Hw := FrP_tr (FrP_tr fr FrP_50) (FrP_tr116 ft)
                have ruw : RepSc Hw 50 (upA (H.1 2) 34 ((((((H.1 2 34).toNat ^^^ n) &&& msk (H.1 2)) : Nat)) : Int)) := RepSc_e (fun cc a b => funext (fun j => ft.1 cc j (by omega) (by omega))) (rep_up ws (by omega) ru)
                have hal : Hw.2 116 0 = (100 : Int) ^ (H.1 2 1).toNat := by have z := trd_0 td2; rw [e1x] at z; exact z
                have h23 : ∀ t, Hw.2 23 t = Hm.2 23 t := fun t => ft.2 23 t (by omega) (by omega) (by omega) (by omega)
                refine x_aload_n (pc := 137) dX10_best_137 (List.Mem.tail _ (List.Mem.head _)) ?_
                refine z_getR (pc := 138) (k := 11) (r := 23) dX10_best_138 lf_X10_68 sh_20 rfl rf_20_11 ?_
                refine x_iload (pc := 141) dX10_best_141 (List.Mem.head _) ?_
                refine x_aload_n (pc := 143) dX10_best_143 (List.Mem.tail _ (List.Mem.head _)) ?_
                refine z_getR (pc := 144) (k := 10) (r := 116) dX10_best_144 lf_X10_65 sh_20 rfl rf_20_10 ?_
                refine z_getJ (pc := 147) (k := 1) (v := (TS (upA (H.1 2) 34 ((((((H.1 2 34).toNat ^^^ n) &&& msk (H.1 2)) : Nat)) : Int)) (-1) (-1) (gK 0))) dX10_best_147 lf_X10_219 sh_116 rfl (trd_k td2 0 (by omega)) ?_
                refine z_last (pc := 150) (j := (((((H.1 2 34).toNat) ^^^ (n))) &&& ((msk (H.1 2))))) (v := ((TS (upA (H.1 2) 34 ((((((H.1 2 34).toNat ^^^ n) &&& msk (H.1 2)) : Nat)) : Int)) (-1) (-1) (gK 0)))) dX10_best_150 sh_23 (by omega) (by omega) (by decide) ?_
                have ok24 := okJ ok22 23 (((((H.1 2 34).toNat) ^^^ (n))) &&& ((msk (H.1 2)))) (v := ((TS (upA (H.1 2) 34 ((((((H.1 2 34).toNat ^^^ n) &&& msk (H.1 2)) : Nat)) : Int)) (-1) (-1) (gK 0)))) (by omega) (by omega)
                refine x_weaken (L1 := [(0, .ref 20), (1, .int (zN (kk))), (2, .int (zN ((((msk (H.1 2)) : Nat) : Int)))), (3, .long (zL (mo))), (5, .int (zN (fo))), (6, .int (zN ((n : Int)))), (7, .int (zN ((((((H.1 2 34).toNat ^^^ n) &&& msk (H.1 2)) : Nat) : Int))))]) (List.forall_mem_cons.mpr ⟨(List.Mem.tail _ (List.Mem.head _)), (List.forall_mem_cons.mpr ⟨(List.Mem.tail _ (List.Mem.tail _ (List.Mem.head _))), (List.forall_mem_cons.mpr ⟨(List.Mem.tail _ (List.Mem.tail _ (List.Mem.tail _ (List.Mem.head _)))), (List.forall_mem_cons.mpr ⟨(List.Mem.tail _ (List.Mem.tail _ (List.Mem.tail _ (List.Mem.tail _ (List.Mem.head _))))), (List.forall_mem_cons.mpr ⟨(List.Mem.tail _ (List.Mem.tail _ (List.Mem.tail _ (List.Mem.tail _ (List.Mem.tail _ (List.Mem.head _)))))), (List.forall_mem_cons.mpr ⟨(List.Mem.tail _ (List.Mem.tail _ (List.Mem.tail _ (List.Mem.tail _ (List.Mem.tail _ (List.Mem.tail _ (List.Mem.head _))))))), (List.forall_mem_cons.mpr ⟨(mem_ci (by omega) (List.Mem.head _)), (fun _ h => absurd h List.not_mem_nil)⟩)⟩)⟩)⟩)⟩)⟩)⟩) ?_
                exact jn151 (((((((H.1 2 34).toNat ^^^ n) &&& msk (H.1 2)) : Nat)) : Int)) (wJ Hw 23 ((((((H.1 2 34).toNat) ^^^ (n))) &&& ((msk (H.1 2))))) (((TS (upA (H.1 2) 34 ((((((H.1 2 34).toNat ^^^ n) &&& msk (H.1 2)) : Nat)) : Int)) (-1) (-1) (gK 0))))) ok24 (by first | exact FrP_tr frw FrP_23 | exact fr) (by first | exact RepSc_e (fun _ _ _ => rfl) ruw | exact ru) (by first | (rw [wJ1]; done) | exact (hca.1 (((H.1 2 34).toNat ^^^ n) &&& msk (H.1 2)) hTb).resolve_left (by omega)) (by first | (rw [wJ1c (by omega)]; exact hal) | exact hca.2.resolve_left (fun z => by have := z (((H.1 2 34).toNat ^^^ n) &&& msk (H.1 2)) hTb; omega)) (by first | exact (fun t h => by rw [wJp]; exact if z : t = (((H.1 2 34).toNat ^^^ n) &&& msk (H.1 2)) then Or.inr (by rw [if_pos z, z]) else by rw [if_neg z, h23]; exact hca.1 t h) | exact hca.1)
      refine x_weaken (L1 := [(0, .ref 20), (1, .int (zN (kk))), (2, .int (zN ((((msk (H.1 2)) : Nat) : Int)))), (3, .long (zL ((-1)))), (5, .int (zN (0))), (6, .int (zN (((0 : Nat) : Int))))]) (List.forall_mem_cons.mpr ⟨(List.Mem.tail _ (List.Mem.tail _ (List.Mem.tail _ (List.Mem.tail _ (List.Mem.head _))))), (List.forall_mem_cons.mpr ⟨(List.Mem.tail _ (List.Mem.tail _ (List.Mem.tail _ (List.Mem.tail _ (List.Mem.tail _ (List.Mem.head _)))))), (List.forall_mem_cons.mpr ⟨(mem_ci (rfl) (List.Mem.tail _ (List.Mem.tail _ (List.Mem.tail _ (List.Mem.head _))))), (List.forall_mem_cons.mpr ⟨(List.Mem.tail _ (List.Mem.tail _ (List.Mem.head _))), (List.forall_mem_cons.mpr ⟨(List.Mem.tail _ (List.Mem.head _)), (List.forall_mem_cons.mpr ⟨(mem_ci (by omega) (List.Mem.head _)), (fun _ h => absurd h List.not_mem_nil)⟩)⟩)⟩)⟩)⟩)⟩) ?_
      exact lp66 (256 - 0 + 1) (0) ((-1)) (0) ((H.1 2 34)) Ht ok10 (by omega) (fr0) (ru0) (ca0) (Or.inl ⟨rfl, rfl, rfl⟩) (Nat.lt_succ_self _)
    · skip
      refine x_aload_n (pc := 9) dX10_best_9 (List.Mem.head _) ?_
      refine z_bipush (pc := 10) dX10_best_10 bp_m3 ?_
      refine z_callVip (pc := 12) (i := mX10_refuse) (S := []) [.int (zN ((-3)))] dX10_best_12 ml_X10_97 ok_X10_refuse rfl sh_20 rfl (Or.inl rfl) (Nat.le_of_ble_eq_true rfl) (c_X10_refuse (d := d + 5) (code := ((-3))) (code1 := (by omega)) (code2 := (by omega)) (ok := ok) (cn := (by first | assumption | omega))) (fun r25a r25b ok26 => ?_)
      show Ev _ _ _ _ _ _ _ (eh (wI H 25 ((refIx ((-3)))) (H.1 25 (refIx ((-3))) + 1)))
      refine z_ireturn (pc := 15) dX10_best_15 rfl (Or.inl rfl) ok26 (by omega) (by omega) ?_
      exact Or.inr ⟨by omega, rfl, rfl⟩
