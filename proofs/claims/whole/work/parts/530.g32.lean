/-! GROUP G32: best of the class. -/
def ush (x k : Int32) : Int32 := (x.toUInt32 >>> (k.toUInt32 &&& Int32.toUInt32 31)).toInt32
def bcA (x : Int32) : Int32 := x - (ush x (zN 1) &&& zN 1431655765)
def bcB (x : Int32) : Int32 := (x &&& zN 858993459) + (ush x (zN 2) &&& zN 858993459)
def bcC (x : Int32) : Int32 := (x + ush x (zN 4)) &&& zN 252645135
def bcD (x : Int32) : Int32 := x + ush x (zN 8)
def bcE (x : Int32) : Int32 := x + ush x (zN 16)
def bcF (x : Int32) : Int32 := bcE (bcD (bcC (bcB (bcA x)))) &&& zN 63
theorem bc_ok : ∀ s : Fin 256, bcF (zN ((s : Nat) : Int)) = zN ((bcn s 8 : Nat) : Int) := by decide +kernel

theorem c_J6_bitCount_0f7a4 {d : Nat} {H : ZH} (ok : okZ H) {s : Nat} (hs : s < 256) : EvC zX (d + 1) mJ6_bitCount_0f7a4 [.int (zN ((s : Int)))] (eh H) (zPi (fun (rz : Int) (Hz : ZH) => rz = ((bcn s 8 : Int)) ∧ Hz = H)) := by
  obtain ⟨x, hx⟩ : ∃ x, x = zN ((s : Int)) := ⟨_, rfl⟩
  rw [← hx]
  show _ ∧ Ev zX mJ6_bitCount_0f7a4 (EvC zX d) (zPi (fun (rz : Int) (Hz : ZH) => rz = ((bcn s 8 : Int)) ∧ Hz = H)) 0 [(0, .int x)] [] (eh H)
  refine ⟨Nat.le_of_ble_eq_true rfl, ?_⟩
  refine x_iload_n (pc := 0) dJ6_bitCount_0f7a4_0 (List.Mem.head _) ?_
  refine x_iload_n (pc := 1) dJ6_bitCount_0f7a4_1 (List.Mem.head _) ?_
  refine z_iconst (pc := 2) dJ6_bitCount_0f7a4_2 ?_
  refine x_iushr (pc := 3) dJ6_bitCount_0f7a4_3 ?_
  refine z_ldc_w (pc := 4) 1431655765 dJ6_bitCount_0f7a4_4 cn_J6_265 (by decide) ?_
  refine x_iand (pc := 7) dJ6_bitCount_0f7a4_7 ?_
  refine x_isub (pc := 8) dJ6_bitCount_0f7a4_8 ?_
  refine x_istore_n (pc := 9) dJ6_bitCount_0f7a4_9 (Nat.le_of_ble_eq_true rfl) ?_
  show Ev _ _ _ _ _ [(0, .int (bcA x))] [] _
  refine x_iload_n (pc := 10) dJ6_bitCount_0f7a4_10 (List.Mem.head _) ?_
  refine z_ldc_w (pc := 11) 858993459 dJ6_bitCount_0f7a4_11 cn_J6_266 (by decide) ?_
  refine x_iand (pc := 14) dJ6_bitCount_0f7a4_14 ?_
  refine x_iload_n (pc := 15) dJ6_bitCount_0f7a4_15 (List.Mem.head _) ?_
  refine z_iconst (pc := 16) dJ6_bitCount_0f7a4_16 ?_
  refine x_iushr (pc := 17) dJ6_bitCount_0f7a4_17 ?_
  refine z_ldc_w (pc := 18) 858993459 dJ6_bitCount_0f7a4_18 cn_J6_266 (by decide) ?_
  refine x_iand (pc := 21) dJ6_bitCount_0f7a4_21 ?_
  refine x_iadd (pc := 22) dJ6_bitCount_0f7a4_22 ?_
  refine x_istore_n (pc := 23) dJ6_bitCount_0f7a4_23 (Nat.le_of_ble_eq_true rfl) ?_
  show Ev _ _ _ _ _ [(0, .int (bcB (bcA x)))] [] _
  refine x_iload_n (pc := 24) dJ6_bitCount_0f7a4_24 (List.Mem.head _) ?_
  refine x_iload_n (pc := 25) dJ6_bitCount_0f7a4_25 (List.Mem.head _) ?_
  refine z_iconst (pc := 26) dJ6_bitCount_0f7a4_26 ?_
  refine x_iushr (pc := 27) dJ6_bitCount_0f7a4_27 ?_
  refine x_iadd (pc := 28) dJ6_bitCount_0f7a4_28 ?_
  refine z_ldc_w (pc := 29) 252645135 dJ6_bitCount_0f7a4_29 cn_J6_267 (by decide) ?_
  refine x_iand (pc := 32) dJ6_bitCount_0f7a4_32 ?_
  refine x_istore_n (pc := 33) dJ6_bitCount_0f7a4_33 (Nat.le_of_ble_eq_true rfl) ?_
  show Ev _ _ _ _ _ [(0, .int (bcC (bcB (bcA x))))] [] _
  refine x_iload_n (pc := 34) dJ6_bitCount_0f7a4_34 (List.Mem.head _) ?_
  refine x_iload_n (pc := 35) dJ6_bitCount_0f7a4_35 (List.Mem.head _) ?_
  refine z_bipush (pc := 36) dJ6_bitCount_0f7a4_36 bp_8 ?_
  refine x_iushr (pc := 38) dJ6_bitCount_0f7a4_38 ?_
  refine x_iadd (pc := 39) dJ6_bitCount_0f7a4_39 ?_
  refine x_istore_n (pc := 40) dJ6_bitCount_0f7a4_40 (Nat.le_of_ble_eq_true rfl) ?_
  show Ev _ _ _ _ _ [(0, .int (bcD (bcC (bcB (bcA x)))))] [] _
  refine x_iload_n (pc := 41) dJ6_bitCount_0f7a4_41 (List.Mem.head _) ?_
  refine x_iload_n (pc := 42) dJ6_bitCount_0f7a4_42 (List.Mem.head _) ?_
  refine z_bipush (pc := 43) dJ6_bitCount_0f7a4_43 bp_16 ?_
  refine x_iushr (pc := 45) dJ6_bitCount_0f7a4_45 ?_
  refine x_iadd (pc := 46) dJ6_bitCount_0f7a4_46 ?_
  refine x_istore_n (pc := 47) dJ6_bitCount_0f7a4_47 (Nat.le_of_ble_eq_true rfl) ?_
  show Ev _ _ _ _ _ [(0, .int (bcE (bcD (bcC (bcB (bcA x))))))] [] _
  refine x_iload_n (pc := 48) dJ6_bitCount_0f7a4_48 (List.Mem.head _) ?_
  refine z_bipush (pc := 49) dJ6_bitCount_0f7a4_49 bp_63 ?_
  refine x_iand (pc := 51) dJ6_bitCount_0f7a4_51 ?_
  show Ev _ _ _ _ _ _ [.int (bcF x)] _
  have bl := bcn_le s 8
  rw [hx, show bcF (zN ((s : Int))) = zN ((bcn s 8 : Nat) : Int) from bc_ok ⟨s, hs⟩]
  exact z_ireturn (pc := 52) dJ6_bitCount_0f7a4_52 rfl (Or.inl rfl) ok (by omega) (by omega) ⟨rfl, rfl⟩

/-- how many steps the law has -/
def lend (q : Nat → Int) : Int := if q 40 = 0 then 0 else q (65 + ((q 40).toNat - 1))
theorem lend_bd {q : Nat → Int} (wl : WFL q) : 0 ≤ lend q ∧ lend q ≤ 199 := by
  have w := wl.1
  unfold lend
  by_cases z : q 40 = 0
  · rw [if_pos z]; decide
  · rw [if_neg z]
    have y := (wl.2 ((q 40).toNat - 1) (by omega)).2.1
    omega
theorem line_of {q : Nat → Int} (wl : WFL q) (i : Nat) : ∀ l : Nat, (l : Int) < q 40 → (i : Int) < q (65 + l) → ∃ m : Nat, (m : Int) < q 40 ∧ q (53 + m) ≤ (i : Int) ∧ (i : Int) < q (65 + m) := by
  intro l
  induction l with
  | zero =>
    intro hl hi
    have y := (wl.2 0 hl).2.2.1
    rw [if_pos rfl] at y
    exact ⟨0, hl, by omega, hi⟩
  | succ l ih =>
    intro hl hi
    have y := (wl.2 (l + 1) hl).2.2.1
    rw [if_neg (by omega), show l + 1 - 1 = l by omega] at y
    by_cases z : (i : Int) < q (65 + l)
    · exact ih (by omega) z
    · exact ⟨l + 1, hl, by omega, hi⟩
theorem lend_at {H : ZH} {q : Nat → Int} (rl : RepLw H q) (wl : WFL q) {i : Nat} (hi : (i : Int) < lend q) : (0 ≤ q (78 + 2 * i) ∧ q (78 + 2 * i) ≤ 999) ∧ H.1 62 i = (wordOf (q (77 + 2 * i)) : Int) * 1000 + q (78 + 2 * i) := by
  have w := wl.1
  unfold lend at hi
  by_cases z : q 40 = 0
  · rw [if_pos z] at hi; omega
  · rw [if_neg z] at hi
    obtain ⟨m, hm, h1, h2⟩ := line_of wl i _ (by omega) hi
    have b := (wl.2 m hm).2.1
    have y := (wl.2 m hm).2.2.2.2 (i - (q (53 + m)).toNat) (by omega)
    rw [show (q (53 + m)).toNat + (i - (q (53 + m)).toNat) = i by omega] at y
    exact ⟨y.2.2.2.2, (rl.2 m hm).2.2 i h2⟩
/-- the traits that the law asks for, as bits -/
def tam (q : Nat → Int) : Nat → Nat
  | 0 => 0
  | k + 1 => tam q k ||| (if wordOf (q (77 + 2 * k)) ≤ 7 then 2 ^ wordOf (q (77 + 2 * k)) else 0)
theorem tam_bd (q : Nat → Int) (k : Nat) : tam q k < 2 ^ 8 := by
  induction k with
  | zero => show 0 < 2 ^ 8; decide
  | succ k ih =>
    refine Nat.or_lt_two_pow ih ?_
    split
    · exact Nat.pow_lt_pow_right (by decide) (by omega)
    · decide
theorem tam_bit (q : Nat → Int) (n k : Nat) (hk : k < n) (hw : wordOf (q (77 + 2 * k)) ≤ 7) : (tam q n).testBit (wordOf (q (77 + 2 * k))) = true := by
  induction n with
  | zero => omega
  | succ n ih =>
    show (tam q n ||| (if wordOf (q (77 + 2 * n)) ≤ 7 then 2 ^ wordOf (q (77 + 2 * n)) else 0)).testBit _ = true
    rw [Nat.testBit_or]
    rcases Nat.lt_or_ge k n with z | z
    · rw [ih z, Bool.true_or]
    · rw [show n = k by omega, if_pos hw, Nat.testBit_two_pow_self, Bool.or_true]

theorem c_X1_traitsAsked {d : Nat} {H : ZH} (ok : okZ H) {q : Nat → Int} (rl : RepLw H q) (wl : WFL q) (lz : H.1 59 4 = lend q) : EvC zX (d + 1) mX1_traitsAsked [.ref 59] (eh H) (zPi (fun (rz : Int) (Hz : ZH) => rz = (((tam q (lend q).toNat : Nat) : Int)) ∧ Hz = H)) := by
  show _ ∧ Ev zX mX1_traitsAsked (EvC zX d) (zPi (fun (rz : Int) (Hz : ZH) => rz = (((tam q (lend q).toNat : Nat) : Int)) ∧ Hz = H)) 0 [(0, .ref 59)] [] (eh H)
  refine ⟨Nat.le_of_ble_eq_true rfl, ?_⟩
  have lb := lend_bd wl
  refine z_iconst (pc := 0) dX1_traitsAsked_0 ?_
  refine x_istore_n (pc := 1) dX1_traitsAsked_1 (Nat.le_of_ble_eq_true rfl) ?_
  show Ev _ _ _ _ _ [(1, .int (zN (0))), (0, .ref 59)] _ _
  refine z_iconst (pc := 2) dX1_traitsAsked_2 ?_
  refine x_istore_n (pc := 3) dX1_traitsAsked_3 (Nat.le_of_ble_eq_true rfl) ?_
  show Ev _ _ _ _ _ [(2, .int (zN (0))), (1, .int (zN (0))), (0, .ref 59)] _ _
  have lp4 : ∀ (nF : Nat) (k : Nat), ((k : Int) ≤ lend q) → (lend q).toNat - k < nF → Ev zX mX1_traitsAsked (EvC zX d) (zPi (fun (rz : Int) (Hz : ZH) => rz = (((tam q (lend q).toNat : Nat) : Int)) ∧ Hz = H)) 4 [(0, .ref 59), (1, .int (zN ((((tam q k) : Nat) : Int)))), (2, .int (zN ((k : Int))))] [] (eh H) := by
    intro nF
    induction nF with
    | zero => intro k hk hm; exact absurd hm (Nat.not_lt_zero _)
    | succ nF ih4 =>
      intro k hk hm
      have tb := tam_bd q k
      refine x_iload_n (pc := 4) dX1_traitsAsked_4 (List.Mem.tail _ (List.Mem.tail _ (List.Mem.head _))) ?_
      refine x_aload_n (pc := 5) dX1_traitsAsked_5 (List.Mem.head _) ?_
      refine z_getI (pc := 6) (k := 4) (v := (lend q)) dX1_traitsAsked_6 lf_X1_25 sh_59 rfl (by rw [lz]) ?_
      refine z_icmp_ge (pc := 9) (tgt := 45) dX1_traitsAsked_9 (by decide) (by omega) (by omega) (by omega) (by omega) (fun hb1 => ?_) (fun hb1 => ?_)
      · skip
        refine x_iload_n (pc := 45) dX1_traitsAsked_45 (List.Mem.tail _ (List.Mem.head _)) ?_
        refine z_ireturn (pc := 46) dX1_traitsAsked_46 rfl (Or.inl rfl) ok (by omega) (by omega) ?_
        exact ⟨by rw [show (lend q).toNat = k by omega], rfl⟩
      · skip
        obtain ⟨hv, hst⟩ := lend_at rl wl (i := k) (by omega)
        obtain ⟨z, hz0⟩ : ∃ z : Int, z = (wordOf (q (77 + 2 * k)) : Int) * 1000 + q (78 + 2 * k) := ⟨_, rfl⟩
        have lkw : H.1 62 k = z := hst.trans hz0.symm
        have ww := wordOf_le (q (77 + 2 * k))
        have ez : z / 1000 = (wordOf (q (77 + 2 * k)) : Int) := by omega
        refine x_aload_n (pc := 12) dX1_traitsAsked_12 (List.Mem.head _) ?_
        refine z_getR (pc := 13) (k := 3) (r := 62) dX1_traitsAsked_13 lf_X1_18 sh_59 rfl rf_59_3 ?_
        refine x_iload_n (pc := 16) dX1_traitsAsked_16 (List.Mem.tail _ (List.Mem.tail _ (List.Mem.head _))) ?_
        refine z_iald (pc := 17) (j := k) (v := z) dX1_traitsAsked_17 sh_62 rfl (by omega) (by decide) lkw ?_
        refine z_sipush (pc := 18) dX1_traitsAsked_18 sp_1000 ?_
        refine z_idivP (pc := 21) dX1_traitsAsked_21 (by omega) (by omega) (by omega) (by omega) ?_
        refine x_istore_n (pc := 22) dX1_traitsAsked_22 (Nat.le_of_ble_eq_true rfl) ?_
        show Ev _ _ _ _ _ [(3, .int (zN ((z / 1000)))), (0, .ref 59), (1, .int (zN ((((tam q k) : Nat) : Int)))), (2, .int (zN ((k : Int))))] _ _
        refine x_iload_n (pc := 23) dX1_traitsAsked_23 (List.Mem.tail _ (List.Mem.tail _ (List.Mem.head _))) ?_
        refine x_iload_n (pc := 24) dX1_traitsAsked_24 (List.Mem.head _) ?_
        refine z_bipush (pc := 25) dX1_traitsAsked_25 bp_7 ?_
        refine z_icmp_gt (pc := 27) (tgt := 36) dX1_traitsAsked_27 (by decide) (by omega) (by omega) (by decide) (by decide) (fun hb2 => ?_) (fun hb2 => ?_)
        · skip
          have hS : tam q (k + 1) = tam q k ||| 0 := by show tam q k ||| (if wordOf (q (77 + 2 * k)) ≤ 7 then 2 ^ wordOf (q (77 + 2 * k)) else 0) = _; rw [if_neg (by omega)]
          refine z_iconst (pc := 36) dX1_traitsAsked_36 ?_
          refine z_ior (pc := 37) (m := (tam q k)) (n := 0) dX1_traitsAsked_37 (by omega) rfl ?_
          refine x_istore_n (pc := 38) dX1_traitsAsked_38 (Nat.le_of_ble_eq_true rfl) ?_
          show Ev _ _ _ _ _ [(1, .int (zN (((((tam q k)) ||| (0) : Nat) : Int)))), (3, .int (zN ((z / 1000)))), (0, .ref 59), (2, .int (zN ((k : Int))))] _ _
          refine z_iinc (pc := 39) dX1_traitsAsked_39 (List.Mem.tail _ (List.Mem.tail _ (List.Mem.tail _ (List.Mem.head _)))) (Nat.le_of_ble_eq_true rfl) ?_
          show Ev _ _ _ _ _ [(2, .int (zN ((k : Int) + 1))), (1, .int (zN (((((tam q k)) ||| (0) : Nat) : Int)))), (3, .int (zN ((z / 1000)))), (0, .ref 59)] _ _
          refine x_goto (pc := 42) (tgt := 4) dX1_traitsAsked_42 (by decide) ?_
          refine x_weaken (L1 := [(0, .ref 59), (1, .int (zN ((((tam q (k + 1)) : Nat) : Int)))), (2, .int (zN ((((k + 1) : Nat) : Int))))]) (List.forall_mem_cons.mpr ⟨(List.Mem.tail _ (List.Mem.tail _ (List.Mem.tail _ (List.Mem.head _)))), (List.forall_mem_cons.mpr ⟨(mem_ci (congrArg (fun x : Nat => (x : Int)) hS) (List.Mem.tail _ (List.Mem.head _))), (List.forall_mem_cons.mpr ⟨(mem_ci (by omega) (List.Mem.head _)), (fun _ h => absurd h List.not_mem_nil)⟩)⟩)⟩) ?_
          exact ih4 ((k + 1)) (by first | assumption | omega) (by omega)
        · skip
          have hS : tam q (k + 1) = tam q k ||| 2 ^ wordOf (q (77 + 2 * k)) := by show tam q k ||| (if wordOf (q (77 + 2 * k)) ≤ 7 then 2 ^ wordOf (q (77 + 2 * k)) else 0) = _; rw [if_pos (by omega)]
          refine z_iconst (pc := 30) dX1_traitsAsked_30 ?_
          refine x_iload_n (pc := 31) dX1_traitsAsked_31 (List.Mem.head _) ?_
          refine z_ishl1 (pc := 32) (k := (wordOf (q (77 + 2 * k)))) dX1_traitsAsked_32 (by omega) (by omega) ?_
          refine x_goto (pc := 33) (tgt := 37) dX1_traitsAsked_33 (by decide) ?_
          refine z_ior (pc := 37) (m := (tam q k)) (n := (2 ^ (wordOf (q (77 + 2 * k))))) dX1_traitsAsked_37 (by omega) (by omega) ?_
          refine x_istore_n (pc := 38) dX1_traitsAsked_38 (Nat.le_of_ble_eq_true rfl) ?_
          show Ev _ _ _ _ _ [(1, .int (zN (((((tam q k)) ||| ((2 ^ (wordOf (q (77 + 2 * k))))) : Nat) : Int)))), (3, .int (zN ((z / 1000)))), (0, .ref 59), (2, .int (zN ((k : Int))))] _ _
          refine z_iinc (pc := 39) dX1_traitsAsked_39 (List.Mem.tail _ (List.Mem.tail _ (List.Mem.tail _ (List.Mem.head _)))) (Nat.le_of_ble_eq_true rfl) ?_
          show Ev _ _ _ _ _ [(2, .int (zN ((k : Int) + 1))), (1, .int (zN (((((tam q k)) ||| ((2 ^ (wordOf (q (77 + 2 * k))))) : Nat) : Int)))), (3, .int (zN ((z / 1000)))), (0, .ref 59)] _ _
          refine x_goto (pc := 42) (tgt := 4) dX1_traitsAsked_42 (by decide) ?_
          refine x_weaken (L1 := [(0, .ref 59), (1, .int (zN ((((tam q (k + 1)) : Nat) : Int)))), (2, .int (zN ((((k + 1) : Nat) : Int))))]) (List.forall_mem_cons.mpr ⟨(List.Mem.tail _ (List.Mem.tail _ (List.Mem.tail _ (List.Mem.head _)))), (List.forall_mem_cons.mpr ⟨(mem_ci (congrArg (fun x : Nat => (x : Int)) hS) (List.Mem.tail _ (List.Mem.head _))), (List.forall_mem_cons.mpr ⟨(mem_ci (by omega) (List.Mem.head _)), (fun _ h => absurd h List.not_mem_nil)⟩)⟩)⟩) ?_
          exact ih4 ((k + 1)) (by first | assumption | omega) (by omega)
  refine x_weaken (L1 := [(0, .ref 59), (1, .int (zN ((((tam q 0) : Nat) : Int)))), (2, .int (zN (((0 : Nat) : Int))))]) (List.forall_mem_cons.mpr ⟨(List.Mem.tail _ (List.Mem.tail _ (List.Mem.head _))), (List.forall_mem_cons.mpr ⟨(mem_ci (rfl) (List.Mem.tail _ (List.Mem.head _))), (List.forall_mem_cons.mpr ⟨(mem_ci (by omega) (List.Mem.head _)), (fun _ h => absurd h List.not_mem_nil)⟩)⟩)⟩) ?_
  exact lp4 ((lend q).toNat - 0 + 1) (0) (by first | assumption | omega) (Nat.lt_succ_self _)
