/-! GROUP E2: the tape, clumps, slip. -/
theorem zN_and255 (a : Int) : zN a &&& zN 255 = zN (a % 256) := by
  rw [pk_and (zN a) (m := zN 255) 8 (by decide), ← zN_nat]
  congr 1
  show (((BitVec.ofInt 32 a).toNat % 2 ^ 8 : Nat) : Int) = a % 256
  rw [BitVec.toNat_ofInt]
  omega
theorem z_iand255 {X : MX} {mi : MI} {C : MCall} {Rt : MPost} {pc : Nat} {L : ML} {S : List Value} {H : ZH} {a : Int} (dg : decode mi.2.1 pc = .ok (.iand, 1)) (kk : Ev X mi C Rt (pc + 1) L (.int (zN (a % 256)) :: S) (eh H)) : Ev X mi C Rt pc L (.int (zN 255) :: .int (zN a) :: S) (eh H) := x_iand dg (zN_and255 a ▸ kk)
/-- byte k of twenty -/
def fby (a b c d e : Int) (k : Nat) : Int := (if k < 4 then a else if k < 8 then b else if k < 12 then c else if k < 16 then d else e) / 2 ^ (24 - 8 * (k % 4)) % 256
theorem bmod256 (x : Int) : x.bmod 256 = (x % 256).bmod 256 := (Int.emod_bmod ..).symm
theorem div_rng {a : Int} (k : Nat) (h1 : -2147483648 ≤ a) (h2 : a ≤ 2147483647) : -2147483648 ≤ a / 2 ^ k ∧ a / 2 ^ k ≤ 2147483647 := by
  have hp : (0 : Int) < 2 ^ k := Int.pow_pos (by decide)
  constructor
  · apply (Int.le_ediv_iff_mul_le hp).mpr
    have h8 : (1 : Int) ≤ 2 ^ k := by omega
    have h7 : (2147483648 : Int) * 1 ≤ 2147483648 * 2 ^ k := Int.mul_le_mul_of_nonneg_left h8 (by decide)
    omega
  · rcases Int.le_total 0 a with h | h
    · exact Int.le_trans (Int.ediv_le_self _ h) h2
    · exact Int.le_trans (Int.ediv_nonpos_of_nonpos_of_neg h hp) (show (0 : Int) ≤ 2147483647 by decide)
def tape4 (H : ZH) (t : Nat) (x : Int) (n : Nat) : ZH := wI (wA H 21 (fun j => if t ≤ j ∧ j < t + n then (x / 2 ^ (24 - 8 * (j - t))).bmod 256 else H.1 21 j)) 20 1 ((t + n : Nat) : Int)
theorem tape4_0 {H : ZH} {t : Nat} (x : Int) (ht : H.1 20 1 = (t : Int)) : H = tape4 H t x 0 := by
  unfold tape4 wI wA
  refine Prod.ext ?_ rfl
  funext c' k'
  show H.1 c' k' = if c' = 20 ∧ k' = 1 then ((t + 0 : Nat) : Int) else if c' = 21 then (if t ≤ k' ∧ k' < t + 0 then (x / 2 ^ (24 - 8 * (k' - t))).bmod 256 else H.1 21 k') else H.1 c' k'
  split
  · next q => rw [q.1, q.2, ht]; rfl
  · split
    · next q => rw [if_neg (by omega), q]
    · rfl
theorem tape4_s (H : ZH) (t n : Nat) (x : Int) : wI (wI (tape4 H t x n) 21 (t + n) ((x / 2 ^ (24 - 8 * n)).bmod 256)) 20 1 ((t : Int) + n + 1) = tape4 H t x (n + 1) := by
  unfold tape4 wI wA
  refine Prod.ext ?_ rfl
  funext c' k'
  show (if c' = 20 ∧ k' = 1 then ((t : Int) + n + 1) else if c' = 21 ∧ k' = t + n then (x / 2 ^ (24 - 8 * n)).bmod 256 else if c' = 20 ∧ k' = 1 then ((t + n : Nat) : Int) else if c' = 21 then (if t ≤ k' ∧ k' < t + n then (x / 2 ^ (24 - 8 * (k' - t))).bmod 256 else H.1 21 k') else H.1 c' k') = if c' = 20 ∧ k' = 1 then ((t + (n + 1) : Nat) : Int) else if c' = 21 then (if t ≤ k' ∧ k' < t + (n + 1) then (x / 2 ^ (24 - 8 * (k' - t))).bmod 256 else H.1 21 k') else H.1 c' k'
  by_cases h1 : c' = 20 ∧ k' = 1
  · rw [if_pos h1, if_pos h1]; omega
  · rw [if_neg h1, if_neg h1, if_neg h1]
    by_cases h2 : c' = 21
    · rw [if_pos h2, if_pos h2]
      by_cases h3 : k' = t + n
      · rw [if_pos ⟨h2, h3⟩, if_pos (by omega), show k' - t = n by omega]
      · rw [if_neg (fun q => h3 q.2)]
        by_cases h4 : t ≤ k' ∧ k' < t + n
        · rw [if_pos h4, if_pos (by omega)]
        · rw [if_neg h4, if_neg (by omega)]
    · rw [if_neg (fun q => h2 q.1), if_neg h2, if_neg h2]
def feedC (H : ZH) (t : Nat) (a b c d e : Int) : ZH := wI (wA H 21 (fun j => if t ≤ j ∧ j < t + 20 then (fby a b c d e (j - t)).bmod 256 else H.1 21 j)) 20 1 ((t + 20 : Nat) : Int)
def feedM (H : ZH) (t : Nat) (a b c d e : Int) (n : Nat) : ZH := wI (wA H 4 (fun j => if t ≤ j ∧ j < t + n then fby a b c d e (j - t) else H.1 4 j)) 0 6 ((t + n : Nat) : Int)
theorem feedM_0 {H : ZH} {t : Nat} (a b c d e : Int) (ht : H.1 0 6 = (t : Int)) : H = feedM H t a b c d e 0 := by
  unfold feedM wI wA
  refine Prod.ext ?_ rfl
  funext c' k'
  show H.1 c' k' = if c' = 0 ∧ k' = 6 then ((t + 0 : Nat) : Int) else if c' = 4 then (if t ≤ k' ∧ k' < t + 0 then fby a b c d e (k' - t) else H.1 4 k') else H.1 c' k'
  split
  · next q => rw [q.1, q.2, ht]; rfl
  · split
    · next q => rw [if_neg (by omega), q]
    · rfl
theorem feedM_s (H : ZH) (t n : Nat) (a b c d e : Int) : wI (wI (feedM H t a b c d e n) 4 (t + n) (fby a b c d e n)) 0 6 ((t : Int) + n + 1) = feedM H t a b c d e (n + 1) := by
  unfold feedM wI wA
  refine Prod.ext ?_ rfl
  funext c' k'
  show (if c' = 0 ∧ k' = 6 then ((t : Int) + n + 1) else if c' = 4 ∧ k' = t + n then fby a b c d e n else if c' = 0 ∧ k' = 6 then ((t + n : Nat) : Int) else if c' = 4 then (if t ≤ k' ∧ k' < t + n then fby a b c d e (k' - t) else H.1 4 k') else H.1 c' k') = if c' = 0 ∧ k' = 6 then ((t + (n + 1) : Nat) : Int) else if c' = 4 then (if t ≤ k' ∧ k' < t + (n + 1) then fby a b c d e (k' - t) else H.1 4 k') else H.1 c' k'
  by_cases h1 : c' = 0 ∧ k' = 6
  · rw [if_pos h1, if_pos h1]; omega
  · rw [if_neg h1, if_neg h1, if_neg h1]
    by_cases h2 : c' = 4
    · rw [if_pos h2, if_pos h2]
      by_cases h3 : k' = t + n
      · rw [if_pos ⟨h2, h3⟩, if_pos (by omega), show k' - t = n by omega]
      · rw [if_neg (fun q => h3 q.2)]
        by_cases h4 : t ≤ k' ∧ k' < t + n
        · rw [if_pos h4, if_pos (by omega)]
        · rw [if_neg h4, if_neg (by omega)]
    · rw [if_neg (fun q => h2 q.1), if_neg h2, if_neg h2]
theorem tape4_at (H : ZH) (t : Nat) (x : Int) (n c k : Nat) : (tape4 H t x n).1 c k = if c = 20 ∧ k = 1 then ((t + n : Nat) : Int) else if c = 21 then (if t ≤ k ∧ k < t + n then (x / 2 ^ (24 - 8 * (k - t))).bmod 256 else H.1 21 k) else H.1 c k := rfl
theorem tape4_21 (H : ZH) (t : Nat) (x : Int) (n k : Nat) : (tape4 H t x n).1 21 k = if t ≤ k ∧ k < t + n then (x / 2 ^ (24 - 8 * (k - t))).bmod 256 else H.1 21 k := by
  rw [tape4_at, if_neg (by omega), if_pos rfl]
theorem tape4_o (H : ZH) (t : Nat) (x : Int) (n : Nat) {c k : Nat} (h : c ≠ 21) (h1 : ¬ (c = 20 ∧ k = 1)) : (tape4 H t x n).1 c k = H.1 c k := by
  rw [tape4_at, if_neg h1, if_neg h]
theorem feedC_at (H : ZH) (t : Nat) (a b c d e : Int) (c' k : Nat) : (feedC H t a b c d e).1 c' k = if c' = 20 ∧ k = 1 then ((t + 20 : Nat) : Int) else if c' = 21 then (if t ≤ k ∧ k < t + 20 then (fby a b c d e (k - t)).bmod 256 else H.1 21 k) else H.1 c' k := rfl
theorem feedC_5 (H : ZH) (t : Nat) (a b c d e : Int) : tape4 (tape4 (tape4 (tape4 (tape4 H t a 4) (t + 4) b 4) (t + 8) c 4) (t + 12) d 4) (t + 16) e 4 = feedC H t a b c d e := by
  refine Prod.ext ?_ rfl
  funext c' k'
  rw [feedC_at]
  by_cases h1 : c' = 20 ∧ k' = 1
  · rw [tape4_at, if_pos h1, if_pos h1]
  · rw [if_neg h1]
    by_cases h2 : c' = 21
    · subst h2
      rw [if_pos rfl, tape4_21]
      by_cases q0 : t ≤ k' ∧ k' < t + 20
      · rw [if_pos q0]
        unfold fby
        rw [← bmod256]
        by_cases q5 : t + 16 ≤ k'
        · rw [if_pos (by omega), if_neg (by omega), if_neg (by omega), if_neg (by omega), if_neg (by omega), show 24 - 8 * ((k' - t) % 4) = 24 - 8 * (k' - (t + 16)) by omega]
        · rw [if_neg (by omega), tape4_21]
          by_cases q4 : t + 12 ≤ k'
          · rw [if_pos (by omega), if_neg (by omega), if_neg (by omega), if_neg (by omega), if_pos (by omega), show 24 - 8 * ((k' - t) % 4) = 24 - 8 * (k' - (t + 12)) by omega]
          · rw [if_neg (by omega), tape4_21]
            by_cases q3 : t + 8 ≤ k'
            · rw [if_pos (by omega), if_neg (by omega), if_neg (by omega), if_pos (by omega), show 24 - 8 * ((k' - t) % 4) = 24 - 8 * (k' - (t + 8)) by omega]
            · rw [if_neg (by omega), tape4_21]
              by_cases q2 : t + 4 ≤ k'
              · rw [if_pos (by omega), if_neg (by omega), if_pos (by omega), show 24 - 8 * ((k' - t) % 4) = 24 - 8 * (k' - (t + 4)) by omega]
              · rw [if_neg (by omega), tape4_21, if_pos (by omega), if_pos (by omega), show 24 - 8 * ((k' - t) % 4) = 24 - 8 * (k' - t) by omega]
      · rw [if_neg q0, if_neg (by omega), tape4_21, if_neg (by omega), tape4_21, if_neg (by omega), tape4_21, if_neg (by omega), tape4_21, if_neg (by omega)]
    · rw [if_neg h2, tape4_o _ _ _ _ h2 h1, tape4_o _ _ _ _ h2 h1, tape4_o _ _ _ _ h2 h1, tape4_o _ _ _ _ h2 h1, tape4_o _ _ _ _ h2 h1]
theorem tape4_t (H : ZH) (t n : Nat) (x : Int) : (tape4 H t x n).1 20 1 = ((t + n : Nat) : Int) := wI1 _ _ _ _
theorem feedM_t (H : ZH) (t n : Nat) (a b c d e : Int) : (feedM H t a b c d e n).1 0 6 = ((t + n : Nat) : Int) := wI1 _ _ _ _
theorem fby_rng (a b c d e : Int) (k : Nat) : 0 ≤ fby a b c d e k ∧ fby a b c d e k ≤ 255 := by
  unfold fby
  omega
def S_feed (t : Int) : Int × Nat := if t + 20 ≤ 400 then (t + 20, 6) else (-5, 2)

theorem c_X10_putOnTape {d : Nat} {H : ZH} (ok : okZ H) {t : Nat} (t0 : t + 4 ≤ 400) {x : Int} (x1 : -2147483648 ≤ x) (x2 : x ≤ 2147483647) (ht : H.1 20 1 = (t : Int)) : EvC zX (d + 1) mX10_putOnTape [.ref 20, .int (zN (x))] (eh H) (zPv (fun (H1 : ZH) => H1 = tape4 H t x 4)) := by
  show _ ∧ Ev zX mX10_putOnTape (EvC zX d) (zPv (fun (H1 : ZH) => H1 = tape4 H t x 4)) 0 [(0, .ref 20), (1, .int (zN (x)))] [] (eh H)
  refine ⟨Nat.le_of_ble_eq_true rfl, ?_⟩
  refine z_bipush (pc := 0) dX10_putOnTape_0 bp_24 ?_
  refine x_istore_n (pc := 2) dX10_putOnTape_2 (Nat.le_of_ble_eq_true rfl) ?_
  show Ev _ _ _ _ _ [(2, .int (zN (24))), (0, .ref 20), (1, .int (zN (x)))] _ _
  have lp3 : ∀ (nF : Nat) (n : Nat) (Hl : ZH), okZ Hl → (n ≤ 4) → (Hl = tape4 H t x n) → 4 - n < nF → Ev zX mX10_putOnTape (EvC zX d) (zPv (fun (H1 : ZH) => H1 = tape4 H t x 4)) 3 [(0, .ref 20), (1, .int (zN (x))), (2, .int (zN ((24 - 8 * (n : Int)))))] [] (eh Hl) := by
    intro nF
    induction nF with
    | zero => intro n Hl okl3 hn eH hm; exact absurd hm (Nat.not_lt_zero _)
    | succ nF ih3 =>
      intro n Hl okl3 hn eH hm
      have hq : Hl.1 20 1 = (t : Int) + n := by rw [eH, tape4_t]; omega
      have dr := div_rng (24 - 8 * n) x1 x2
      have b8 := bm8 (x / 2 ^ (24 - 8 * n))
      refine x_iload_n (pc := 3) dX10_putOnTape_3 (List.Mem.tail _ (List.Mem.tail _ (List.Mem.head _))) ?_
      refine z_if_lt (pc := 4) (tgt := 46) dX10_putOnTape_4 (by decide) (by omega) (by omega) (fun hb1 => ?_) (fun hb1 => ?_)
      · skip
        refine z_vreturn (pc := 46) dX10_putOnTape_46 rfl okl3 ?_
        rw [eH, show n = 4 by omega]
      · skip
        refine x_aload_n (pc := 7) dX10_putOnTape_7 (List.Mem.head _) ?_
        refine z_getI (pc := 8) (k := 1) (v := ((t : Int) + n)) dX10_putOnTape_8 lf_X10_93 sh_20 rfl hq ?_
        skip
        refine z_sipush (pc := 11) dX10_putOnTape_11 sp_400 ?_
        refine z_icmp_ge (pc := 14) (tgt := 46) dX10_putOnTape_14 (by decide) (by omega) (by omega) (by decide) (by decide) (fun hb2 => ?_) (fun hb2 => ?_)
        · skip
          refine z_vreturn (pc := 46) dX10_putOnTape_46 rfl okl3 ?_
          rw [eH, show n = 4 by omega]
        · skip
          refine x_aload_n (pc := 17) dX10_putOnTape_17 (List.Mem.head _) ?_
          refine z_getR (pc := 18) (k := 0) (r := 21) dX10_putOnTape_18 lf_X10_9 sh_20 rfl rf_20_0 ?_
          refine x_aload_n (pc := 21) dX10_putOnTape_21 (List.Mem.head _) ?_
          refine z_getI (pc := 22) (k := 1) (v := ((t : Int) + n)) dX10_putOnTape_22 lf_X10_93 sh_20 rfl hq ?_
          refine x_iload_n (pc := 25) dX10_putOnTape_25 (List.Mem.tail _ (List.Mem.head _)) ?_
          refine x_iload_n (pc := 26) dX10_putOnTape_26 (List.Mem.tail _ (List.Mem.tail _ (List.Mem.head _))) ?_
          refine z_ishr (pc := 27) (k := 24 - 8 * n) dX10_putOnTape_27 (by omega) (by omega) (by omega) (by omega) ?_
          have rd3 := bm8 ((x / 2 ^ (24 - 8 * n)))
          refine z_i2b (pc := 28) dX10_putOnTape_28 ?_
          refine z_bast (pc := 29) (j := t + n) (v := (((x / 2 ^ (24 - 8 * n))).bmod 256)) dX10_putOnTape_29 sh_21 (by omega) (by omega) (by decide) (by omega) (by omega) ?_
          have ok4 := okI okl3 21 (t + n) (v := (((x / 2 ^ (24 - 8 * n))).bmod 256)) (by omega) (by omega)
          refine x_aload_n (pc := 30) dX10_putOnTape_30 (List.Mem.head _) ?_
          refine x_dup (pc := 31) dX10_putOnTape_31 rfl ?_
          refine z_getI (pc := 32) (k := 1) (v := ((t : Int) + n)) dX10_putOnTape_32 lf_X10_93 sh_20 rfl (by rw [wI1c (by omega)]; exact hq) ?_
          refine z_iconst (pc := 35) dX10_putOnTape_35 ?_
          refine z_iadd (pc := 36) dX10_putOnTape_36 ?_
          refine z_putI (pc := 37) (k := 1) dX10_putOnTape_37 lp_X10_93 sh_20 rfl ?_
          have ok5 := okI ok4 20 1 (v := ((((t : Int) + n)) + 1)) (by omega) (by omega)
          refine z_iinc (pc := 40) dX10_putOnTape_40 (List.Mem.tail _ (List.Mem.tail _ (List.Mem.head _))) (Nat.le_of_ble_eq_true rfl) ?_
          show Ev _ _ _ _ _ [(2, .int (zN ((24 - 8 * (n : Int)) + (-8)))), (0, .ref 20), (1, .int (zN (x)))] _ _
          refine x_goto (pc := 43) (tgt := 3) dX10_putOnTape_43 (by decide) ?_
          refine x_weaken (L1 := [(0, .ref 20), (1, .int (zN (x))), (2, .int (zN ((24 - 8 * (((n + 1) : Nat) : Int)))))]) (List.forall_mem_cons.mpr ⟨(List.Mem.tail _ (List.Mem.head _)), (List.forall_mem_cons.mpr ⟨(List.Mem.tail _ (List.Mem.tail _ (List.Mem.head _))), (List.forall_mem_cons.mpr ⟨(mem_ci (by omega) (List.Mem.head _)), (fun _ h => absurd h List.not_mem_nil)⟩)⟩)⟩) ?_
          exact ih3 ((n + 1)) (wI (wI Hl 21 (t + n) ((((x / 2 ^ (24 - 8 * n))).bmod 256))) 20 1 (((((t : Int) + n)) + 1))) ok5 (by omega) (by rw [eH]; exact tape4_s H t n x) (by omega)
  refine x_weaken (L1 := [(0, .ref 20), (1, .int (zN (x))), (2, .int (zN ((24 - 8 * ((0 : Nat) : Int)))))]) (List.forall_mem_cons.mpr ⟨(List.Mem.tail _ (List.Mem.head _)), (List.forall_mem_cons.mpr ⟨(List.Mem.tail _ (List.Mem.tail _ (List.Mem.head _))), (List.forall_mem_cons.mpr ⟨(mem_ci (by omega) (List.Mem.head _)), (fun _ h => absurd h List.not_mem_nil)⟩)⟩)⟩) ?_
  exact lp3 (4 - 0 + 1) (0) H ok (by omega) (tape4_0 x ht) (Nat.lt_succ_self _)

theorem c_X10_feed {d : Nat} {H : ZH} (ok : okZ H) {t : Nat} {a b c g f : Int} (a1 : -2147483648 ≤ a) (a2 : a ≤ 2147483647) (b1 : -2147483648 ≤ b) (b2 : b ≤ 2147483647) (c1 : -2147483648 ≤ c) (c2 : c ≤ 2147483647) (g1 : -2147483648 ≤ g) (g2 : g ≤ 2147483647) (f1 : -2147483648 ≤ f) (f2 : f ≤ 2147483647) (cn : cntOK H 25) (ht : H.1 20 1 = (t : Int)) (t4 : t ≤ 400) : EvC zX (d + 2) mX10_feed [.ref 20, .int (zN (a)), .int (zN (b)), .int (zN (c)), .int (zN (g)), .int (zN (f))] (eh H) (zPi (fun (r : Int) (H1 : ZH) => r = (S_feed (H.1 20 1)).1 ∧ H1 = if (S_feed (H.1 20 1)).2 = 6 then feedC H t a b c g f else bumpC (S_feed (H.1 20 1)).2 H)) := by
  show _ ∧ Ev zX mX10_feed (EvC zX (d + 1)) (zPi (fun (r : Int) (H1 : ZH) => r = (S_feed (H.1 20 1)).1 ∧ H1 = if (S_feed (H.1 20 1)).2 = 6 then feedC H t a b c g f else bumpC (S_feed (H.1 20 1)).2 H)) 0 [(0, .ref 20), (1, .int (zN (a))), (2, .int (zN (b))), (3, .int (zN (c))), (4, .int (zN (g))), (5, .int (zN (f)))] [] (eh H)
  refine ⟨Nat.le_of_ble_eq_true rfl, ?_⟩
  refine x_aload_n (pc := 0) dX10_feed_0 (List.Mem.head _) ?_
  have rd1 := ok.1 20 1
  refine z_getI (pc := 1) (k := 1) (v := H.1 20 1) dX10_feed_1 lf_X10_93 sh_20 rfl rfl ?_
  refine z_bipush (pc := 4) dX10_feed_4 bp_20 ?_
  refine z_iadd (pc := 6) dX10_feed_6 ?_
  refine z_sipush (pc := 7) dX10_feed_7 sp_400 ?_
  refine z_icmp_le (pc := 10) (tgt := 20) dX10_feed_10 (by decide) (by omega) (by omega) (by decide) (by decide) (fun hb2 => ?_) (fun hb2 => ?_)
  · skip
    refine x_aload_n (pc := 20) dX10_feed_20 (List.Mem.head _) ?_
    refine x_iload_n (pc := 21) dX10_feed_21 (List.Mem.tail _ (List.Mem.head _)) ?_
    refine z_callVv (pc := 22) (i := mX10_putOnTape) (S := []) [.int (zN (a))] dX10_feed_22 ml_X10_101 ok_X10_putOnTape rfl sh_20 rfl rfl (Nat.le_of_ble_eq_true rfl) (c_X10_putOnTape (d := d) (t := t) (t0 := (by omega)) (x := a) (x1 := (by omega)) (x2 := (by omega)) (ok := ok) (ht := ht)) ?_
    intro H6 ok4 hp5
    subst hp5
    refine x_aload_n (pc := 25) dX10_feed_25 (List.Mem.head _) ?_
    refine x_iload_n (pc := 26) dX10_feed_26 (List.Mem.tail _ (List.Mem.tail _ (List.Mem.head _))) ?_
    refine z_callVv (pc := 27) (i := mX10_putOnTape) (S := []) [.int (zN (b))] dX10_feed_27 ml_X10_101 ok_X10_putOnTape rfl sh_20 rfl rfl (Nat.le_of_ble_eq_true rfl) (c_X10_putOnTape (d := d) (t := (t + 4)) (t0 := (by omega)) (x := b) (x1 := (by omega)) (x2 := (by omega)) (ok := ok4) (ht := (tape4_t _ _ _ _))) ?_
    intro H10 ok8 hp9
    subst hp9
    refine x_aload_n (pc := 30) dX10_feed_30 (List.Mem.head _) ?_
    refine x_iload_n (pc := 31) dX10_feed_31 (List.Mem.tail _ (List.Mem.tail _ (List.Mem.tail _ (List.Mem.head _)))) ?_
    refine z_callVv (pc := 32) (i := mX10_putOnTape) (S := []) [.int (zN (c))] dX10_feed_32 ml_X10_101 ok_X10_putOnTape rfl sh_20 rfl rfl (Nat.le_of_ble_eq_true rfl) (c_X10_putOnTape (d := d) (t := (t + 8)) (t0 := (by omega)) (x := c) (x1 := (by omega)) (x2 := (by omega)) (ok := ok8) (ht := (tape4_t _ _ _ _))) ?_
    intro H14 ok12 hp13
    subst hp13
    refine x_aload_n (pc := 35) dX10_feed_35 (List.Mem.head _) ?_
    refine x_iload (pc := 36) dX10_feed_36 (List.Mem.tail _ (List.Mem.tail _ (List.Mem.tail _ (List.Mem.tail _ (List.Mem.head _))))) ?_
    refine z_callVv (pc := 38) (i := mX10_putOnTape) (S := []) [.int (zN (g))] dX10_feed_38 ml_X10_101 ok_X10_putOnTape rfl sh_20 rfl rfl (Nat.le_of_ble_eq_true rfl) (c_X10_putOnTape (d := d) (t := (t + 12)) (t0 := (by omega)) (x := g) (x1 := (by omega)) (x2 := (by omega)) (ok := ok12) (ht := (tape4_t _ _ _ _))) ?_
    intro H18 ok16 hp17
    subst hp17
    refine x_aload_n (pc := 41) dX10_feed_41 (List.Mem.head _) ?_
    refine x_iload (pc := 42) dX10_feed_42 (List.Mem.tail _ (List.Mem.tail _ (List.Mem.tail _ (List.Mem.tail _ (List.Mem.tail _ (List.Mem.head _)))))) ?_
    refine z_callVv (pc := 44) (i := mX10_putOnTape) (S := []) [.int (zN (f))] dX10_feed_44 ml_X10_101 ok_X10_putOnTape rfl sh_20 rfl rfl (Nat.le_of_ble_eq_true rfl) (c_X10_putOnTape (d := d) (t := (t + 16)) (t0 := (by omega)) (x := f) (x1 := (by omega)) (x2 := (by omega)) (ok := ok16) (ht := (tape4_t _ _ _ _))) ?_
    intro H22 ok20 hp21
    subst hp21
    refine x_aload_n (pc := 47) dX10_feed_47 (List.Mem.head _) ?_
    refine z_getI (pc := 48) (k := 1) (v := ((t + 16 + 4 : Nat) : Int)) dX10_feed_48 lf_X10_93 sh_20 rfl (tape4_t _ _ _ _) ?_
    refine z_ireturn (pc := 51) dX10_feed_51 rfl (Or.inl rfl) ok20 (by omega) (by omega) ?_
    have e : S_feed (H.1 20 1) = (H.1 20 1 + 20, 6) := by unfold S_feed; rw [if_pos (by omega)]
    rw [e]
    exact ⟨by omega, feedC_5 H t a b c g f⟩
  · skip
    refine x_aload_n (pc := 13) dX10_feed_13 (List.Mem.head _) ?_
    refine z_bipush (pc := 14) dX10_feed_14 bp_m5 ?_
    refine z_callVip (pc := 16) (i := mX10_refuse) (S := []) [.int (zN ((-5)))] dX10_feed_16 ml_X10_97 ok_X10_refuse rfl sh_20 rfl (Or.inl rfl) (Nat.le_of_ble_eq_true rfl) (c_X10_refuse (d := d) (code := ((-5))) (code1 := (by omega)) (code2 := (by omega)) (ok := ok) (cn := (by first | assumption | omega))) (fun r23a r23b ok24 => ?_)
    show Ev _ _ _ _ _ _ _ (eh (wI H 25 ((refIx ((-5)))) (H.1 25 (refIx ((-5))) + 1)))
    refine z_ireturn (pc := 19) dX10_feed_19 rfl (Or.inl rfl) ok24 (by omega) (by omega) ?_
    have e : S_feed (H.1 20 1) = (-5, 2) := by unfold S_feed; rw [if_neg (by omega)]
    rw [e]
    exact ⟨rfl, rfl⟩

theorem c_X11_feed {d : Nat} {H : ZH} (ok : okZ H) {t : Nat} {a b c g f : Int} (a1 : -2147483648 ≤ a) (a2 : a ≤ 2147483647) (b1 : -2147483648 ≤ b) (b2 : b ≤ 2147483647) (c1 : -2147483648 ≤ c) (c2 : c ≤ 2147483647) (g1 : -2147483648 ≤ g) (g2 : g ≤ 2147483647) (f1 : -2147483648 ≤ f) (f2 : f ≤ 2147483647) (cm : cntOK H 1) (th : H.1 0 0 = 0) (ht : H.1 0 6 = (t : Int)) (t4 : t ≤ 400) : EvC zX (d + 2) mX11_feed [.ref 0, .int (zN (a)), .int (zN (b)), .int (zN (c)), .int (zN (g)), .int (zN (f))] (eh H) (zPi (fun (r : Int) (H1 : ZH) => r = (S_feed (H.1 0 6)).1 ∧ H1 = if (S_feed (H.1 0 6)).2 = 6 then feedM H t a b c g f 20 else bumpM (S_feed (H.1 0 6)).2 H)) := by
  show _ ∧ Ev zX mX11_feed (EvC zX (d + 1)) (zPi (fun (r : Int) (H1 : ZH) => r = (S_feed (H.1 0 6)).1 ∧ H1 = if (S_feed (H.1 0 6)).2 = 6 then feedM H t a b c g f 20 else bumpM (S_feed (H.1 0 6)).2 H)) 0 [(0, .ref 0), (1, .int (zN (a))), (2, .int (zN (b))), (3, .int (zN (c))), (4, .int (zN (g))), (5, .int (zN (f)))] [] (eh H)
  refine ⟨Nat.le_of_ble_eq_true rfl, ?_⟩
  refine x_aload_n (pc := 0) dX11_feed_0 (List.Mem.head _) ?_
  refine z_iconst (pc := 1) dX11_feed_1 ?_
  refine z_putI (pc := 2) (k := 0) dX11_feed_2 lp_X11_1 sh_0 rfl ?_
  have ok1 := okI ok 0 0 (v := 0) (by decide) (by decide)
  rw [wI_same th]
  refine x_aload_n (pc := 5) dX11_feed_5 (List.Mem.head _) ?_
  have rd2 := ok.1 0 6
  refine z_getI (pc := 6) (k := 6) (v := H.1 0 6) dX11_feed_6 lf_X11_86 sh_0 rfl rfl ?_
  refine z_bipush (pc := 9) dX11_feed_9 bp_20 ?_
  refine z_iadd (pc := 11) dX11_feed_11 ?_
  refine z_sipush (pc := 12) dX11_feed_12 sp_400 ?_
  refine z_icmp_le (pc := 15) (tgt := 25) dX11_feed_15 (by decide) (by omega) (by omega) (by decide) (by decide) (fun hb3 => ?_) (fun hb3 => ?_)
  · skip
    refine z_iconst (pc := 25) dX11_feed_25 ?_
    refine x_istore (pc := 26) dX11_feed_26 (Nat.le_of_ble_eq_true rfl) ?_
    show Ev _ _ _ _ _ [(6, .int (zN (0))), (0, .ref 0), (1, .int (zN (a))), (2, .int (zN (b))), (3, .int (zN (c))), (4, .int (zN (g))), (5, .int (zN (f)))] _ _
    have lp28 : ∀ (nF : Nat) (n : Nat) (Hl : ZH), okZ Hl → (n ≤ 20) → (Hl = feedM H t a b c g f n) → 20 - n < nF → Ev zX mX11_feed (EvC zX (d + 1)) (zPi (fun (r : Int) (H1 : ZH) => r = (S_feed (H.1 0 6)).1 ∧ H1 = if (S_feed (H.1 0 6)).2 = 6 then feedM H t a b c g f 20 else bumpM (S_feed (H.1 0 6)).2 H)) 28 [(0, .ref 0), (1, .int (zN (a))), (2, .int (zN (b))), (3, .int (zN (c))), (4, .int (zN (g))), (5, .int (zN (f))), (6, .int (zN ((n : Int))))] [] (eh Hl) := by
      intro nF
      induction nF with
      | zero => intro n Hl okl28 hn eH hm; exact absurd hm (Nat.not_lt_zero _)
      | succ nF ih28 =>
        intro n Hl okl28 hn eH hm
        have hq : Hl.1 0 6 = (t : Int) + n := by rw [eH, feedM_t]; omega
        have da := div_rng (a := a) (24 - 8 * (n % 4)) a1 a2
        have db := div_rng (a := b) (24 - 8 * (n % 4)) b1 b2
        have dc := div_rng (a := c) (24 - 8 * (n % 4)) c1 c2
        have dg := div_rng (a := g) (24 - 8 * (n % 4)) g1 g2
        have df := div_rng (a := f) (24 - 8 * (n % 4)) f1 f2
        refine x_iload (pc := 28) dX11_feed_28 (List.Mem.tail _ (List.Mem.tail _ (List.Mem.tail _ (List.Mem.tail _ (List.Mem.tail _ (List.Mem.tail _ (List.Mem.head _))))))) ?_
        refine z_bipush (pc := 30) dX11_feed_30 bp_20 ?_
        refine z_icmp_ge (pc := 32) (tgt := 125) dX11_feed_32 (by decide) (by omega) (by omega) (by decide) (by decide) (fun hb4 => ?_) (fun hb4 => ?_)
        · skip
          refine x_aload_n (pc := 125) dX11_feed_125 (List.Mem.head _) ?_
          refine z_getI (pc := 126) (k := 6) (v := ((t : Int) + n)) dX11_feed_126 lf_X11_86 sh_0 rfl hq ?_
          refine z_ireturn (pc := 129) dX11_feed_129 rfl (Or.inl rfl) okl28 (by omega) (by omega) ?_
          have e : S_feed (H.1 0 6) = (H.1 0 6 + 20, 6) := by unfold S_feed; rw [if_pos (by omega)]
          rw [e]
          exact ⟨by omega, by rw [eH, show n = 20 by omega]; rfl⟩
        · skip
          refine x_iload (pc := 35) dX11_feed_35 (List.Mem.tail _ (List.Mem.tail _ (List.Mem.tail _ (List.Mem.tail _ (List.Mem.tail _ (List.Mem.tail _ (List.Mem.head _))))))) ?_
          refine z_iconst (pc := 37) dX11_feed_37 ?_
          refine z_icmp_ge (pc := 38) (tgt := 45) dX11_feed_38 (by decide) (by omega) (by omega) (by decide) (by decide) (fun hb5 => ?_) (fun hb5 => ?_)
          · skip
            refine x_iload (pc := 45) dX11_feed_45 (List.Mem.tail _ (List.Mem.tail _ (List.Mem.tail _ (List.Mem.tail _ (List.Mem.tail _ (List.Mem.tail _ (List.Mem.head _))))))) ?_
            refine z_bipush (pc := 47) dX11_feed_47 bp_8 ?_
            refine z_icmp_ge (pc := 49) (tgt := 56) dX11_feed_49 (by decide) (by omega) (by omega) (by decide) (by decide) (fun hb6 => ?_) (fun hb6 => ?_)
            · skip
              refine x_iload (pc := 56) dX11_feed_56 (List.Mem.tail _ (List.Mem.tail _ (List.Mem.tail _ (List.Mem.tail _ (List.Mem.tail _ (List.Mem.tail _ (List.Mem.head _))))))) ?_
              refine z_bipush (pc := 58) dX11_feed_58 bp_12 ?_
              refine z_icmp_ge (pc := 60) (tgt := 67) dX11_feed_60 (by decide) (by omega) (by omega) (by decide) (by decide) (fun hb7 => ?_) (fun hb7 => ?_)
              · skip
                refine x_iload (pc := 67) dX11_feed_67 (List.Mem.tail _ (List.Mem.tail _ (List.Mem.tail _ (List.Mem.tail _ (List.Mem.tail _ (List.Mem.tail _ (List.Mem.head _))))))) ?_
                refine z_bipush (pc := 69) dX11_feed_69 bp_16 ?_
                refine z_icmp_ge (pc := 71) (tgt := 79) dX11_feed_71 (by decide) (by omega) (by omega) (by decide) (by decide) (fun hb8 => ?_) (fun hb8 => ?_)
                · skip
                  refine x_iload (pc := 79) dX11_feed_79 (List.Mem.tail _ (List.Mem.tail _ (List.Mem.tail _ (List.Mem.tail _ (List.Mem.tail _ (List.Mem.head _)))))) ?_
                  refine x_istore (pc := 81) dX11_feed_81 (Nat.le_of_ble_eq_true rfl) ?_
                  show Ev _ _ _ _ _ [(7, .int (zN (f))), (0, .ref 0), (1, .int (zN (a))), (2, .int (zN (b))), (3, .int (zN (c))), (4, .int (zN (g))), (5, .int (zN (f))), (6, .int (zN ((n : Int))))] _ _
                  refine x_aload_n (pc := 83) dX11_feed_83 (List.Mem.tail _ (List.Mem.head _)) ?_
                  refine z_getR (pc := 84) (k := 4) (r := 4) dX11_feed_84 lf_X11_24 sh_0 rfl rf_0_4 ?_
                  refine x_aload_n (pc := 87) dX11_feed_87 (List.Mem.tail _ (List.Mem.head _)) ?_
                  refine z_getI (pc := 88) (k := 6) (v := ((t : Int) + n)) dX11_feed_88 lf_X11_86 sh_0 rfl hq ?_
                  refine x_iload (pc := 91) dX11_feed_91 (List.Mem.head _) ?_
                  refine z_bipush (pc := 93) dX11_feed_93 bp_24 ?_
                  refine z_bipush (pc := 95) dX11_feed_95 bp_8 ?_
                  refine x_iload (pc := 97) dX11_feed_97 (List.Mem.tail _ (List.Mem.tail _ (List.Mem.tail _ (List.Mem.tail _ (List.Mem.tail _ (List.Mem.tail _ (List.Mem.tail _ (List.Mem.head _)))))))) ?_
                  refine z_iconst (pc := 99) dX11_feed_99 ?_
                  refine z_iremP (pc := 100) dX11_feed_100 (by omega) (by omega) (by omega) (by omega) ?_
                  refine z_imul (pc := 101) dX11_feed_101 ?_
                  refine z_isub (pc := 102) dX11_feed_102 ?_
                  refine z_ishr (pc := 103) (k := 24 - 8 * (n % 4)) dX11_feed_103 (by omega) (by omega) (by omega) (by omega) ?_
                  refine z_sipush (pc := 104) dX11_feed_104 sp_255 ?_
                  refine z_iand255 (pc := 107) dX11_feed_107 ?_
                  refine z_iast (pc := 108) (j := t + n) (v := ((f / 2 ^ (24 - 8 * (n % 4))) % 256)) dX11_feed_108 sh_4 (by omega) (by omega) (by decide) ?_
                  have ok9 := okI okl28 4 (t + n) (v := ((f / 2 ^ (24 - 8 * (n % 4))) % 256)) (by omega) (by omega)
                  refine x_aload_n (pc := 109) dX11_feed_109 (List.Mem.tail _ (List.Mem.head _)) ?_
                  refine x_dup (pc := 110) dX11_feed_110 rfl ?_
                  refine z_getI (pc := 111) (k := 6) (v := ((t : Int) + n)) dX11_feed_111 lf_X11_86 sh_0 rfl (by rw [wI1c (by omega)]; exact hq) ?_
                  refine z_iconst (pc := 114) dX11_feed_114 ?_
                  refine z_iadd (pc := 115) dX11_feed_115 ?_
                  refine z_putI (pc := 116) (k := 6) dX11_feed_116 lp_X11_86 sh_0 rfl ?_
                  have ok10 := okI ok9 0 6 (v := ((((t : Int) + n)) + 1)) (by omega) (by omega)
                  have fbx : fby a b c g f n = ((f / 2 ^ (24 - 8 * (n % 4))) % 256) := by unfold fby; first | rw [if_pos (by omega)] | rw [if_neg (by omega), if_pos (by omega)] | rw [if_neg (by omega), if_neg (by omega), if_pos (by omega)] | rw [if_neg (by omega), if_neg (by omega), if_neg (by omega), if_pos (by omega)] | rw [if_neg (by omega), if_neg (by omega), if_neg (by omega), if_neg (by omega)]
                  refine z_iinc (pc := 119) dX11_feed_119 (List.Mem.tail _ (List.Mem.tail _ (List.Mem.tail _ (List.Mem.tail _ (List.Mem.tail _ (List.Mem.tail _ (List.Mem.tail _ (List.Mem.head _)))))))) (Nat.le_of_ble_eq_true rfl) ?_
                  show Ev _ _ _ _ _ [(6, .int (zN ((n : Int) + 1))), (7, .int (zN (f))), (0, .ref 0), (1, .int (zN (a))), (2, .int (zN (b))), (3, .int (zN (c))), (4, .int (zN (g))), (5, .int (zN (f)))] _ _
                  refine x_goto (pc := 122) (tgt := 28) dX11_feed_122 (by decide) ?_
                  refine x_weaken (L1 := [(0, .ref 0), (1, .int (zN (a))), (2, .int (zN (b))), (3, .int (zN (c))), (4, .int (zN (g))), (5, .int (zN (f))), (6, .int (zN ((((n + 1) : Nat) : Int))))]) (List.forall_mem_cons.mpr ⟨(List.Mem.tail _ (List.Mem.tail _ (List.Mem.head _))), (List.forall_mem_cons.mpr ⟨(List.Mem.tail _ (List.Mem.tail _ (List.Mem.tail _ (List.Mem.head _)))), (List.forall_mem_cons.mpr ⟨(List.Mem.tail _ (List.Mem.tail _ (List.Mem.tail _ (List.Mem.tail _ (List.Mem.head _))))), (List.forall_mem_cons.mpr ⟨(List.Mem.tail _ (List.Mem.tail _ (List.Mem.tail _ (List.Mem.tail _ (List.Mem.tail _ (List.Mem.head _)))))), (List.forall_mem_cons.mpr ⟨(List.Mem.tail _ (List.Mem.tail _ (List.Mem.tail _ (List.Mem.tail _ (List.Mem.tail _ (List.Mem.tail _ (List.Mem.head _))))))), (List.forall_mem_cons.mpr ⟨(List.Mem.tail _ (List.Mem.tail _ (List.Mem.tail _ (List.Mem.tail _ (List.Mem.tail _ (List.Mem.tail _ (List.Mem.tail _ (List.Mem.head _)))))))), (List.forall_mem_cons.mpr ⟨(mem_ci (by omega) (List.Mem.head _)), (fun _ h => absurd h List.not_mem_nil)⟩)⟩)⟩)⟩)⟩)⟩)⟩) ?_
                  exact ih28 ((n + 1)) (wI (wI Hl 4 (t + n) (((f / 2 ^ (24 - 8 * (n % 4))) % 256))) 0 6 (((((t : Int) + n)) + 1))) ok10 (by omega) (by rw [eH, ← fbx]; exact feedM_s H t n a b c g f) (by omega)
                · skip
                  refine x_iload (pc := 74) dX11_feed_74 (List.Mem.tail _ (List.Mem.tail _ (List.Mem.tail _ (List.Mem.tail _ (List.Mem.head _))))) ?_
                  refine x_goto (pc := 76) (tgt := 81) dX11_feed_76 (by decide) ?_
                  refine x_istore (pc := 81) dX11_feed_81 (Nat.le_of_ble_eq_true rfl) ?_
                  show Ev _ _ _ _ _ [(7, .int (zN (g))), (0, .ref 0), (1, .int (zN (a))), (2, .int (zN (b))), (3, .int (zN (c))), (4, .int (zN (g))), (5, .int (zN (f))), (6, .int (zN ((n : Int))))] _ _
                  refine x_aload_n (pc := 83) dX11_feed_83 (List.Mem.tail _ (List.Mem.head _)) ?_
                  refine z_getR (pc := 84) (k := 4) (r := 4) dX11_feed_84 lf_X11_24 sh_0 rfl rf_0_4 ?_
                  refine x_aload_n (pc := 87) dX11_feed_87 (List.Mem.tail _ (List.Mem.head _)) ?_
                  refine z_getI (pc := 88) (k := 6) (v := ((t : Int) + n)) dX11_feed_88 lf_X11_86 sh_0 rfl hq ?_
                  refine x_iload (pc := 91) dX11_feed_91 (List.Mem.head _) ?_
                  refine z_bipush (pc := 93) dX11_feed_93 bp_24 ?_
                  refine z_bipush (pc := 95) dX11_feed_95 bp_8 ?_
                  refine x_iload (pc := 97) dX11_feed_97 (List.Mem.tail _ (List.Mem.tail _ (List.Mem.tail _ (List.Mem.tail _ (List.Mem.tail _ (List.Mem.tail _ (List.Mem.tail _ (List.Mem.head _)))))))) ?_
                  refine z_iconst (pc := 99) dX11_feed_99 ?_
                  refine z_iremP (pc := 100) dX11_feed_100 (by omega) (by omega) (by omega) (by omega) ?_
                  refine z_imul (pc := 101) dX11_feed_101 ?_
                  refine z_isub (pc := 102) dX11_feed_102 ?_
                  refine z_ishr (pc := 103) (k := 24 - 8 * (n % 4)) dX11_feed_103 (by omega) (by omega) (by omega) (by omega) ?_
                  refine z_sipush (pc := 104) dX11_feed_104 sp_255 ?_
                  refine z_iand255 (pc := 107) dX11_feed_107 ?_
                  refine z_iast (pc := 108) (j := t + n) (v := ((g / 2 ^ (24 - 8 * (n % 4))) % 256)) dX11_feed_108 sh_4 (by omega) (by omega) (by decide) ?_
                  have ok11 := okI okl28 4 (t + n) (v := ((g / 2 ^ (24 - 8 * (n % 4))) % 256)) (by omega) (by omega)
                  refine x_aload_n (pc := 109) dX11_feed_109 (List.Mem.tail _ (List.Mem.head _)) ?_
                  refine x_dup (pc := 110) dX11_feed_110 rfl ?_
                  refine z_getI (pc := 111) (k := 6) (v := ((t : Int) + n)) dX11_feed_111 lf_X11_86 sh_0 rfl (by rw [wI1c (by omega)]; exact hq) ?_
                  refine z_iconst (pc := 114) dX11_feed_114 ?_
                  refine z_iadd (pc := 115) dX11_feed_115 ?_
                  refine z_putI (pc := 116) (k := 6) dX11_feed_116 lp_X11_86 sh_0 rfl ?_
                  have ok12 := okI ok11 0 6 (v := ((((t : Int) + n)) + 1)) (by omega) (by omega)
                  have fbx : fby a b c g f n = ((g / 2 ^ (24 - 8 * (n % 4))) % 256) := by unfold fby; first | rw [if_pos (by omega)] | rw [if_neg (by omega), if_pos (by omega)] | rw [if_neg (by omega), if_neg (by omega), if_pos (by omega)] | rw [if_neg (by omega), if_neg (by omega), if_neg (by omega), if_pos (by omega)] | rw [if_neg (by omega), if_neg (by omega), if_neg (by omega), if_neg (by omega)]
                  refine z_iinc (pc := 119) dX11_feed_119 (List.Mem.tail _ (List.Mem.tail _ (List.Mem.tail _ (List.Mem.tail _ (List.Mem.tail _ (List.Mem.tail _ (List.Mem.tail _ (List.Mem.head _)))))))) (Nat.le_of_ble_eq_true rfl) ?_
                  show Ev _ _ _ _ _ [(6, .int (zN ((n : Int) + 1))), (7, .int (zN (g))), (0, .ref 0), (1, .int (zN (a))), (2, .int (zN (b))), (3, .int (zN (c))), (4, .int (zN (g))), (5, .int (zN (f)))] _ _
                  refine x_goto (pc := 122) (tgt := 28) dX11_feed_122 (by decide) ?_
                  refine x_weaken (L1 := [(0, .ref 0), (1, .int (zN (a))), (2, .int (zN (b))), (3, .int (zN (c))), (4, .int (zN (g))), (5, .int (zN (f))), (6, .int (zN ((((n + 1) : Nat) : Int))))]) (List.forall_mem_cons.mpr ⟨(List.Mem.tail _ (List.Mem.tail _ (List.Mem.head _))), (List.forall_mem_cons.mpr ⟨(List.Mem.tail _ (List.Mem.tail _ (List.Mem.tail _ (List.Mem.head _)))), (List.forall_mem_cons.mpr ⟨(List.Mem.tail _ (List.Mem.tail _ (List.Mem.tail _ (List.Mem.tail _ (List.Mem.head _))))), (List.forall_mem_cons.mpr ⟨(List.Mem.tail _ (List.Mem.tail _ (List.Mem.tail _ (List.Mem.tail _ (List.Mem.tail _ (List.Mem.head _)))))), (List.forall_mem_cons.mpr ⟨(List.Mem.tail _ (List.Mem.tail _ (List.Mem.tail _ (List.Mem.tail _ (List.Mem.tail _ (List.Mem.tail _ (List.Mem.head _))))))), (List.forall_mem_cons.mpr ⟨(List.Mem.tail _ (List.Mem.tail _ (List.Mem.tail _ (List.Mem.tail _ (List.Mem.tail _ (List.Mem.tail _ (List.Mem.tail _ (List.Mem.head _)))))))), (List.forall_mem_cons.mpr ⟨(mem_ci (by omega) (List.Mem.head _)), (fun _ h => absurd h List.not_mem_nil)⟩)⟩)⟩)⟩)⟩)⟩)⟩) ?_
                  exact ih28 ((n + 1)) (wI (wI Hl 4 (t + n) (((g / 2 ^ (24 - 8 * (n % 4))) % 256))) 0 6 (((((t : Int) + n)) + 1))) ok12 (by omega) (by rw [eH, ← fbx]; exact feedM_s H t n a b c g f) (by omega)
              · skip
                refine x_iload_n (pc := 63) dX11_feed_63 (List.Mem.tail _ (List.Mem.tail _ (List.Mem.tail _ (List.Mem.head _)))) ?_
                refine x_goto (pc := 64) (tgt := 81) dX11_feed_64 (by decide) ?_
                refine x_istore (pc := 81) dX11_feed_81 (Nat.le_of_ble_eq_true rfl) ?_
                show Ev _ _ _ _ _ [(7, .int (zN (c))), (0, .ref 0), (1, .int (zN (a))), (2, .int (zN (b))), (3, .int (zN (c))), (4, .int (zN (g))), (5, .int (zN (f))), (6, .int (zN ((n : Int))))] _ _
                refine x_aload_n (pc := 83) dX11_feed_83 (List.Mem.tail _ (List.Mem.head _)) ?_
                refine z_getR (pc := 84) (k := 4) (r := 4) dX11_feed_84 lf_X11_24 sh_0 rfl rf_0_4 ?_
                refine x_aload_n (pc := 87) dX11_feed_87 (List.Mem.tail _ (List.Mem.head _)) ?_
                refine z_getI (pc := 88) (k := 6) (v := ((t : Int) + n)) dX11_feed_88 lf_X11_86 sh_0 rfl hq ?_
                refine x_iload (pc := 91) dX11_feed_91 (List.Mem.head _) ?_
                refine z_bipush (pc := 93) dX11_feed_93 bp_24 ?_
                refine z_bipush (pc := 95) dX11_feed_95 bp_8 ?_
                refine x_iload (pc := 97) dX11_feed_97 (List.Mem.tail _ (List.Mem.tail _ (List.Mem.tail _ (List.Mem.tail _ (List.Mem.tail _ (List.Mem.tail _ (List.Mem.tail _ (List.Mem.head _)))))))) ?_
                refine z_iconst (pc := 99) dX11_feed_99 ?_
                refine z_iremP (pc := 100) dX11_feed_100 (by omega) (by omega) (by omega) (by omega) ?_
                refine z_imul (pc := 101) dX11_feed_101 ?_
                refine z_isub (pc := 102) dX11_feed_102 ?_
                refine z_ishr (pc := 103) (k := 24 - 8 * (n % 4)) dX11_feed_103 (by omega) (by omega) (by omega) (by omega) ?_
                refine z_sipush (pc := 104) dX11_feed_104 sp_255 ?_
                refine z_iand255 (pc := 107) dX11_feed_107 ?_
                refine z_iast (pc := 108) (j := t + n) (v := ((c / 2 ^ (24 - 8 * (n % 4))) % 256)) dX11_feed_108 sh_4 (by omega) (by omega) (by decide) ?_
                have ok13 := okI okl28 4 (t + n) (v := ((c / 2 ^ (24 - 8 * (n % 4))) % 256)) (by omega) (by omega)
                refine x_aload_n (pc := 109) dX11_feed_109 (List.Mem.tail _ (List.Mem.head _)) ?_
                refine x_dup (pc := 110) dX11_feed_110 rfl ?_
                refine z_getI (pc := 111) (k := 6) (v := ((t : Int) + n)) dX11_feed_111 lf_X11_86 sh_0 rfl (by rw [wI1c (by omega)]; exact hq) ?_
                refine z_iconst (pc := 114) dX11_feed_114 ?_
                refine z_iadd (pc := 115) dX11_feed_115 ?_
                refine z_putI (pc := 116) (k := 6) dX11_feed_116 lp_X11_86 sh_0 rfl ?_
                have ok14 := okI ok13 0 6 (v := ((((t : Int) + n)) + 1)) (by omega) (by omega)
                have fbx : fby a b c g f n = ((c / 2 ^ (24 - 8 * (n % 4))) % 256) := by unfold fby; first | rw [if_pos (by omega)] | rw [if_neg (by omega), if_pos (by omega)] | rw [if_neg (by omega), if_neg (by omega), if_pos (by omega)] | rw [if_neg (by omega), if_neg (by omega), if_neg (by omega), if_pos (by omega)] | rw [if_neg (by omega), if_neg (by omega), if_neg (by omega), if_neg (by omega)]
                refine z_iinc (pc := 119) dX11_feed_119 (List.Mem.tail _ (List.Mem.tail _ (List.Mem.tail _ (List.Mem.tail _ (List.Mem.tail _ (List.Mem.tail _ (List.Mem.tail _ (List.Mem.head _)))))))) (Nat.le_of_ble_eq_true rfl) ?_
                show Ev _ _ _ _ _ [(6, .int (zN ((n : Int) + 1))), (7, .int (zN (c))), (0, .ref 0), (1, .int (zN (a))), (2, .int (zN (b))), (3, .int (zN (c))), (4, .int (zN (g))), (5, .int (zN (f)))] _ _
                refine x_goto (pc := 122) (tgt := 28) dX11_feed_122 (by decide) ?_
                refine x_weaken (L1 := [(0, .ref 0), (1, .int (zN (a))), (2, .int (zN (b))), (3, .int (zN (c))), (4, .int (zN (g))), (5, .int (zN (f))), (6, .int (zN ((((n + 1) : Nat) : Int))))]) (List.forall_mem_cons.mpr ⟨(List.Mem.tail _ (List.Mem.tail _ (List.Mem.head _))), (List.forall_mem_cons.mpr ⟨(List.Mem.tail _ (List.Mem.tail _ (List.Mem.tail _ (List.Mem.head _)))), (List.forall_mem_cons.mpr ⟨(List.Mem.tail _ (List.Mem.tail _ (List.Mem.tail _ (List.Mem.tail _ (List.Mem.head _))))), (List.forall_mem_cons.mpr ⟨(List.Mem.tail _ (List.Mem.tail _ (List.Mem.tail _ (List.Mem.tail _ (List.Mem.tail _ (List.Mem.head _)))))), (List.forall_mem_cons.mpr ⟨(List.Mem.tail _ (List.Mem.tail _ (List.Mem.tail _ (List.Mem.tail _ (List.Mem.tail _ (List.Mem.tail _ (List.Mem.head _))))))), (List.forall_mem_cons.mpr ⟨(List.Mem.tail _ (List.Mem.tail _ (List.Mem.tail _ (List.Mem.tail _ (List.Mem.tail _ (List.Mem.tail _ (List.Mem.tail _ (List.Mem.head _)))))))), (List.forall_mem_cons.mpr ⟨(mem_ci (by omega) (List.Mem.head _)), (fun _ h => absurd h List.not_mem_nil)⟩)⟩)⟩)⟩)⟩)⟩)⟩) ?_
                exact ih28 ((n + 1)) (wI (wI Hl 4 (t + n) (((c / 2 ^ (24 - 8 * (n % 4))) % 256))) 0 6 (((((t : Int) + n)) + 1))) ok14 (by omega) (by rw [eH, ← fbx]; exact feedM_s H t n a b c g f) (by omega)
            · skip
              refine x_iload_n (pc := 52) dX11_feed_52 (List.Mem.tail _ (List.Mem.tail _ (List.Mem.head _))) ?_
              refine x_goto (pc := 53) (tgt := 81) dX11_feed_53 (by decide) ?_
              refine x_istore (pc := 81) dX11_feed_81 (Nat.le_of_ble_eq_true rfl) ?_
              show Ev _ _ _ _ _ [(7, .int (zN (b))), (0, .ref 0), (1, .int (zN (a))), (2, .int (zN (b))), (3, .int (zN (c))), (4, .int (zN (g))), (5, .int (zN (f))), (6, .int (zN ((n : Int))))] _ _
              refine x_aload_n (pc := 83) dX11_feed_83 (List.Mem.tail _ (List.Mem.head _)) ?_
              refine z_getR (pc := 84) (k := 4) (r := 4) dX11_feed_84 lf_X11_24 sh_0 rfl rf_0_4 ?_
              refine x_aload_n (pc := 87) dX11_feed_87 (List.Mem.tail _ (List.Mem.head _)) ?_
              refine z_getI (pc := 88) (k := 6) (v := ((t : Int) + n)) dX11_feed_88 lf_X11_86 sh_0 rfl hq ?_
              refine x_iload (pc := 91) dX11_feed_91 (List.Mem.head _) ?_
              refine z_bipush (pc := 93) dX11_feed_93 bp_24 ?_
              refine z_bipush (pc := 95) dX11_feed_95 bp_8 ?_
              refine x_iload (pc := 97) dX11_feed_97 (List.Mem.tail _ (List.Mem.tail _ (List.Mem.tail _ (List.Mem.tail _ (List.Mem.tail _ (List.Mem.tail _ (List.Mem.tail _ (List.Mem.head _)))))))) ?_
              refine z_iconst (pc := 99) dX11_feed_99 ?_
              refine z_iremP (pc := 100) dX11_feed_100 (by omega) (by omega) (by omega) (by omega) ?_
              refine z_imul (pc := 101) dX11_feed_101 ?_
              refine z_isub (pc := 102) dX11_feed_102 ?_
              refine z_ishr (pc := 103) (k := 24 - 8 * (n % 4)) dX11_feed_103 (by omega) (by omega) (by omega) (by omega) ?_
              refine z_sipush (pc := 104) dX11_feed_104 sp_255 ?_
              refine z_iand255 (pc := 107) dX11_feed_107 ?_
              refine z_iast (pc := 108) (j := t + n) (v := ((b / 2 ^ (24 - 8 * (n % 4))) % 256)) dX11_feed_108 sh_4 (by omega) (by omega) (by decide) ?_
              have ok15 := okI okl28 4 (t + n) (v := ((b / 2 ^ (24 - 8 * (n % 4))) % 256)) (by omega) (by omega)
              refine x_aload_n (pc := 109) dX11_feed_109 (List.Mem.tail _ (List.Mem.head _)) ?_
              refine x_dup (pc := 110) dX11_feed_110 rfl ?_
              refine z_getI (pc := 111) (k := 6) (v := ((t : Int) + n)) dX11_feed_111 lf_X11_86 sh_0 rfl (by rw [wI1c (by omega)]; exact hq) ?_
              refine z_iconst (pc := 114) dX11_feed_114 ?_
              refine z_iadd (pc := 115) dX11_feed_115 ?_
              refine z_putI (pc := 116) (k := 6) dX11_feed_116 lp_X11_86 sh_0 rfl ?_
              have ok16 := okI ok15 0 6 (v := ((((t : Int) + n)) + 1)) (by omega) (by omega)
              have fbx : fby a b c g f n = ((b / 2 ^ (24 - 8 * (n % 4))) % 256) := by unfold fby; first | rw [if_pos (by omega)] | rw [if_neg (by omega), if_pos (by omega)] | rw [if_neg (by omega), if_neg (by omega), if_pos (by omega)] | rw [if_neg (by omega), if_neg (by omega), if_neg (by omega), if_pos (by omega)] | rw [if_neg (by omega), if_neg (by omega), if_neg (by omega), if_neg (by omega)]
              refine z_iinc (pc := 119) dX11_feed_119 (List.Mem.tail _ (List.Mem.tail _ (List.Mem.tail _ (List.Mem.tail _ (List.Mem.tail _ (List.Mem.tail _ (List.Mem.tail _ (List.Mem.head _)))))))) (Nat.le_of_ble_eq_true rfl) ?_
              show Ev _ _ _ _ _ [(6, .int (zN ((n : Int) + 1))), (7, .int (zN (b))), (0, .ref 0), (1, .int (zN (a))), (2, .int (zN (b))), (3, .int (zN (c))), (4, .int (zN (g))), (5, .int (zN (f)))] _ _
              refine x_goto (pc := 122) (tgt := 28) dX11_feed_122 (by decide) ?_
              refine x_weaken (L1 := [(0, .ref 0), (1, .int (zN (a))), (2, .int (zN (b))), (3, .int (zN (c))), (4, .int (zN (g))), (5, .int (zN (f))), (6, .int (zN ((((n + 1) : Nat) : Int))))]) (List.forall_mem_cons.mpr ⟨(List.Mem.tail _ (List.Mem.tail _ (List.Mem.head _))), (List.forall_mem_cons.mpr ⟨(List.Mem.tail _ (List.Mem.tail _ (List.Mem.tail _ (List.Mem.head _)))), (List.forall_mem_cons.mpr ⟨(List.Mem.tail _ (List.Mem.tail _ (List.Mem.tail _ (List.Mem.tail _ (List.Mem.head _))))), (List.forall_mem_cons.mpr ⟨(List.Mem.tail _ (List.Mem.tail _ (List.Mem.tail _ (List.Mem.tail _ (List.Mem.tail _ (List.Mem.head _)))))), (List.forall_mem_cons.mpr ⟨(List.Mem.tail _ (List.Mem.tail _ (List.Mem.tail _ (List.Mem.tail _ (List.Mem.tail _ (List.Mem.tail _ (List.Mem.head _))))))), (List.forall_mem_cons.mpr ⟨(List.Mem.tail _ (List.Mem.tail _ (List.Mem.tail _ (List.Mem.tail _ (List.Mem.tail _ (List.Mem.tail _ (List.Mem.tail _ (List.Mem.head _)))))))), (List.forall_mem_cons.mpr ⟨(mem_ci (by omega) (List.Mem.head _)), (fun _ h => absurd h List.not_mem_nil)⟩)⟩)⟩)⟩)⟩)⟩)⟩) ?_
              exact ih28 ((n + 1)) (wI (wI Hl 4 (t + n) (((b / 2 ^ (24 - 8 * (n % 4))) % 256))) 0 6 (((((t : Int) + n)) + 1))) ok16 (by omega) (by rw [eH, ← fbx]; exact feedM_s H t n a b c g f) (by omega)
          · skip
            refine x_iload_n (pc := 41) dX11_feed_41 (List.Mem.tail _ (List.Mem.head _)) ?_
            refine x_goto (pc := 42) (tgt := 81) dX11_feed_42 (by decide) ?_
            refine x_istore (pc := 81) dX11_feed_81 (Nat.le_of_ble_eq_true rfl) ?_
            show Ev _ _ _ _ _ [(7, .int (zN (a))), (0, .ref 0), (1, .int (zN (a))), (2, .int (zN (b))), (3, .int (zN (c))), (4, .int (zN (g))), (5, .int (zN (f))), (6, .int (zN ((n : Int))))] _ _
            refine x_aload_n (pc := 83) dX11_feed_83 (List.Mem.tail _ (List.Mem.head _)) ?_
            refine z_getR (pc := 84) (k := 4) (r := 4) dX11_feed_84 lf_X11_24 sh_0 rfl rf_0_4 ?_
            refine x_aload_n (pc := 87) dX11_feed_87 (List.Mem.tail _ (List.Mem.head _)) ?_
            refine z_getI (pc := 88) (k := 6) (v := ((t : Int) + n)) dX11_feed_88 lf_X11_86 sh_0 rfl hq ?_
            refine x_iload (pc := 91) dX11_feed_91 (List.Mem.head _) ?_
            refine z_bipush (pc := 93) dX11_feed_93 bp_24 ?_
            refine z_bipush (pc := 95) dX11_feed_95 bp_8 ?_
            refine x_iload (pc := 97) dX11_feed_97 (List.Mem.tail _ (List.Mem.tail _ (List.Mem.tail _ (List.Mem.tail _ (List.Mem.tail _ (List.Mem.tail _ (List.Mem.tail _ (List.Mem.head _)))))))) ?_
            refine z_iconst (pc := 99) dX11_feed_99 ?_
            refine z_iremP (pc := 100) dX11_feed_100 (by omega) (by omega) (by omega) (by omega) ?_
            refine z_imul (pc := 101) dX11_feed_101 ?_
            refine z_isub (pc := 102) dX11_feed_102 ?_
            refine z_ishr (pc := 103) (k := 24 - 8 * (n % 4)) dX11_feed_103 (by omega) (by omega) (by omega) (by omega) ?_
            refine z_sipush (pc := 104) dX11_feed_104 sp_255 ?_
            refine z_iand255 (pc := 107) dX11_feed_107 ?_
            refine z_iast (pc := 108) (j := t + n) (v := ((a / 2 ^ (24 - 8 * (n % 4))) % 256)) dX11_feed_108 sh_4 (by omega) (by omega) (by decide) ?_
            have ok17 := okI okl28 4 (t + n) (v := ((a / 2 ^ (24 - 8 * (n % 4))) % 256)) (by omega) (by omega)
            refine x_aload_n (pc := 109) dX11_feed_109 (List.Mem.tail _ (List.Mem.head _)) ?_
            refine x_dup (pc := 110) dX11_feed_110 rfl ?_
            refine z_getI (pc := 111) (k := 6) (v := ((t : Int) + n)) dX11_feed_111 lf_X11_86 sh_0 rfl (by rw [wI1c (by omega)]; exact hq) ?_
            refine z_iconst (pc := 114) dX11_feed_114 ?_
            refine z_iadd (pc := 115) dX11_feed_115 ?_
            refine z_putI (pc := 116) (k := 6) dX11_feed_116 lp_X11_86 sh_0 rfl ?_
            have ok18 := okI ok17 0 6 (v := ((((t : Int) + n)) + 1)) (by omega) (by omega)
            have fbx : fby a b c g f n = ((a / 2 ^ (24 - 8 * (n % 4))) % 256) := by unfold fby; first | rw [if_pos (by omega)] | rw [if_neg (by omega), if_pos (by omega)] | rw [if_neg (by omega), if_neg (by omega), if_pos (by omega)] | rw [if_neg (by omega), if_neg (by omega), if_neg (by omega), if_pos (by omega)] | rw [if_neg (by omega), if_neg (by omega), if_neg (by omega), if_neg (by omega)]
            refine z_iinc (pc := 119) dX11_feed_119 (List.Mem.tail _ (List.Mem.tail _ (List.Mem.tail _ (List.Mem.tail _ (List.Mem.tail _ (List.Mem.tail _ (List.Mem.tail _ (List.Mem.head _)))))))) (Nat.le_of_ble_eq_true rfl) ?_
            show Ev _ _ _ _ _ [(6, .int (zN ((n : Int) + 1))), (7, .int (zN (a))), (0, .ref 0), (1, .int (zN (a))), (2, .int (zN (b))), (3, .int (zN (c))), (4, .int (zN (g))), (5, .int (zN (f)))] _ _
            refine x_goto (pc := 122) (tgt := 28) dX11_feed_122 (by decide) ?_
            refine x_weaken (L1 := [(0, .ref 0), (1, .int (zN (a))), (2, .int (zN (b))), (3, .int (zN (c))), (4, .int (zN (g))), (5, .int (zN (f))), (6, .int (zN ((((n + 1) : Nat) : Int))))]) (List.forall_mem_cons.mpr ⟨(List.Mem.tail _ (List.Mem.tail _ (List.Mem.head _))), (List.forall_mem_cons.mpr ⟨(List.Mem.tail _ (List.Mem.tail _ (List.Mem.tail _ (List.Mem.head _)))), (List.forall_mem_cons.mpr ⟨(List.Mem.tail _ (List.Mem.tail _ (List.Mem.tail _ (List.Mem.tail _ (List.Mem.head _))))), (List.forall_mem_cons.mpr ⟨(List.Mem.tail _ (List.Mem.tail _ (List.Mem.tail _ (List.Mem.tail _ (List.Mem.tail _ (List.Mem.head _)))))), (List.forall_mem_cons.mpr ⟨(List.Mem.tail _ (List.Mem.tail _ (List.Mem.tail _ (List.Mem.tail _ (List.Mem.tail _ (List.Mem.tail _ (List.Mem.head _))))))), (List.forall_mem_cons.mpr ⟨(List.Mem.tail _ (List.Mem.tail _ (List.Mem.tail _ (List.Mem.tail _ (List.Mem.tail _ (List.Mem.tail _ (List.Mem.tail _ (List.Mem.head _)))))))), (List.forall_mem_cons.mpr ⟨(mem_ci (by omega) (List.Mem.head _)), (fun _ h => absurd h List.not_mem_nil)⟩)⟩)⟩)⟩)⟩)⟩)⟩) ?_
            exact ih28 ((n + 1)) (wI (wI Hl 4 (t + n) (((a / 2 ^ (24 - 8 * (n % 4))) % 256))) 0 6 (((((t : Int) + n)) + 1))) ok18 (by omega) (by rw [eH, ← fbx]; exact feedM_s H t n a b c g f) (by omega)
    refine x_weaken (L1 := [(0, .ref 0), (1, .int (zN (a))), (2, .int (zN (b))), (3, .int (zN (c))), (4, .int (zN (g))), (5, .int (zN (f))), (6, .int (zN (((0 : Nat) : Int))))]) (List.forall_mem_cons.mpr ⟨(List.Mem.tail _ (List.Mem.head _)), (List.forall_mem_cons.mpr ⟨(List.Mem.tail _ (List.Mem.tail _ (List.Mem.head _))), (List.forall_mem_cons.mpr ⟨(List.Mem.tail _ (List.Mem.tail _ (List.Mem.tail _ (List.Mem.head _)))), (List.forall_mem_cons.mpr ⟨(List.Mem.tail _ (List.Mem.tail _ (List.Mem.tail _ (List.Mem.tail _ (List.Mem.head _))))), (List.forall_mem_cons.mpr ⟨(List.Mem.tail _ (List.Mem.tail _ (List.Mem.tail _ (List.Mem.tail _ (List.Mem.tail _ (List.Mem.head _)))))), (List.forall_mem_cons.mpr ⟨(List.Mem.tail _ (List.Mem.tail _ (List.Mem.tail _ (List.Mem.tail _ (List.Mem.tail _ (List.Mem.tail _ (List.Mem.head _))))))), (List.forall_mem_cons.mpr ⟨(mem_ci (by omega) (List.Mem.head _)), (fun _ h => absurd h List.not_mem_nil)⟩)⟩)⟩)⟩)⟩)⟩)⟩) ?_
    exact lp28 (20 - 0 + 1) (0) H ok (by omega) (feedM_0 a b c g f ht) (Nat.lt_succ_self _)
  · skip
    refine x_aload_n (pc := 18) dX11_feed_18 (List.Mem.head _) ?_
    refine z_bipush (pc := 19) dX11_feed_19 bp_m5 ?_
    refine z_callVip (pc := 21) (i := mX11_no) (S := []) [.int (zN ((-5)))] dX11_feed_21 ml_X11_89 ok_X11_no rfl sh_0 rfl (Or.inl rfl) (Nat.le_of_ble_eq_true rfl) (c_X11_no (d := d) (code := ((-5))) (code1 := (by omega)) (code2 := (by omega)) (ok := ok) (cn := (by first | assumption | omega))) (fun r19a r19b ok20 => ?_)
    show Ev _ _ _ _ _ _ _ (eh (wI H 1 ((refIx ((-5)))) (H.1 1 (refIx ((-5))) + 1)))
    refine z_ireturn (pc := 24) dX11_feed_24 rfl (Or.inl rfl) ok20 (by omega) (by omega) ?_
    have e : S_feed (H.1 0 6) = (-5, 2) := by unfold S_feed; rw [if_neg (by omega)]
    rw [e]
    exact ⟨rfl, rfl⟩
