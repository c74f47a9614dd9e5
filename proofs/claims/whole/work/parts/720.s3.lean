/-! GROUP S3: spent in the class. -/
theorem lea_cg2 {f g : Nat → Bool} : ∀ n, (∀ d, d < n → f d = g d) → lea f n = lea g n := by
  intro n
  induction n with
  | zero => intro _; rfl
  | succ n ih =>
    intro h
    show (if lea f n = -1 then (if f n = true then (n : Int) else -1) else lea f n) = (if lea g n = -1 then (if g n = true then (n : Int) else -1) else lea g n)
    rw [ih (fun d hd => h d (by omega)), h n (by omega)]
theorem beB_cg {l c l2 c2 : Nat → Int} {k : Nat} (hk : k < 16) (hl : ∀ d, d < 16 → l d = l2 d) (hc : ∀ d, d < 16 → c d = c2 d) : lea (beB l c k) 16 = lea (beB l2 c2 k) 16 := lea_cg2 16 (fun d hd => by unfold beB; rw [hl d hd, hl k hk, hc d hd, hc k hk])
theorem RepP_cg2 {H H1 : ZH} (h : ∀ cc, cc = 2 ∨ (71 ≤ cc ∧ cc ≤ 79) → H1.1 cc = H.1 cc) (r : RepP H) : RepP H1 := by
  obtain ⟨r0, r1, r2⟩ := r
  refine ⟨?_, fun p hp => ?_, fun m hm => ?_⟩
  · rw [h 71 (by omega), h 2 (by omega)]; exact r0
  · rw [h 72 (by omega), h 73 (by omega), h 74 (by omega), h 75 (by omega), h 76 (by omega), h 77 (by omega), h 2 (by omega)]; exact r1 p hp
  · rw [h 78 (by omega), h 79 (by omega), h 2 (by omega)]; exact r2 m hm
/-- what findWorth leaves behind -/
def WkP (H : ZH) (A : Nat → Int) (p : Nat) : Prop := (∀ b, b < 16 → H.1 123 b = mcost A b 4 ∧ H.2 124 b = zz A p b) ∧ (∀ b, b < 16 → unB A p b = true → H.1 122 (wn (unB A p) b) = (b : Int)) ∧ H.1 119 4 = (wn (unB A p) 16 : Int)
theorem zz_bd {A : Nat → Int} (h : WFP A) {p : Nat} (hp : p < 12) (b : Nat) : 0 ≤ zz A p b ∧ zz A p b ≤ 6000000396 := by
  have l := mleft_bd h hp b 4 (by omega)
  have m := mcost_bd h b 4 (by omega)
  unfold zz
  omega
theorem wIJ {H : ZH} {c k : Nat} {v : Int} : (wJ H c k v).1 = H.1 := rfl
theorem uOk_0 {A : Nat → Int} (h : WFP A) (p c : Nat) : uOk A p c 0 = true := by
  show (unB A p 0 && cOk A c 0) = true
  rw [unB_0 h, cOk_0]; rfl

theorem c_X7_shiftOf {d : Nat} {H : ZH} (ok : okZ H) {N p : Nat} (hp : p < N) (hN : N ≤ 12) (hz : H.1 71 0 = (N : Int)) : EvC zX (d + 1) mX7_shiftOf [.ref 119, .ref 71, .int (zN ((p : Int)))] (eh H) (zPi (fun (rz : Int) (Hz : ZH) => rz = (4 * ((N : Int) - 1 - p)) ∧ Hz = H)) := by
  show _ ∧ Ev zX mX7_shiftOf (EvC zX d) (zPi (fun (rz : Int) (Hz : ZH) => rz = (4 * ((N : Int) - 1 - p)) ∧ Hz = H)) 0 [(0, .ref 119), (1, .ref 71), (2, .int (zN ((p : Int))))] [] (eh H)
  refine ⟨Nat.le_of_ble_eq_true rfl, ?_⟩
  refine z_iconst (pc := 0) dX7_shiftOf_0 ?_
  refine x_aload_n (pc := 1) dX7_shiftOf_1 (List.Mem.tail _ (List.Mem.head _)) ?_
  refine z_getI (pc := 2) (k := 0) (v := (N : Int)) dX7_shiftOf_2 lf_X7_32 sh_71 rfl hz ?_
  refine z_iconst (pc := 5) dX7_shiftOf_5 ?_
  refine z_isub (pc := 6) dX7_shiftOf_6 ?_
  refine x_iload_n (pc := 7) dX7_shiftOf_7 (List.Mem.tail _ (List.Mem.tail _ (List.Mem.head _))) ?_
  refine z_isub (pc := 8) dX7_shiftOf_8 ?_
  refine z_imul (pc := 9) dX7_shiftOf_9 ?_
  refine z_ireturn (pc := 10) dX7_shiftOf_10 rfl (Or.inl rfl) ok (by omega) (by omega) ?_
  exact ⟨by first | rfl | omega | simp_all, rfl⟩

theorem c_X7_findWorth {d : Nat} {H : ZH} (ok : okZ H) {p : Nat} (hp : p < 12) (wp : WFP (H.1 2)) (rp : RepP H) : EvC zX (d + 3) mX7_findWorth [.ref 119, .ref 71, .int (zN ((p : Int)))] (eh H) (zPv (fun (H1 : ZH) => WkP H1 (H.1 2) p ∧ (∀ cc k, cc ≠ 122 → cc ≠ 123 → ¬ (cc = 119 ∧ k = 4) → H1.1 cc k = H.1 cc k) ∧ (∀ cc k, cc ≠ 124 → H1.2 cc k = H.2 cc k))) := by
  show _ ∧ Ev zX mX7_findWorth (EvC zX (d + 2)) (zPv (fun (H1 : ZH) => WkP H1 (H.1 2) p ∧ (∀ cc k, cc ≠ 122 → cc ≠ 123 → ¬ (cc = 119 ∧ k = 4) → H1.1 cc k = H.1 cc k) ∧ (∀ cc k, cc ≠ 124 → H1.2 cc k = H.2 cc k))) 0 [(0, .ref 119), (1, .ref 71), (2, .int (zN ((p : Int))))] [] (eh H)
  refine ⟨Nat.le_of_ble_eq_true rfl, ?_⟩
  refine z_iconst (pc := 0) dX7_findWorth_0 ?_
  refine x_istore_n (pc := 1) dX7_findWorth_1 (Nat.le_of_ble_eq_true rfl) ?_
  show Ev _ _ _ _ _ [(3, .int (zN (0))), (0, .ref 119), (1, .ref 71), (2, .int (zN ((p : Int))))] _ _
  have lp2 : ∀ (nF : Nat) (b : Nat) (Hl : ZH), okZ Hl → (b ≤ 16) → (∀ x, x < b → Hl.1 123 x = mcost (H.1 2) x 4 ∧ Hl.2 124 x = zz (H.1 2) p x) → (∀ cc k, cc ≠ 123 → Hl.1 cc k = H.1 cc k) → (∀ cc k, cc ≠ 124 → Hl.2 cc k = H.2 cc k) → 16 - b < nF → Ev zX mX7_findWorth (EvC zX (d + 2)) (zPv (fun (H1 : ZH) => WkP H1 (H.1 2) p ∧ (∀ cc k, cc ≠ 122 → cc ≠ 123 → ¬ (cc = 119 ∧ k = 4) → H1.1 cc k = H.1 cc k) ∧ (∀ cc k, cc ≠ 124 → H1.2 cc k = H.2 cc k))) 2 [(0, .ref 119), (1, .ref 71), (2, .int (zN ((p : Int)))), (3, .int (zN ((b : Int))))] [] (eh Hl) := by
    intro nF
    induction nF with
    | zero => intro b Hl okl2 hb hf fr fJ hm; exact absurd hm (Nat.not_lt_zero _)
    | succ nF ih2 =>
      intro b Hl okl2 hb hf fr fJ hm
      have e2 : Hl.1 2 = H.1 2 := funext (fun k => fr 2 k (by omega))
      have wpl : WFP (Hl.1 2) := by rw [e2]; exact wp
      have rpl : RepP Hl := RepP_cg2 (fun cc h => funext (fun k => fr cc k (by omega))) rp
      have mb := mcost_bd wpl b 4 (by omega)
      have lb := mleft_bd wpl hp b 4 (by omega)
      refine x_iload_n (pc := 2) dX7_findWorth_2 (List.Mem.tail _ (List.Mem.tail _ (List.Mem.tail _ (List.Mem.head _)))) ?_
      refine z_bipush (pc := 3) dX7_findWorth_3 bp_16 ?_
      refine z_icmp_ge (pc := 5) (tgt := 50) dX7_findWorth_5 (by decide) (by omega) (by omega) (by decide) (by decide) (fun hb1 => ?_) (fun hb1 => ?_)
      · skip
        refine x_aload_n (pc := 50) dX7_findWorth_50 (List.Mem.head _) ?_
        refine z_iconst (pc := 51) dX7_findWorth_51 ?_
        refine z_putI (pc := 52) (k := 4) dX7_findWorth_52 lp_X7_55 sh_119 rfl ?_
        have ok2 := okI okl2 119 4 (v := 0) (by decide) (by decide)
        refine z_iconst (pc := 55) dX7_findWorth_55 ?_
        refine x_istore_n (pc := 56) dX7_findWorth_56 (Nat.le_of_ble_eq_true rfl) ?_
        show Ev _ _ _ _ _ [(3, .int (zN (0))), (0, .ref 119), (1, .ref 71), (2, .int (zN ((p : Int))))] _ _
        have lp57 : ∀ (nF : Nat) (b : Nat) (Hm : ZH), okZ Hm → (b ≤ 16) → (∀ x, x < b → unB (H.1 2) p x = true → Hm.1 122 (wn (unB (H.1 2) p) x) = (x : Int)) → (Hm.1 119 4 = (wn (unB (H.1 2) p) b : Int)) → (∀ cc k, cc ≠ 122 → ¬ (cc = 119 ∧ k = 4) → Hm.1 cc k = Hl.1 cc k) → (Hm.2 = Hl.2) → 16 - b < nF → Ev zX mX7_findWorth (EvC zX (d + 2)) (zPv (fun (H1 : ZH) => WkP H1 (H.1 2) p ∧ (∀ cc k, cc ≠ 122 → cc ≠ 123 → ¬ (cc = 119 ∧ k = 4) → H1.1 cc k = H.1 cc k) ∧ (∀ cc k, cc ≠ 124 → H1.2 cc k = H.2 cc k))) 57 [(0, .ref 119), (1, .ref 71), (2, .int (zN ((p : Int)))), (3, .int (zN ((b : Int))))] [] (eh Hm) := by
          intro nF
          induction nF with
          | zero => intro b Hm okl57 hb2 hw hs fr2 fJ2 hm; exact absurd hm (Nat.not_lt_zero _)
          | succ nF ih57 =>
            intro b Hm okl57 hb2 hw hs fr2 fJ2 hm
            have wb := wn_bd (U := unB (H.1 2) p) b
            have lb9 : b < 16 → (lea (beB (Hm.2 124) (Hm.1 123) b) 16 = -1 ↔ unB (H.1 2) p b = true) := fun z => by
              have y := beB_cg (l := Hm.2 124) (c := Hm.1 123) (l2 := zz (H.1 2) p) (c2 := fun j => mcost (H.1 2) j 4) z (fun d hd => by rw [fJ2]; exact (hf d (by omega)).2) (fun d hd => by rw [fr2 123 d (by omega) (by omega)]; exact (hf d (by omega)).1)
              rw [y]
              exact ⟨fun q => decide_eq_true q, fun q => of_decide_eq_true q⟩
            refine x_iload_n (pc := 57) dX7_findWorth_57 (List.Mem.tail _ (List.Mem.tail _ (List.Mem.tail _ (List.Mem.head _)))) ?_
            refine z_bipush (pc := 58) dX7_findWorth_58 bp_16 ?_
            refine z_icmp_ge (pc := 60) (tgt := 97) dX7_findWorth_60 (by decide) (by omega) (by omega) (by decide) (by decide) (fun hb3 => ?_) (fun hb3 => ?_)
            · skip
              refine z_vreturn (pc := 97) dX7_findWorth_97 rfl okl57 ?_
              have eb : b = 16 := by omega
              subst eb
              refine ⟨⟨fun x hx => ?_, fun x hx u => hw x hx u, hs⟩, fun cc k h1 h2 h3 => ?_, fun cc k h => ?_⟩
              · rw [fr2 123 x (by omega) (by omega), fJ2]; exact hf x (by omega)
              · rw [fr2 cc k h1 h3]; exact fr cc k h2
              · rw [fJ2]; exact fJ cc k h
            · skip
              refine x_aload_n (pc := 63) dX7_findWorth_63 (List.Mem.head _) ?_
              refine x_iload_n (pc := 64) dX7_findWorth_64 (List.Mem.tail _ (List.Mem.tail _ (List.Mem.tail _ (List.Mem.head _)))) ?_
              refine z_callVbp (pc := 65) (i := mX7_isBeaten) (S := []) [.int (zN ((b : Int)))] dX7_findWorth_65 ml_X7_68 ok_X7_isBeaten rfl sh_119 rfl (Or.inr rfl) (Nat.le_of_ble_eq_true rfl) (c_X7_isBeaten (d := d + 1) (k := b) (hk := (by omega)) (ok := okl57)) (fun hc6 ok5 => ?_) (fun hc6 ok5 => ?_)
              · skip
                have un : unB (H.1 2) p b = false := Bool.eq_false_iff.mpr (fun q => hc6 ((lb9 (by omega)).2 q))
                have ew : wn (unB (H.1 2) p) (b + 1) = wn (unB (H.1 2) p) b := by show wn (unB (H.1 2) p) b + (if unB (H.1 2) p b = true then 1 else 0) = _; rw [un]; rfl
                have hw2 : ∀ x, x < b + 1 → unB (H.1 2) p x = true → Hm.1 122 (wn (unB (H.1 2) p) x) = (x : Int) := fun x h u => if z : x = b then (by rw [z, un] at u; exact absurd u (by decide)) else hw x (by omega) u
                have hs2 : Hm.1 119 4 = (wn (unB (H.1 2) p) (b + 1) : Int) := by rw [ew]; exact hs
                have fr3 := fr2
                have fJ3 := fJ2
                refine z_if_ne (pc := 68) (tgt := 91) dX7_findWorth_68 (by decide) (by decide) (by decide) (fun _ => ?_) (fun h => absurd h (by decide))
                refine z_iinc (pc := 91) dX7_findWorth_91 (List.Mem.tail _ (List.Mem.tail _ (List.Mem.tail _ (List.Mem.head _)))) (Nat.le_of_ble_eq_true rfl) ?_
                show Ev _ _ _ _ _ [(3, .int (zN ((b : Int) + 1))), (0, .ref 119), (1, .ref 71), (2, .int (zN ((p : Int))))] _ _
                refine x_goto (pc := 94) (tgt := 57) dX7_findWorth_94 (by decide) ?_
                refine x_weaken (L1 := [(0, .ref 119), (1, .ref 71), (2, .int (zN ((p : Int)))), (3, .int (zN ((((b + 1) : Nat) : Int))))]) (List.forall_mem_cons.mpr ⟨(List.Mem.tail _ (List.Mem.head _)), (List.forall_mem_cons.mpr ⟨(List.Mem.tail _ (List.Mem.tail _ (List.Mem.head _))), (List.forall_mem_cons.mpr ⟨(List.Mem.tail _ (List.Mem.tail _ (List.Mem.tail _ (List.Mem.head _)))), (List.forall_mem_cons.mpr ⟨(mem_ci (by omega) (List.Mem.head _)), (fun _ h => absurd h List.not_mem_nil)⟩)⟩)⟩)⟩) ?_
                exact ih57 ((b + 1)) Hm ok5 (by omega) (hw2) (hs2) (fr3) (fJ3) (by omega)
              · skip
                have un : unB (H.1 2) p b = true := (lb9 (by omega)).1 (Decidable.not_not.mp hc6)
                have ew : wn (unB (H.1 2) p) (b + 1) = wn (unB (H.1 2) p) b + 1 := by show wn (unB (H.1 2) p) b + (if unB (H.1 2) p b = true then 1 else 0) = _; rw [un]; rfl
                refine z_if_ne (pc := 68) (tgt := 91) dX7_findWorth_68 (by decide) (by decide) (by decide) (fun h => absurd h (by decide)) (fun _ => ?_)
                refine x_aload_n (pc := 71) dX7_findWorth_71 (List.Mem.head _) ?_
                refine z_getR (pc := 72) (k := 3) (r := 122) dX7_findWorth_72 lf_X7_22 sh_119 rfl rf_119_3 ?_
                refine x_aload_n (pc := 75) dX7_findWorth_75 (List.Mem.head _) ?_
                refine z_getI (pc := 76) (k := 4) (v := (wn (unB (H.1 2) p) b : Int)) dX7_findWorth_76 lf_X7_55 sh_119 rfl hs ?_
                refine x_iload_n (pc := 79) dX7_findWorth_79 (List.Mem.tail _ (List.Mem.tail _ (List.Mem.tail _ (List.Mem.head _)))) ?_
                refine z_iast (pc := 80) (j := (wn (unB (H.1 2) p) b)) (v := (b : Int)) dX7_findWorth_80 sh_122 (by omega) (by omega) (by decide) ?_
                have ok9 := okI ok5 122 (wn (unB (H.1 2) p) b) (v := (b : Int)) (by omega) (by omega)
                refine x_aload_n (pc := 81) dX7_findWorth_81 (List.Mem.head _) ?_
                refine x_dup (pc := 82) dX7_findWorth_82 rfl ?_
                refine z_getI (pc := 83) (k := 4) (v := (wn (unB (H.1 2) p) b : Int)) dX7_findWorth_83 lf_X7_55 sh_119 rfl (by rw [wI1c (by omega)]; exact hs) ?_
                refine z_iconst (pc := 86) dX7_findWorth_86 ?_
                refine z_iadd (pc := 87) dX7_findWorth_87 ?_
                refine z_putI (pc := 88) (k := 4) dX7_findWorth_88 lp_X7_55 sh_119 rfl ?_
                have ok10 := okI ok9 119 4 (v := (((wn (unB (H.1 2) p) b : Int)) + 1)) (by omega) (by omega)
                refine z_iinc (pc := 91) dX7_findWorth_91 (List.Mem.tail _ (List.Mem.tail _ (List.Mem.tail _ (List.Mem.head _)))) (Nat.le_of_ble_eq_true rfl) ?_
                show Ev _ _ _ _ _ [(3, .int (zN ((b : Int) + 1))), (0, .ref 119), (1, .ref 71), (2, .int (zN ((p : Int))))] _ _
                refine x_goto (pc := 94) (tgt := 57) dX7_findWorth_94 (by decide) ?_
                have hw2 : ∀ x, x < b + 1 → unB (H.1 2) p x = true → (wI (wI Hm 122 ((wn (unB (H.1 2) p) b)) ((b : Int))) 119 4 ((((wn (unB (H.1 2) p) b : Int)) + 1))).1 122 (wn (unB (H.1 2) p) x) = (x : Int) := fun x h u => by
                  rw [wI1c (by omega), wIp]
                  by_cases z : x = b
                  · rw [z, if_pos rfl]
                  · have q : wn (unB (H.1 2) p) (x + 1) = wn (unB (H.1 2) p) x + 1 := by show wn (unB (H.1 2) p) x + (if unB (H.1 2) p x = true then 1 else 0) = _; rw [u]; rfl
                    have q2 := wn_le (U := unB (H.1 2) p) (b := x + 1) b (by omega)
                    rw [if_neg (by omega)]; exact hw x (by omega) u
                have hs2 : (wI (wI Hm 122 ((wn (unB (H.1 2) p) b)) ((b : Int))) 119 4 ((((wn (unB (H.1 2) p) b : Int)) + 1))).1 119 4 = (wn (unB (H.1 2) p) (b + 1) : Int) := by rw [wI1, ew]; omega
                have fr3 : ∀ cc k, cc ≠ 122 → ¬ (cc = 119 ∧ k = 4) → (wI (wI Hm 122 ((wn (unB (H.1 2) p) b)) ((b : Int))) 119 4 ((((wn (unB (H.1 2) p) b : Int)) + 1))).1 cc k = Hl.1 cc k := fun cc k h1 h2 => by rw [wIg, if_neg h2, wI1c h1]; exact fr2 cc k h1 h2
                have fJ3 : (wI (wI Hm 122 ((wn (unB (H.1 2) p) b)) ((b : Int))) 119 4 ((((wn (unB (H.1 2) p) b : Int)) + 1))).2 = Hl.2 := fJ2
                refine x_weaken (L1 := [(0, .ref 119), (1, .ref 71), (2, .int (zN ((p : Int)))), (3, .int (zN ((((b + 1) : Nat) : Int))))]) (List.forall_mem_cons.mpr ⟨(List.Mem.tail _ (List.Mem.head _)), (List.forall_mem_cons.mpr ⟨(List.Mem.tail _ (List.Mem.tail _ (List.Mem.head _))), (List.forall_mem_cons.mpr ⟨(List.Mem.tail _ (List.Mem.tail _ (List.Mem.tail _ (List.Mem.head _)))), (List.forall_mem_cons.mpr ⟨(mem_ci (by omega) (List.Mem.head _)), (fun _ h => absurd h List.not_mem_nil)⟩)⟩)⟩)⟩) ?_
                exact ih57 ((b + 1)) (wI (wI Hm 122 ((wn (unB (H.1 2) p) b)) ((b : Int))) 119 4 ((((wn (unB (H.1 2) p) b : Int)) + 1))) ok10 (by omega) (hw2) (hs2) (fr3) (fJ3) (by omega)
        refine x_weaken (L1 := [(0, .ref 119), (1, .ref 71), (2, .int (zN ((p : Int)))), (3, .int (zN (((0 : Nat) : Int))))]) (List.forall_mem_cons.mpr ⟨(List.Mem.tail _ (List.Mem.head _)), (List.forall_mem_cons.mpr ⟨(List.Mem.tail _ (List.Mem.tail _ (List.Mem.head _))), (List.forall_mem_cons.mpr ⟨(List.Mem.tail _ (List.Mem.tail _ (List.Mem.tail _ (List.Mem.head _)))), (List.forall_mem_cons.mpr ⟨(mem_ci (by omega) (List.Mem.head _)), (fun _ h => absurd h List.not_mem_nil)⟩)⟩)⟩)⟩) ?_
        exact lp57 (16 - 0 + 1) (0) (wI Hl 119 4 (0)) ok2 (by omega) (fun x h => absurd h (Nat.not_lt_zero _)) (by rw [wI1]; rfl) (fun cc k h1 h2 => by rw [wIg, if_neg h2]) (rfl) (Nat.lt_succ_self _)
      · skip
        refine x_aload_n (pc := 8) dX7_findWorth_8 (List.Mem.head _) ?_
        refine z_getR (pc := 9) (k := 5) (r := 123) dX7_findWorth_9 lf_X7_26 sh_119 rfl rf_119_5 ?_
        refine x_iload_n (pc := 12) dX7_findWorth_12 (List.Mem.tail _ (List.Mem.tail _ (List.Mem.tail _ (List.Mem.head _)))) ?_
        refine x_aload_n (pc := 13) dX7_findWorth_13 (List.Mem.tail _ (List.Mem.head _)) ?_
        refine x_iload_n (pc := 14) dX7_findWorth_14 (List.Mem.tail _ (List.Mem.tail _ (List.Mem.tail _ (List.Mem.head _)))) ?_
        refine z_callVip (pc := 15) (i := mX2_costOf) (S := [.int (zN ((b : Int))), .ref 123]) [.int (zN ((b : Int)))] dX7_findWorth_15 ml_X7_58 ok_X2_costOf rfl sh_71 rfl (Or.inl rfl) (Nat.le_of_ble_eq_true rfl) (c_X2_costOf (d := d + 1) (b := b) (hb := (by omega)) (ok := okl2) (wp := wpl) (rp := rpl)) (fun r11a r11b ok12 => ?_)
        refine z_iast (pc := 18) (j := b) (v := (mcost (Hl.1 2) b 4)) dX7_findWorth_18 sh_123 rfl (by omega) (by decide) ?_
        have ok13 := okI ok12 123 b (v := (mcost (Hl.1 2) b 4)) (by omega) (by omega)
        refine x_aload_n (pc := 19) dX7_findWorth_19 (List.Mem.head _) ?_
        refine z_getR (pc := 20) (k := 6) (r := 124) dX7_findWorth_20 lf_X7_29 sh_119 rfl rf_119_6 ?_
        refine x_iload_n (pc := 23) dX7_findWorth_23 (List.Mem.tail _ (List.Mem.tail _ (List.Mem.tail _ (List.Mem.head _)))) ?_
        refine x_aload_n (pc := 24) dX7_findWorth_24 (List.Mem.tail _ (List.Mem.head _)) ?_
        refine x_iload_n (pc := 25) dX7_findWorth_25 (List.Mem.tail _ (List.Mem.tail _ (List.Mem.head _))) ?_
        refine x_iload_n (pc := 26) dX7_findWorth_26 (List.Mem.tail _ (List.Mem.tail _ (List.Mem.tail _ (List.Mem.head _)))) ?_
        refine z_callVip (pc := 27) (i := mX2_leftAt) (S := [.int (zN ((b : Int))), .ref 124]) [.int (zN ((p : Int))), .int (zN ((b : Int)))] dX7_findWorth_27 ml_X7_62 ok_X2_leftAt rfl sh_71 rfl (Or.inl rfl) (Nat.le_of_ble_eq_true rfl) (c_X2_leftAt (d := d) (p := p) (b := b) (hp := hp) (hb := (by omega)) (ok := ok13) (wp := (show WFP ((wI Hl 123 b (mcost (Hl.1 2) b 4)).1 2) by rw [wIf (by omega)]; exact wpl)) (rp := (RepP_cg2 (fun cc h => wIf (by omega)) rpl))) (fun r14a r14b ok15 => ?_)
        have lb2 : (mleft ((wI Hl 123 b (mcost (Hl.1 2) b 4)).1 2) p b 4) = mleft (Hl.1 2) p b 4 := by rw [wIf (by omega)]
        refine z_i2l (pc := 30) dX7_findWorth_30 (by omega) (by omega) ?_
        refine z_ldc2_w (pc := 31) 1000 dX7_findWorth_31 cl_X7_66 (by decide) ?_
        refine z_lmul (pc := 34) dX7_findWorth_34 ?_
        refine x_aload_n (pc := 35) dX7_findWorth_35 (List.Mem.head _) ?_
        refine z_getR (pc := 36) (k := 5) (r := 123) dX7_findWorth_36 lf_X7_26 sh_119 rfl rf_119_5 ?_
        refine x_iload_n (pc := 39) dX7_findWorth_39 (List.Mem.tail _ (List.Mem.tail _ (List.Mem.tail _ (List.Mem.head _)))) ?_
        refine z_iald (pc := 40) (j := b) (v := (mcost (Hl.1 2) b 4)) dX7_findWorth_40 sh_123 rfl (by omega) (by decide) (by rw [wI1]) ?_
        refine z_i2l (pc := 41) dX7_findWorth_41 (by omega) (by omega) ?_
        refine z_ladd (pc := 42) dX7_findWorth_42 ?_
        refine z_last (pc := 43) (j := b) (v := (((mleft ((wI Hl 123 b ((mcost (Hl.1 2) b 4))).1 2) p b 4) * 1000) + ((mcost (Hl.1 2) b 4)))) dX7_findWorth_43 sh_124 rfl (by omega) (by decide) ?_
        have ok16 := okJ ok15 124 b (v := (((mleft ((wI Hl 123 b ((mcost (Hl.1 2) b 4))).1 2) p b 4) * 1000) + ((mcost (Hl.1 2) b 4)))) (by omega) (by omega)
        have e3 : (mleft ((wI Hl 123 b (mcost (Hl.1 2) b 4)).1 2) p b 4) * 1000 + (mcost (Hl.1 2) b 4) = zz (H.1 2) p b := by rw [wIf (by omega), e2]; rfl
        refine z_iinc (pc := 44) dX7_findWorth_44 (List.Mem.tail _ (List.Mem.tail _ (List.Mem.tail _ (List.Mem.head _)))) (Nat.le_of_ble_eq_true rfl) ?_
        show Ev _ _ _ _ _ [(3, .int (zN ((b : Int) + 1))), (0, .ref 119), (1, .ref 71), (2, .int (zN ((p : Int))))] _ _
        refine x_goto (pc := 47) (tgt := 2) dX7_findWorth_47 (by decide) ?_
        refine x_weaken (L1 := [(0, .ref 119), (1, .ref 71), (2, .int (zN ((p : Int)))), (3, .int (zN ((((b + 1) : Nat) : Int))))]) (List.forall_mem_cons.mpr ⟨(List.Mem.tail _ (List.Mem.head _)), (List.forall_mem_cons.mpr ⟨(List.Mem.tail _ (List.Mem.tail _ (List.Mem.head _))), (List.forall_mem_cons.mpr ⟨(List.Mem.tail _ (List.Mem.tail _ (List.Mem.tail _ (List.Mem.head _)))), (List.forall_mem_cons.mpr ⟨(mem_ci (by omega) (List.Mem.head _)), (fun _ h => absurd h List.not_mem_nil)⟩)⟩)⟩)⟩) ?_
        exact ih2 ((b + 1)) (wJ (wI Hl 123 b ((mcost (Hl.1 2) b 4))) 124 b ((((mleft ((wI Hl 123 b ((mcost (Hl.1 2) b 4))).1 2) p b 4) * 1000) + ((mcost (Hl.1 2) b 4))))) ok16 (by omega) (fun x h => by rw [wIJ, wJp, wIp]; exact if z : x = b then (by rw [if_pos z, if_pos z, z]; exact ⟨by rw [e2], e3⟩) else (by rw [if_neg z, if_neg z]; exact hf x (by omega))) (fun cc k h => by rw [wIJ, wI1c h]; exact fr cc k h) (fun cc k h => by rw [wJ1c h]; exact fJ cc k h) (by omega)
  refine x_weaken (L1 := [(0, .ref 119), (1, .ref 71), (2, .int (zN ((p : Int)))), (3, .int (zN (((0 : Nat) : Int))))]) (List.forall_mem_cons.mpr ⟨(List.Mem.tail _ (List.Mem.head _)), (List.forall_mem_cons.mpr ⟨(List.Mem.tail _ (List.Mem.tail _ (List.Mem.head _))), (List.forall_mem_cons.mpr ⟨(List.Mem.tail _ (List.Mem.tail _ (List.Mem.tail _ (List.Mem.head _)))), (List.forall_mem_cons.mpr ⟨(mem_ci (by omega) (List.Mem.head _)), (fun _ h => absurd h List.not_mem_nil)⟩)⟩)⟩)⟩) ?_
  exact lp2 (16 - 0 + 1) (0) H ok (by omega) (fun x h => absurd h (Nat.not_lt_zero _)) (fun _ _ _ => rfl) (fun _ _ _ => rfl) (Nat.lt_succ_self _)

theorem c_X7_choose {d : Nat} {H : ZH} (ok : okZ H) {A f : Nat → Int} {g : Nat → Nat} {p c k : Nat} {sh : Int} (hp : p < 12) (hc9 : c ≤ 999) (hk : k ≤ 11) (hsh : sh = 4 * (k : Int)) (wk : WkP H A p) (wpA : WFP A) (hl : ∀ x, x ≤ c → H.2 120 x = f x ∧ H.2 121 x = (g x : Int)) (hf : ∀ x, x ≤ c → 0 ≤ f x ∧ f x ≤ 80000000000) (hg : ∀ x, g x < 16 ^ k) : EvC zX (d + 1) mX7_choose [.ref 119, .int (zN ((c : Int))), .int (zN (sh))] (eh H) (zPv (fun (H1 : ZH) => H1 = wJ (wJ H 120 c (vv A p f c (bs (vv A p f c) (uOk A p c) 16))) 121 c ((((bs (vv A p f c) (uOk A p c) 16) * 16 ^ k + g (c - (mcost A (bs (vv A p f c) (uOk A p c) 16) 4).toNat)) : Nat) : Int))) := by
  show _ ∧ Ev zX mX7_choose (EvC zX d) (zPv (fun (H1 : ZH) => H1 = wJ (wJ H 120 c (vv A p f c (bs (vv A p f c) (uOk A p c) 16))) 121 c ((((bs (vv A p f c) (uOk A p c) 16) * 16 ^ k + g (c - (mcost A (bs (vv A p f c) (uOk A p c) 16) 4).toNat)) : Nat) : Int))) 0 [(0, .ref 119), (1, .int (zN ((c : Int)))), (2, .int (zN (sh)))] [] (eh H)
  refine ⟨Nat.le_of_ble_eq_true rfl, ?_⟩
  obtain ⟨wk1, wk2, wk3⟩ := wk
  have u0 := unB_0 wpA p
  have w1 : wn (unB A p) 1 = 1 := by show 0 + (if unB A p 0 = true then 1 else 0) = 1; rw [u0]; rfl
  have b1 : bs (vv A p f c) (uOk A p c) 1 = 0 := if_neg (fun z => absurd z.2 (Int.lt_irrefl _))
  have m0 := mcost_0 A
  have z0 : vv A p f c 0 = zz A p 0 + f c := by unfold vv; rw [m0]; rfl
  have l0 := wk1 0 (by omega)
  have lc := hl c (Nat.le_refl _)
  have fb := hf c (Nat.le_refl _)
  have zb := zz_bd wpA hp 0
  have pw : (16 : Nat) ^ (k + 1) ≤ 16 ^ 12 := Nat.pow_le_pow_right (by decide) (by omega)
  have p12 : (16 : Nat) ^ 12 = 281474976710656 := by decide
  have gex : ∀ s r, s < 16 → s * 16 ^ k + g r < 281474976710656 := fun s r hs => by have y := hg r; have y2 : s * 16 ^ k ≤ 15 * 16 ^ k := Nat.mul_le_mul_right _ (by omega); rw [Nat.pow_succ] at pw; omega
  refine x_aload_n (pc := 0) dX7_choose_0 (List.Mem.head _) ?_
  refine z_getR (pc := 1) (k := 6) (r := 124) dX7_choose_1 lf_X7_29 sh_119 rfl rf_119_6 ?_
  refine z_iconst (pc := 4) dX7_choose_4 ?_
  refine z_lald (pc := 5) (j := 0) (v := (zz A p 0)) dX7_choose_5 sh_124 rfl (Nat.le_of_ble_eq_true rfl) (by decide) l0.2 ?_
  refine x_aload_n (pc := 6) dX7_choose_6 (List.Mem.head _) ?_
  refine z_getR (pc := 7) (k := 1) (r := 120) dX7_choose_7 lf_X7_15 sh_119 rfl rf_119_1 ?_
  refine x_iload_n (pc := 10) dX7_choose_10 (List.Mem.tail _ (List.Mem.head _)) ?_
  refine z_lald (pc := 11) (j := c) (v := (f c)) dX7_choose_11 sh_120 rfl (by omega) (by decide) lc.1 ?_
  refine z_ladd (pc := 12) dX7_choose_12 ?_
  refine x_lstore_n (pc := 13) dX7_choose_13 (Nat.le_of_ble_eq_true rfl) ?_
  show Ev _ _ _ _ _ [(3, .long (zL ((((zz A p 0)) + ((f c)))))), (0, .ref 119), (1, .int (zN ((c : Int)))), (2, .int (zN (sh)))] _ _
  refine x_aload_n (pc := 14) dX7_choose_14 (List.Mem.tail _ (List.Mem.head _)) ?_
  refine z_getR (pc := 15) (k := 2) (r := 121) dX7_choose_15 lf_X7_19 sh_119 rfl rf_119_2 ?_
  refine x_iload_n (pc := 18) dX7_choose_18 (List.Mem.tail _ (List.Mem.tail _ (List.Mem.head _))) ?_
  refine z_lald (pc := 19) (j := c) (v := (g c : Int)) dX7_choose_19 sh_121 rfl (by omega) (by decide) lc.2 ?_
  refine x_lstore (pc := 20) dX7_choose_20 (Nat.le_of_ble_eq_true rfl) ?_
  show Ev _ _ _ _ _ [(5, .long (zL (((g c : Int))))), (3, .long (zL ((((zz A p 0)) + ((f c)))))), (0, .ref 119), (1, .int (zN ((c : Int)))), (2, .int (zN (sh)))] _ _
  refine z_iconst (pc := 22) dX7_choose_22 ?_
  refine x_istore (pc := 23) dX7_choose_23 (Nat.le_of_ble_eq_true rfl) ?_
  show Ev _ _ _ _ _ [(7, .int (zN (1))), (5, .long (zL (((g c : Int))))), (3, .long (zL ((((zz A p 0)) + ((f c)))))), (0, .ref 119), (1, .int (zN ((c : Int)))), (2, .int (zN (sh)))] _ _
  have lp25 : ∀ (nF : Nat) (b : Nat), (1 ≤ b ∧ b ≤ 16) → 16 - b < nF → Ev zX mX7_choose (EvC zX d) (zPv (fun (H1 : ZH) => H1 = wJ (wJ H 120 c (vv A p f c (bs (vv A p f c) (uOk A p c) 16))) 121 c ((((bs (vv A p f c) (uOk A p c) 16) * 16 ^ k + g (c - (mcost A (bs (vv A p f c) (uOk A p c) 16) 4).toNat)) : Nat) : Int))) 25 [(0, .ref 119), (1, .int (zN ((c : Int)))), (2, .int (zN (sh))), (3, .long (zL ((vv A p f c (bs (vv A p f c) (uOk A p c) b))))), (5, .long (zL (((((bs (vv A p f c) (uOk A p c) b) * 16 ^ k + g (c - (mcost A (bs (vv A p f c) (uOk A p c) b) 4).toNat)) : Nat) : Int)))), (7, .int (zN (((wn (unB A p) b : Nat) : Int))))] [] (eh H) := by
    intro nF
    induction nF with
    | zero => intro b hb hm; exact absurd hm (Nat.not_lt_zero _)
    | succ nF ih25 =>
      intro b hb hm
      have wb := wn_bd (U := unB A p) b
      have wb2 := wn_bd (U := unB A p) 16
      have hbs : bs (vv A p f c) (uOk A p c) b < 16 := by have y := bs_p (v := vv A p f c) (g := uOk A p c) (uOk_0 wpA p c) b hb.1; omega
      have gbd := gex (bs (vv A p f c) (uOk A p c) b) (c - (mcost A (bs (vv A p f c) (uOk A p c) b) 4).toNat) hbs
      have fbd := hf (c - (mcost A (bs (vv A p f c) (uOk A p c) b) 4).toNat) (by omega)
      have zbd := zz_bd wpA hp (bs (vv A p f c) (uOk A p c) b)
      have vbd : 0 ≤ vv A p f c (bs (vv A p f c) (uOk A p c) b) ∧ vv A p f c (bs (vv A p f c) (uOk A p c) b) ≤ 90000000000 := by have q3 : vv A p f c (bs (vv A p f c) (uOk A p c) b) = zz A p (bs (vv A p f c) (uOk A p c) b) + f (c - (mcost A (bs (vv A p f c) (uOk A p c) b) 4).toNat) := rfl; omega
      refine x_iload (pc := 25) dX7_choose_25 (List.Mem.tail _ (List.Mem.tail _ (List.Mem.tail _ (List.Mem.tail _ (List.Mem.tail _ (List.Mem.head _)))))) ?_
      refine x_aload_n (pc := 27) dX7_choose_27 (List.Mem.head _) ?_
      refine z_getI (pc := 28) (k := 4) (v := (wn (unB A p) 16 : Int)) dX7_choose_28 lf_X7_55 sh_119 rfl wk3 ?_
      refine z_icmp_ge (pc := 31) (tgt := 116) dX7_choose_31 (by decide) (by omega) (by omega) (by omega) (by omega) (fun hb1 => ?_) (fun hb1 => ?_)
      · skip
        have ex := bs_skip (v := vv A p f c) (g := uOk A p c) (b := b) 16 hb.2 (fun x h1 h2 => by show (unB A p x && cOk A c x) = false; rw [wn_end (U := unB A p) (n := 16) hb.2 (by omega) x h1 h2]; rfl)
        refine x_aload_n (pc := 116) dX7_choose_116 (List.Mem.head _) ?_
        refine z_getR (pc := 117) (k := 1) (r := 120) dX7_choose_117 lf_X7_15 sh_119 rfl rf_119_1 ?_
        refine x_iload_n (pc := 120) dX7_choose_120 (List.Mem.tail _ (List.Mem.head _)) ?_
        refine x_lload_n (pc := 121) dX7_choose_121 (List.Mem.tail _ (List.Mem.tail _ (List.Mem.tail _ (List.Mem.head _)))) ?_
        refine z_last (pc := 122) (j := c) (v := (vv A p f c (bs (vv A p f c) (uOk A p c) b))) dX7_choose_122 sh_120 rfl (by omega) (by decide) ?_
        have ok2 := okJ ok 120 c (v := (vv A p f c (bs (vv A p f c) (uOk A p c) b))) (by omega) (by omega)
        refine x_aload_n (pc := 123) dX7_choose_123 (List.Mem.head _) ?_
        refine z_getR (pc := 124) (k := 2) (r := 121) dX7_choose_124 lf_X7_19 sh_119 rfl rf_119_2 ?_
        refine x_iload_n (pc := 127) dX7_choose_127 (List.Mem.tail _ (List.Mem.head _)) ?_
        refine x_lload (pc := 128) dX7_choose_128 (List.Mem.tail _ (List.Mem.tail _ (List.Mem.tail _ (List.Mem.tail _ (List.Mem.head _))))) ?_
        refine z_last (pc := 130) (j := c) (v := ((((bs (vv A p f c) (uOk A p c) b) * 16 ^ k + g (c - (mcost A (bs (vv A p f c) (uOk A p c) b) 4).toNat)) : Nat) : Int)) dX7_choose_130 sh_121 rfl (by omega) (by decide) ?_
        have ok3 := okJ ok2 121 c (v := ((((bs (vv A p f c) (uOk A p c) b) * 16 ^ k + g (c - (mcost A (bs (vv A p f c) (uOk A p c) b) 4).toNat)) : Nat) : Int)) (by omega) (by omega)
        refine z_vreturn (pc := 131) dX7_choose_131 rfl ok3 ?_
        rw [ex]
      · skip
        obtain ⟨b2, n1, n2, n3, n4, n5⟩ := wn_next (U := unB A p) (n := 16) (16 - b) b rfl hb.2 (by omega)
        have m2 := mcost_bd wpA b2 4 (by omega)
        have z2 := zz_bd wpA hp b2
        have lr := hl (c - (mcost A b2 4).toNat) (by omega)
        have fr := hf (c - (mcost A b2 4).toNat) (by omega)
        have ew : wn (unB A p) (b2 + 1) = wn (unB A p) b + 1 := by show wn (unB A p) b2 + (if unB A p b2 = true then 1 else 0) = _; rw [n3, n4]; rfl
        have ebs : bs (vv A p f c) (uOk A p c) b2 = bs (vv A p f c) (uOk A p c) b := bs_skip b2 n1 (fun x h1 h2 => by show (unB A p x && cOk A c x) = false; rw [n5 x h1 h2]; rfl)
        have gr := hg (c - (mcost A b2 4).toNat)
        have gd := gex b2 (c - (mcost A b2 4).toNat) n2
        have dor := dig_or (s := b2) gr
        refine x_aload_n (pc := 34) dX7_choose_34 (List.Mem.head _) ?_
        refine z_getR (pc := 35) (k := 3) (r := 122) dX7_choose_35 lf_X7_22 sh_119 rfl rf_119_3 ?_
        refine x_iload (pc := 38) dX7_choose_38 (List.Mem.tail _ (List.Mem.tail _ (List.Mem.tail _ (List.Mem.tail _ (List.Mem.tail _ (List.Mem.head _)))))) ?_
        refine z_iald (pc := 40) (j := (wn (unB A p) b)) (v := (b2 : Int)) dX7_choose_40 sh_122 (by omega) (by omega) (by decide) (by rw [← n4]; exact wk2 b2 n2 n3) ?_
        refine x_istore (pc := 41) dX7_choose_41 (Nat.le_of_ble_eq_true rfl) ?_
        show Ev _ _ _ _ _ [(8, .int (zN (((b2 : Int))))), (0, .ref 119), (1, .int (zN ((c : Int)))), (2, .int (zN (sh))), (3, .long (zL ((vv A p f c (bs (vv A p f c) (uOk A p c) b))))), (5, .long (zL (((((bs (vv A p f c) (uOk A p c) b) * 16 ^ k + g (c - (mcost A (bs (vv A p f c) (uOk A p c) b) 4).toNat)) : Nat) : Int)))), (7, .int (zN (((wn (unB A p) b : Nat) : Int))))] _ _
        refine x_iload_n (pc := 43) dX7_choose_43 (List.Mem.tail _ (List.Mem.tail _ (List.Mem.head _))) ?_
        refine x_aload_n (pc := 44) dX7_choose_44 (List.Mem.tail _ (List.Mem.head _)) ?_
        refine z_getR (pc := 45) (k := 5) (r := 123) dX7_choose_45 lf_X7_26 sh_119 rfl rf_119_5 ?_
        refine x_iload (pc := 48) dX7_choose_48 (List.Mem.head _) ?_
        refine z_iald (pc := 50) (j := b2) (v := (mcost A b2 4)) dX7_choose_50 sh_123 (by omega) (by omega) (by decide) (wk1 b2 n2).1 ?_
        refine z_isub (pc := 51) dX7_choose_51 ?_
        refine x_istore (pc := 52) dX7_choose_52 (Nat.le_of_ble_eq_true rfl) ?_
        show Ev _ _ _ _ _ [(9, .int (zN (((c : Int) - ((mcost A b2 4)))))), (8, .int (zN (((b2 : Int))))), (0, .ref 119), (1, .int (zN ((c : Int)))), (2, .int (zN (sh))), (3, .long (zL ((vv A p f c (bs (vv A p f c) (uOk A p c) b))))), (5, .long (zL (((((bs (vv A p f c) (uOk A p c) b) * 16 ^ k + g (c - (mcost A (bs (vv A p f c) (uOk A p c) b) 4).toNat)) : Nat) : Int)))), (7, .int (zN (((wn (unB A p) b : Nat) : Int))))] _ _
        refine x_iload (pc := 54) dX7_choose_54 (List.Mem.head _) ?_
        refine z_if_lt (pc := 56) (tgt := 110) dX7_choose_56 (by decide) (by omega) (by omega) (fun hb4 => ?_) (fun hb4 => ?_)
        · skip
          have ebn : bs (vv A p f c) (uOk A p c) (b2 + 1) = bs (vv A p f c) (uOk A p c) b := by rw [bs_s, if_neg (fun q => by have q1 : (unB A p b2 && cOk A c b2) = true := q.1; have q2 := of_decide_eq_true (Bool.and_eq_true_iff.mp q1).2; omega), ebs]
          refine z_iinc (pc := 110) dX7_choose_110 (List.Mem.tail _ (List.Mem.tail _ (List.Mem.tail _ (List.Mem.tail _ (List.Mem.tail _ (List.Mem.tail _ (List.Mem.tail _ (List.Mem.head _)))))))) (Nat.le_of_ble_eq_true rfl) ?_
          show Ev _ _ _ _ _ [(7, .int (zN (((wn (unB A p) b : Nat) : Int) + 1))), (9, .int (zN (((c : Int) - ((mcost A b2 4)))))), (8, .int (zN (((b2 : Int))))), (0, .ref 119), (1, .int (zN ((c : Int)))), (2, .int (zN (sh))), (3, .long (zL ((vv A p f c (bs (vv A p f c) (uOk A p c) b))))), (5, .long (zL (((((bs (vv A p f c) (uOk A p c) b) * 16 ^ k + g (c - (mcost A (bs (vv A p f c) (uOk A p c) b) 4).toNat)) : Nat) : Int))))] _ _
          refine x_goto (pc := 113) (tgt := 25) dX7_choose_113 (by decide) ?_
          refine x_weaken (L1 := [(0, .ref 119), (1, .int (zN ((c : Int)))), (2, .int (zN (sh))), (3, .long (zL ((vv A p f c (bs (vv A p f c) (uOk A p c) (b2 + 1)))))), (5, .long (zL (((((bs (vv A p f c) (uOk A p c) (b2 + 1)) * 16 ^ k + g (c - (mcost A (bs (vv A p f c) (uOk A p c) (b2 + 1)) 4).toNat)) : Nat) : Int)))), (7, .int (zN (((wn (unB A p) (b2 + 1) : Nat) : Int))))]) (List.forall_mem_cons.mpr ⟨(List.Mem.tail _ (List.Mem.tail _ (List.Mem.tail _ (List.Mem.head _)))), (List.forall_mem_cons.mpr ⟨(List.Mem.tail _ (List.Mem.tail _ (List.Mem.tail _ (List.Mem.tail _ (List.Mem.head _))))), (List.forall_mem_cons.mpr ⟨(List.Mem.tail _ (List.Mem.tail _ (List.Mem.tail _ (List.Mem.tail _ (List.Mem.tail _ (List.Mem.head _)))))), (List.forall_mem_cons.mpr ⟨(mem_cl (by first | (rw [ebn]; done) | (rw [ebn2]; rfl)) (List.Mem.tail _ (List.Mem.tail _ (List.Mem.tail _ (List.Mem.tail _ (List.Mem.tail _ (List.Mem.tail _ (List.Mem.head _)))))))), (List.forall_mem_cons.mpr ⟨(mem_cl (by first | (rw [ebn]; done) | (rw [ebn2, dor]; done)) (List.Mem.tail _ (List.Mem.tail _ (List.Mem.tail _ (List.Mem.tail _ (List.Mem.tail _ (List.Mem.tail _ (List.Mem.tail _ (List.Mem.head _))))))))), (List.forall_mem_cons.mpr ⟨(mem_ci (by rw [ew]; omega) (List.Mem.head _)), (fun _ h => absurd h List.not_mem_nil)⟩)⟩)⟩)⟩)⟩)⟩) ?_
          exact ih25 ((b2 + 1)) (by omega) (by omega)
        · skip
          refine x_aload_n (pc := 59) dX7_choose_59 (List.Mem.tail _ (List.Mem.tail _ (List.Mem.head _))) ?_
          refine z_getR (pc := 60) (k := 6) (r := 124) dX7_choose_60 lf_X7_29 sh_119 rfl rf_119_6 ?_
          refine x_iload (pc := 63) dX7_choose_63 (List.Mem.tail _ (List.Mem.head _)) ?_
          refine z_lald (pc := 65) (j := b2) (v := (zz A p b2)) dX7_choose_65 sh_124 (by omega) (by omega) (by decide) (wk1 b2 n2).2 ?_
          refine x_aload_n (pc := 66) dX7_choose_66 (List.Mem.tail _ (List.Mem.tail _ (List.Mem.head _))) ?_
          refine z_getR (pc := 67) (k := 1) (r := 120) dX7_choose_67 lf_X7_15 sh_119 rfl rf_119_1 ?_
          refine x_iload (pc := 70) dX7_choose_70 (List.Mem.head _) ?_
          refine z_lald (pc := 72) (j := c - (mcost A b2 4).toNat) (v := (f (c - (mcost A b2 4).toNat))) dX7_choose_72 sh_120 (by omega) (by omega) (by decide) lr.1 ?_
          refine z_ladd (pc := 73) dX7_choose_73 ?_
          refine x_lload_n (pc := 74) dX7_choose_74 (List.Mem.tail _ (List.Mem.tail _ (List.Mem.tail _ (List.Mem.tail _ (List.Mem.tail _ (List.Mem.head _)))))) ?_
          refine z_lcmp_ge (pc := 75) (tgt := 110) dX7_choose_75 dX7_choose_76 (by decide) (by omega) (by omega) (by omega) (by omega) (fun hb5 => ?_) (fun hb5 => ?_)
          · skip
            have ebn : bs (vv A p f c) (uOk A p c) (b2 + 1) = bs (vv A p f c) (uOk A p c) b := by rw [bs_s, if_neg (fun q => by have q2 := q.2; rw [ebs] at q2; have q3 : vv A p f c b2 = zz A p b2 + f (c - (mcost A b2 4).toNat) := rfl; omega), ebs]
            refine z_iinc (pc := 110) dX7_choose_110 (List.Mem.tail _ (List.Mem.tail _ (List.Mem.tail _ (List.Mem.tail _ (List.Mem.tail _ (List.Mem.tail _ (List.Mem.tail _ (List.Mem.head _)))))))) (Nat.le_of_ble_eq_true rfl) ?_
            show Ev _ _ _ _ _ [(7, .int (zN (((wn (unB A p) b : Nat) : Int) + 1))), (9, .int (zN (((c : Int) - ((mcost A b2 4)))))), (8, .int (zN (((b2 : Int))))), (0, .ref 119), (1, .int (zN ((c : Int)))), (2, .int (zN (sh))), (3, .long (zL ((vv A p f c (bs (vv A p f c) (uOk A p c) b))))), (5, .long (zL (((((bs (vv A p f c) (uOk A p c) b) * 16 ^ k + g (c - (mcost A (bs (vv A p f c) (uOk A p c) b) 4).toNat)) : Nat) : Int))))] _ _
            refine x_goto (pc := 113) (tgt := 25) dX7_choose_113 (by decide) ?_
            refine x_weaken (L1 := [(0, .ref 119), (1, .int (zN ((c : Int)))), (2, .int (zN (sh))), (3, .long (zL ((vv A p f c (bs (vv A p f c) (uOk A p c) (b2 + 1)))))), (5, .long (zL (((((bs (vv A p f c) (uOk A p c) (b2 + 1)) * 16 ^ k + g (c - (mcost A (bs (vv A p f c) (uOk A p c) (b2 + 1)) 4).toNat)) : Nat) : Int)))), (7, .int (zN (((wn (unB A p) (b2 + 1) : Nat) : Int))))]) (List.forall_mem_cons.mpr ⟨(List.Mem.tail _ (List.Mem.tail _ (List.Mem.tail _ (List.Mem.head _)))), (List.forall_mem_cons.mpr ⟨(List.Mem.tail _ (List.Mem.tail _ (List.Mem.tail _ (List.Mem.tail _ (List.Mem.head _))))), (List.forall_mem_cons.mpr ⟨(List.Mem.tail _ (List.Mem.tail _ (List.Mem.tail _ (List.Mem.tail _ (List.Mem.tail _ (List.Mem.head _)))))), (List.forall_mem_cons.mpr ⟨(mem_cl (by first | (rw [ebn]; done) | (rw [ebn2]; rfl)) (List.Mem.tail _ (List.Mem.tail _ (List.Mem.tail _ (List.Mem.tail _ (List.Mem.tail _ (List.Mem.tail _ (List.Mem.head _)))))))), (List.forall_mem_cons.mpr ⟨(mem_cl (by first | (rw [ebn]; done) | (rw [ebn2, dor]; done)) (List.Mem.tail _ (List.Mem.tail _ (List.Mem.tail _ (List.Mem.tail _ (List.Mem.tail _ (List.Mem.tail _ (List.Mem.tail _ (List.Mem.head _))))))))), (List.forall_mem_cons.mpr ⟨(mem_ci (by rw [ew]; omega) (List.Mem.head _)), (fun _ h => absurd h List.not_mem_nil)⟩)⟩)⟩)⟩)⟩)⟩) ?_
            exact ih25 ((b2 + 1)) (by omega) (by omega)
          · skip
            have ebn2 : bs (vv A p f c) (uOk A p c) (b2 + 1) = b2 := by rw [bs_s, if_pos ⟨by show (unB A p b2 && cOk A c b2) = true; rw [n3, show cOk A c b2 = true from decide_eq_true (by omega)]; rfl, by rw [ebs]; have q3 : vv A p f c b2 = zz A p b2 + f (c - (mcost A b2 4).toNat) := rfl; omega⟩]
            refine x_aload_n (pc := 79) dX7_choose_79 (List.Mem.tail _ (List.Mem.tail _ (List.Mem.head _))) ?_
            refine z_getR (pc := 80) (k := 6) (r := 124) dX7_choose_80 lf_X7_29 sh_119 rfl rf_119_6 ?_
            refine x_iload (pc := 83) dX7_choose_83 (List.Mem.tail _ (List.Mem.head _)) ?_
            refine z_lald (pc := 85) (j := b2) (v := (zz A p b2)) dX7_choose_85 sh_124 (by omega) (by omega) (by decide) (wk1 b2 n2).2 ?_
            refine x_aload_n (pc := 86) dX7_choose_86 (List.Mem.tail _ (List.Mem.tail _ (List.Mem.head _))) ?_
            refine z_getR (pc := 87) (k := 1) (r := 120) dX7_choose_87 lf_X7_15 sh_119 rfl rf_119_1 ?_
            refine x_iload (pc := 90) dX7_choose_90 (List.Mem.head _) ?_
            refine z_lald (pc := 92) (j := c - (mcost A b2 4).toNat) (v := (f (c - (mcost A b2 4).toNat))) dX7_choose_92 sh_120 (by omega) (by omega) (by decide) lr.1 ?_
            refine z_ladd (pc := 93) dX7_choose_93 ?_
            refine x_lstore_n (pc := 94) dX7_choose_94 (Nat.le_of_ble_eq_true rfl) ?_
            show Ev _ _ _ _ _ [(3, .long (zL ((((zz A p b2)) + ((f (c - (mcost A b2 4).toNat))))))), (9, .int (zN (((c : Int) - ((mcost A b2 4)))))), (8, .int (zN (((b2 : Int))))), (0, .ref 119), (1, .int (zN ((c : Int)))), (2, .int (zN (sh))), (5, .long (zL (((((bs (vv A p f c) (uOk A p c) b) * 16 ^ k + g (c - (mcost A (bs (vv A p f c) (uOk A p c) b) 4).toNat)) : Nat) : Int)))), (7, .int (zN (((wn (unB A p) b : Nat) : Int))))] _ _
            refine x_iload (pc := 95) dX7_choose_95 (List.Mem.tail _ (List.Mem.tail _ (List.Mem.head _))) ?_
            refine z_i2l (pc := 97) dX7_choose_97 (by omega) (by omega) ?_
            refine x_iload_n (pc := 98) dX7_choose_98 (List.Mem.tail _ (List.Mem.tail _ (List.Mem.tail _ (List.Mem.tail _ (List.Mem.tail _ (List.Mem.head _)))))) ?_
            refine z_lshl (pc := 99) (k := 4 * k) dX7_choose_99 (by omega) (by omega) ?_
            refine x_aload_n (pc := 100) dX7_choose_100 (List.Mem.tail _ (List.Mem.tail _ (List.Mem.tail _ (List.Mem.head _)))) ?_
            refine z_getR (pc := 101) (k := 2) (r := 121) dX7_choose_101 lf_X7_19 sh_119 rfl rf_119_2 ?_
            refine x_iload (pc := 104) dX7_choose_104 (List.Mem.tail _ (List.Mem.head _)) ?_
            refine z_lald (pc := 106) (j := c - (mcost A b2 4).toNat) (v := (g (c - (mcost A b2 4).toNat) : Int)) dX7_choose_106 sh_121 (by omega) (by omega) (by decide) lr.2 ?_
            refine z_lor (pc := 107) (m := b2 * 2 ^ (4 * k)) (n := g (c - (mcost A b2 4).toNat)) dX7_choose_107 (by rw [Int.natCast_mul, Int.natCast_pow]; rfl) rfl ?_
            refine x_lstore (pc := 108) dX7_choose_108 (Nat.le_of_ble_eq_true rfl) ?_
            show Ev _ _ _ _ _ [(5, .long (zL ((((b2 * 2 ^ (4 * k)) ||| (g (c - (mcost A b2 4).toNat)) : Nat) : Int)))), (3, .long (zL ((((zz A p b2)) + ((f (c - (mcost A b2 4).toNat))))))), (9, .int (zN (((c : Int) - ((mcost A b2 4)))))), (8, .int (zN (((b2 : Int))))), (0, .ref 119), (1, .int (zN ((c : Int)))), (2, .int (zN (sh))), (7, .int (zN (((wn (unB A p) b : Nat) : Int))))] _ _
            refine z_iinc (pc := 110) dX7_choose_110 (List.Mem.tail _ (List.Mem.tail _ (List.Mem.tail _ (List.Mem.tail _ (List.Mem.tail _ (List.Mem.tail _ (List.Mem.tail _ (List.Mem.head _)))))))) (Nat.le_of_ble_eq_true rfl) ?_
            show Ev _ _ _ _ _ [(7, .int (zN (((wn (unB A p) b : Nat) : Int) + 1))), (5, .long (zL ((((b2 * 2 ^ (4 * k)) ||| (g (c - (mcost A b2 4).toNat)) : Nat) : Int)))), (3, .long (zL ((((zz A p b2)) + ((f (c - (mcost A b2 4).toNat))))))), (9, .int (zN (((c : Int) - ((mcost A b2 4)))))), (8, .int (zN (((b2 : Int))))), (0, .ref 119), (1, .int (zN ((c : Int)))), (2, .int (zN (sh)))] _ _
            refine x_goto (pc := 113) (tgt := 25) dX7_choose_113 (by decide) ?_
            refine x_weaken (L1 := [(0, .ref 119), (1, .int (zN ((c : Int)))), (2, .int (zN (sh))), (3, .long (zL ((vv A p f c (bs (vv A p f c) (uOk A p c) (b2 + 1)))))), (5, .long (zL (((((bs (vv A p f c) (uOk A p c) (b2 + 1)) * 16 ^ k + g (c - (mcost A (bs (vv A p f c) (uOk A p c) (b2 + 1)) 4).toNat)) : Nat) : Int)))), (7, .int (zN (((wn (unB A p) (b2 + 1) : Nat) : Int))))]) (List.forall_mem_cons.mpr ⟨(List.Mem.tail _ (List.Mem.tail _ (List.Mem.tail _ (List.Mem.tail _ (List.Mem.tail _ (List.Mem.head _)))))), (List.forall_mem_cons.mpr ⟨(List.Mem.tail _ (List.Mem.tail _ (List.Mem.tail _ (List.Mem.tail _ (List.Mem.tail _ (List.Mem.tail _ (List.Mem.head _))))))), (List.forall_mem_cons.mpr ⟨(List.Mem.tail _ (List.Mem.tail _ (List.Mem.tail _ (List.Mem.tail _ (List.Mem.tail _ (List.Mem.tail _ (List.Mem.tail _ (List.Mem.head _)))))))), (List.forall_mem_cons.mpr ⟨(mem_cl (by first | (rw [ebn]; done) | (rw [ebn2]; rfl)) (List.Mem.tail _ (List.Mem.tail _ (List.Mem.head _)))), (List.forall_mem_cons.mpr ⟨(mem_cl (by first | (rw [ebn]; done) | (rw [ebn2, dor]; done)) (List.Mem.tail _ (List.Mem.head _))), (List.forall_mem_cons.mpr ⟨(mem_ci (by rw [ew]; omega) (List.Mem.head _)), (fun _ h => absurd h List.not_mem_nil)⟩)⟩)⟩)⟩)⟩)⟩) ?_
            exact ih25 ((b2 + 1)) (by omega) (by omega)
  refine x_weaken (L1 := [(0, .ref 119), (1, .int (zN ((c : Int)))), (2, .int (zN (sh))), (3, .long (zL ((vv A p f c (bs (vv A p f c) (uOk A p c) 1))))), (5, .long (zL (((((bs (vv A p f c) (uOk A p c) 1) * 16 ^ k + g (c - (mcost A (bs (vv A p f c) (uOk A p c) 1) 4).toNat)) : Nat) : Int)))), (7, .int (zN (((wn (unB A p) 1 : Nat) : Int))))]) (List.forall_mem_cons.mpr ⟨(List.Mem.tail _ (List.Mem.tail _ (List.Mem.tail _ (List.Mem.head _)))), (List.forall_mem_cons.mpr ⟨(List.Mem.tail _ (List.Mem.tail _ (List.Mem.tail _ (List.Mem.tail _ (List.Mem.head _))))), (List.forall_mem_cons.mpr ⟨(List.Mem.tail _ (List.Mem.tail _ (List.Mem.tail _ (List.Mem.tail _ (List.Mem.tail _ (List.Mem.head _)))))), (List.forall_mem_cons.mpr ⟨(mem_cl (by rw [b1]; exact z0) (List.Mem.tail _ (List.Mem.tail _ (List.Mem.head _)))), (List.forall_mem_cons.mpr ⟨(mem_cl (by rw [b1, m0]; show ((0 * 16 ^ k + g c : Nat) : Int) = _; rw [Nat.zero_mul, Nat.zero_add]) (List.Mem.tail _ (List.Mem.head _))), (List.forall_mem_cons.mpr ⟨(mem_ci (by rw [w1]; rfl) (List.Mem.head _)), (fun _ h => absurd h List.not_mem_nil)⟩)⟩)⟩)⟩)⟩)⟩) ?_
  exact lp25 (16 - 1 + 1) (1) (by omega) (Nat.lt_succ_self _)
