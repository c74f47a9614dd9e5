/-! GROUP S4: weighUpTo and spent of the class. -/
/-- what is known of SPENT, up to so much coin -/
def SpK (H : ZH) (A : Nat → Int) : Prop := (-1 ≤ H.1 119 0 ∧ H.1 119 0 ≤ 999) ∧ ∀ x : Nat, (x : Int) ≤ H.1 119 0 → H.2 120 x = zo A (A 477).toNat (A 477).toNat x ∧ H.2 121 x = (chD A (A 477).toNat (A 477).toNat x : Int)
def FcW (H H1 : ZH) : Prop := (∀ cc k, cc ≠ 122 → cc ≠ 123 → ¬ (cc = 119 ∧ (k = 0 ∨ k = 4)) → H1.1 cc k = H.1 cc k) ∧ (∀ cc k, cc ≠ 120 → cc ≠ 121 → cc ≠ 124 → H1.2 cc k = H.2 cc k)
theorem FcW_rf (H : ZH) : FcW H H := ⟨fun _ _ _ _ _ => rfl, fun _ _ _ _ _ => rfl⟩
theorem FcW_tr {H H1 H2 : ZH} (a : FcW H H1) (b : FcW H1 H2) : FcW H H2 := ⟨fun cc k g h i => (b.1 cc k g h i).trans (a.1 cc k g h i), fun cc k g h i => (b.2 cc k g h i).trans (a.2 cc k g h i)⟩
theorem FcW_2 {H H1 : ZH} (a : FcW H H1) : H1.1 2 = H.1 2 := funext (fun k => a.1 2 k (by omega) (by omega) (by omega))
theorem FcW_p {H H1 : ZH} (a : FcW H H1) (r : RepP H) : RepP H1 := RepP_cg2 (fun cc h => funext (fun k => a.1 cc k (by omega) (by omega) (by omega))) r
theorem zo_8 {A : Nat → Int} (h : WFP A) {k c : Nat} (hk : k ≤ (A 477).toNat) (hc : c ≤ 999) : 0 ≤ zo A (A 477).toNat k c ∧ zo A (A 477).toNat k c ≤ 80000000000 := by
  have n := h.1
  have y := zo_bd h (N := (A 477).toNat) (by omega) k c hk
  omega
theorem bm_16 (a : Int) : a.bmod 4294967296 % 16 = a % 16 := by
  rw [Int.bmod_def]
  split <;> omega
/-- the answer of spent -/
def SpV (A : Nat → Int) (c : Nat) (w : Int) : Int := if w = -1 then zo A (A 477).toNat (A 477).toNat c / 1000 else if w = 20 then zo A (A 477).toNat (A 477).toNat c % 1000 else (sB A (A 477).toNat ((A 477).toNat - 1 - w.toNat) (cx A (A 477).toNat c w.toNat) : Int)

theorem c_X7_weighUpTo {d : Nat} {H : ZH} (ok : okZ H) {c0 : Nat} (hc : c0 ≤ 999) (wp : WFP (H.1 2)) (rp : RepP H) (sk : SpK H (H.1 2)) : EvC zX (d + 4) mX7_weighUpTo [.ref 119, .ref 71, .int (zN ((c0 : Int)))] (eh H) (zPv (fun (H1 : ZH) => SpK H1 (H.1 2) ∧ (c0 : Int) ≤ H1.1 119 0 ∧ FcW H H1)) := by
  show _ ∧ Ev zX mX7_weighUpTo (EvC zX (d + 3)) (zPv (fun (H1 : ZH) => SpK H1 (H.1 2) ∧ (c0 : Int) ≤ H1.1 119 0 ∧ FcW H H1)) 0 [(0, .ref 119), (1, .ref 71), (2, .int (zN ((c0 : Int))))] [] (eh H)
  refine ⟨Nat.le_of_ble_eq_true rfl, ?_⟩
  obtain ⟨⟨sk1, sk2⟩, sk3⟩ := sk
  have n12 := wp.1
  obtain ⟨Nq, hN⟩ : ∃ Nq : Nat, H.1 2 477 = (Nq : Int) := ⟨(H.1 2 477).toNat, by omega⟩
  have eN : (H.1 2 477).toNat = Nq := by omega
  refine x_iload_n (pc := 0) dX7_weighUpTo_0 (List.Mem.tail _ (List.Mem.tail _ (List.Mem.head _))) ?_
  refine x_aload_n (pc := 1) dX7_weighUpTo_1 (List.Mem.head _) ?_
  refine z_getI (pc := 2) (k := 0) (v := (H.1 119 0)) dX7_weighUpTo_2 lf_X7_9 sh_119 rfl rfl ?_
  refine z_icmp_gt (pc := 5) (tgt := 9) dX7_weighUpTo_5 (by decide) (by omega) (by omega) (by omega) (by omega) (fun hb1 => ?_) (fun hb1 => ?_)
  · skip
    refine x_aload_n (pc := 9) dX7_weighUpTo_9 (List.Mem.head _) ?_
    refine z_getR (pc := 10) (k := 1) (r := 120) dX7_weighUpTo_10 lf_X7_15 sh_119 rfl rf_119_1 ?_
    refine z_lconst (pc := 13) 0 dX7_weighUpTo_13 rfl ?_
    refine z_callSvp (pc := 14) (i := mJ7_fill_d0a16) (S := []) [.ref 120, .long (zL (0))] dX7_weighUpTo_14 ml_X7_37 ok_J7_fill_d0a16 rfl rfl (Nat.le_of_ble_eq_true rfl) (c_J7_fill_d0a16 (d := d + 2) (c := 120) (n := 1000) (hn := (by omega)) (v := 0) (v1 := (by omega)) (v2 := (by omega)) (ok := ok) (sh := sh_120)) (fun ok3 => ?_)
    refine x_aload_n (pc := 17) dX7_weighUpTo_17 (List.Mem.head _) ?_
    refine z_getR (pc := 18) (k := 2) (r := 121) dX7_weighUpTo_18 lf_X7_19 sh_119 rfl rf_119_2 ?_
    refine z_lconst (pc := 21) 0 dX7_weighUpTo_21 rfl ?_
    refine z_callSvp (pc := 22) (i := mJ7_fill_d0a16) (S := []) [.ref 121, .long (zL (0))] dX7_weighUpTo_22 ml_X7_37 ok_J7_fill_d0a16 rfl rfl (Nat.le_of_ble_eq_true rfl) (c_J7_fill_d0a16 (d := d + 2) (c := 121) (n := 1000) (hn := (by omega)) (v := 0) (v1 := (by omega)) (v2 := (by omega)) (ok := ok3) (sh := sh_121)) (fun ok5 => ?_)
    refine x_aload_n (pc := 25) dX7_weighUpTo_25 (List.Mem.tail _ (List.Mem.head _)) ?_
    refine z_getI (pc := 26) (k := 0) (v := (Nq : Int)) dX7_weighUpTo_26 lf_X7_32 sh_71 rfl (by rw [wB2, wB2]; exact rp.1.trans hN) ?_
    refine z_iconst (pc := 29) dX7_weighUpTo_29 ?_
    refine z_isub (pc := 30) dX7_weighUpTo_30 ?_
    refine x_istore_n (pc := 31) dX7_weighUpTo_31 (Nat.le_of_ble_eq_true rfl) ?_
    show Ev _ _ _ _ _ [(3, .int (zN ((((Nq : Int)) - 1)))), (0, .ref 119), (1, .ref 71), (2, .int (zN ((c0 : Int))))] _ _
    have okW0 := ok5
    obtain ⟨W, hW⟩ : ∃ W, W = (wB (wB H 120 (fun k => if k < 1000 then 0 else H.2 120 k)) 121 (fun k => if k < 1000 then 0 else (wB H 120 (fun k => if k < 1000 then 0 else H.2 120 k)).2 121 k)) := ⟨_, rfl⟩
    rw [← hW]
    have okW : okZ W := by rw [hW]; exact okW0
    have w1 : W.1 = H.1 := by rw [hW]; rfl
    have w20 : ∀ x, x < 1000 → W.2 120 x = 0 ∧ W.2 121 x = 0 := fun x hx => by
      rw [hW, wB1, wB1c (by omega), wB1]
      exact ⟨if_pos hx, if_pos hx⟩
    have w2f : ∀ cc k, cc ≠ 120 → cc ≠ 121 → W.2 cc k = H.2 cc k := fun cc k g h => by rw [hW, wB1c h, wB1c g]
    have lp32 : ∀ (nF : Nat) (k : Nat) (Hl : ZH), okZ Hl → (k ≤ Nq) → (∀ x, x ≤ c0 → Hl.2 120 x = zo (H.1 2) Nq k x ∧ Hl.2 121 x = (chD (H.1 2) Nq k x : Int)) → (FcW H Hl) → Nq - k < nF → Ev zX mX7_weighUpTo (EvC zX (d + 3)) (zPv (fun (H1 : ZH) => SpK H1 (H.1 2) ∧ (c0 : Int) ≤ H1.1 119 0 ∧ FcW H H1)) 32 [(0, .ref 119), (1, .ref 71), (2, .int (zN ((c0 : Int)))), (3, .int (zN (((Nq : Int) - 1 - k))))] [] (eh Hl) := by
      intro nF
      induction nF with
      | zero => intro k Hl okl32 hk hv fr hm; exact absurd hm (Nat.not_lt_zero _)
      | succ nF ih32 =>
        intro k Hl okl32 hk hv fr hm
        have e2 := FcW_2 fr
        have rpl := FcW_p fr rp
        refine x_iload_n (pc := 32) dX7_weighUpTo_32 (List.Mem.tail _ (List.Mem.tail _ (List.Mem.tail _ (List.Mem.head _)))) ?_
        refine z_if_lt (pc := 33) (tgt := 74) dX7_weighUpTo_33 (by decide) (by omega) (by omega) (fun hb6 => ?_) (fun hb6 => ?_)
        · skip
          refine x_aload_n (pc := 74) dX7_weighUpTo_74 (List.Mem.head _) ?_
          refine x_iload_n (pc := 75) dX7_weighUpTo_75 (List.Mem.tail _ (List.Mem.tail _ (List.Mem.head _))) ?_
          refine z_putI (pc := 76) (k := 0) dX7_weighUpTo_76 lp_X7_9 sh_119 rfl ?_
          have ok7 := okI okl32 119 0 (v := (c0 : Int)) (by omega) (by omega)
          refine z_vreturn (pc := 79) dX7_weighUpTo_79 rfl ok7 ?_
          have ek : k = Nq := by omega
          subst ek
          refine ⟨⟨⟨?_, ?_⟩, fun x hx => ?_⟩, ?_, FcW_tr fr ⟨fun cc k g h i => by rw [wIg, if_neg (by omega)], fun _ _ _ _ _ => rfl⟩⟩
          · rw [wI1]; omega
          · rw [wI1]; omega
          · rw [wI1] at hx; rw [eN]; exact hv x (by omega)
          · rw [wI1]; exact Int.le_refl _
        · skip
          refine x_aload_n (pc := 36) dX7_weighUpTo_36 (List.Mem.head _) ?_
          refine x_aload_n (pc := 37) dX7_weighUpTo_37 (List.Mem.tail _ (List.Mem.head _)) ?_
          refine x_iload_n (pc := 38) dX7_weighUpTo_38 (List.Mem.tail _ (List.Mem.tail _ (List.Mem.tail _ (List.Mem.head _)))) ?_
          refine z_callVv (pc := 39) (i := mX7_findWorth) (S := []) [.ref 71, .int (zN (((Nq : Int) - 1 - k)))] dX7_weighUpTo_39 ml_X7_43 ok_X7_findWorth rfl sh_119 rfl rfl (Nat.le_of_ble_eq_true rfl) (by have qz := c_X7_findWorth (d := d) (p := (Nq - 1 - k)) (hp := (by omega)) (ok := okl32) (wp := (by rw [e2]; exact wp)) (rp := rpl); rw [show (((Nq - 1 - k) : Nat) : Int) = ((Nq : Int) - 1 - k) by omega] at qz; exact qz) ?_
          intro Hf ok9 hp10
          rw [e2] at hp10
          obtain ⟨wkf, ff1, ff2⟩ := hp10
          have frf : FcW Hl Hf := ⟨fun cc k g h i => ff1 cc k g h (by omega), fun cc k g h i => ff2 cc k i⟩
          have frf2 := FcW_tr fr frf
          refine x_iload_n (pc := 42) dX7_weighUpTo_42 (List.Mem.tail _ (List.Mem.tail _ (List.Mem.head _))) ?_
          refine x_istore (pc := 43) dX7_weighUpTo_43 (Nat.le_of_ble_eq_true rfl) ?_
          show Ev _ _ _ _ _ [(4, .int (zN ((c0 : Int)))), (0, .ref 119), (1, .ref 71), (2, .int (zN ((c0 : Int)))), (3, .int (zN (((Nq : Int) - 1 - k))))] _ _
          have lp45 : ∀ (nF : Nat) (y : Nat) (Hm : ZH), okZ Hm → (y ≤ c0 + 1) → (WkP Hm (H.1 2) (Nq - 1 - k)) → (∀ x : Nat, (x : Int) ≤ (c0 : Int) - y → Hm.2 120 x = zo (H.1 2) Nq k x ∧ Hm.2 121 x = (chD (H.1 2) Nq k x : Int)) → (∀ x : Nat, x ≤ c0 → (c0 : Int) - y < x → Hm.2 120 x = zo (H.1 2) Nq (k + 1) x ∧ Hm.2 121 x = (chD (H.1 2) Nq (k + 1) x : Int)) → (FcW H Hm) → c0 + 1 - y < nF → Ev zX mX7_weighUpTo (EvC zX (d + 3)) (zPv (fun (H1 : ZH) => SpK H1 (H.1 2) ∧ (c0 : Int) ≤ H1.1 119 0 ∧ FcW H H1)) 45 [(0, .ref 119), (1, .ref 71), (2, .int (zN ((c0 : Int)))), (3, .int (zN (((Nq : Int) - 1 - k)))), (4, .int (zN (((c0 : Int) - y))))] [] (eh Hm) := by
            intro nF
            induction nF with
            | zero => intro y Hm okl45 hy wkm ho hn frm hm; exact absurd hm (Nat.not_lt_zero _)
            | succ nF ih45 =>
              intro y Hm okl45 hy wkm ho hn frm hm
              have z71 : Hm.1 71 0 = (Nq : Int) := (frm.1 71 0 (by omega) (by omega) (by omega)).trans (rp.1.trans hN)
              refine x_iload (pc := 45) dX7_weighUpTo_45 (List.Mem.tail _ (List.Mem.tail _ (List.Mem.tail _ (List.Mem.tail _ (List.Mem.head _))))) ?_
              refine z_if_lt (pc := 47) (tgt := 68) dX7_weighUpTo_47 (by decide) (by omega) (by omega) (fun hb11 => ?_) (fun hb11 => ?_)
              · skip
                have hvn : ∀ x, x ≤ c0 → Hm.2 120 x = zo (H.1 2) Nq (k + 1) x ∧ Hm.2 121 x = (chD (H.1 2) Nq (k + 1) x : Int) := fun x hx => hn x hx (by omega)
                have frn := frm
                refine z_iinc (pc := 68) dX7_weighUpTo_68 (List.Mem.tail _ (List.Mem.tail _ (List.Mem.tail _ (List.Mem.head _)))) (Nat.le_of_ble_eq_true rfl) ?_
                show Ev _ _ _ _ _ [(3, .int (zN (((Nq : Int) - 1 - k) + (-1)))), (0, .ref 119), (1, .ref 71), (2, .int (zN ((c0 : Int)))), (4, .int (zN (((c0 : Int) - y))))] _ _
                refine x_goto (pc := 71) (tgt := 32) dX7_weighUpTo_71 (by decide) ?_
                refine x_weaken (L1 := [(0, .ref 119), (1, .ref 71), (2, .int (zN ((c0 : Int)))), (3, .int (zN (((Nq : Int) - 1 - (k + 1)))))]) (List.forall_mem_cons.mpr ⟨(List.Mem.tail _ (List.Mem.head _)), (List.forall_mem_cons.mpr ⟨(List.Mem.tail _ (List.Mem.tail _ (List.Mem.head _))), (List.forall_mem_cons.mpr ⟨(List.Mem.tail _ (List.Mem.tail _ (List.Mem.tail _ (List.Mem.head _)))), (List.forall_mem_cons.mpr ⟨(mem_ci (by omega) (List.Mem.head _)), (fun _ h => absurd h List.not_mem_nil)⟩)⟩)⟩)⟩) ?_
                exact ih32 ((k + 1)) Hm okl45 (by omega) (hvn) (frn) (by omega)
              · skip
                have hyc : y ≤ c0 := by omega
                have hlx : ∀ x, x ≤ c0 - y → Hm.2 120 x = zo (H.1 2) Nq k x ∧ Hm.2 121 x = (chD (H.1 2) Nq k x : Int) := fun x hx => ho x (by omega)
                refine x_aload_n (pc := 50) dX7_weighUpTo_50 (List.Mem.head _) ?_
                refine x_iload (pc := 51) dX7_weighUpTo_51 (List.Mem.tail _ (List.Mem.tail _ (List.Mem.tail _ (List.Mem.tail _ (List.Mem.head _))))) ?_
                refine x_aload_n (pc := 53) dX7_weighUpTo_53 (List.Mem.head _) ?_
                refine x_aload_n (pc := 54) dX7_weighUpTo_54 (List.Mem.tail _ (List.Mem.head _)) ?_
                refine x_iload_n (pc := 55) dX7_weighUpTo_55 (List.Mem.tail _ (List.Mem.tail _ (List.Mem.tail _ (List.Mem.head _)))) ?_
                refine z_callVip (pc := 56) (i := mX7_shiftOf) (S := [.int (zN (((c0 : Int) - y))), .ref 119]) [.ref 71, .int (zN (((Nq : Int) - 1 - k)))] dX7_weighUpTo_56 ml_X7_47 ok_X7_shiftOf rfl sh_119 rfl (Or.inl rfl) (Nat.le_of_ble_eq_true rfl) (by have qz := c_X7_shiftOf (d := d + 2) (N := Nq) (p := (Nq - 1 - k)) (hp := (by omega)) (hN := (by omega)) (ok := okl45) (hz := z71); rw [show (((Nq - 1 - k) : Nat) : Int) = ((Nq : Int) - 1 - k) by omega] at qz; exact qz) (fun r12a r12b ok13 => ?_)
                refine z_callVv (pc := 59) (i := mX7_choose) (S := []) [.int (zN (((c0 : Int) - y))), .int (zN ((4 * (((Nq : Nat) : Int) - 1 - (Nq - 1 - k)))))] dX7_weighUpTo_59 ml_X7_51 ok_X7_choose rfl sh_119 rfl rfl (Nat.le_of_ble_eq_true rfl) (by have qz := c_X7_choose (d := d + 2) (A := (H.1 2)) (f := (zo (H.1 2) Nq k)) (g := (chD (H.1 2) Nq k)) (p := (Nq - 1 - k)) (c := (c0 - y)) (k := k) (sh := ((4 * (((Nq : Nat) : Int) - 1 - (Nq - 1 - k))))) (hp := (by omega)) (hc9 := (by omega)) (hk := (by omega)) (hsh := (by omega)) (ok := ok13) (wk := wkm) (wpA := wp) (hl := hlx) (hf := (fun x hx => by have q := zo_8 wp (k := k) (c := x) (by omega) (by omega); rw [eN] at q; exact q)) (hg := (fun x => chD_lt (H.1 2) Nq k x)); rw [show (((c0 - y) : Nat) : Int) = ((c0 : Int) - y) by omega] at qz; exact qz) ?_
                intro Hg ok15 hp16
                have hg1 := hp16
                rw [sB_U wp Nq k (c0 - y)] at hg1
                have wkn : WkP Hg (H.1 2) (Nq - 1 - k) := by rw [hg1]; exact ⟨fun b hb => by rw [wJ1c (by omega), wJ1c (by omega)]; exact wkm.1 b hb, wkm.2⟩
                have hon : ∀ x : Nat, (x : Int) ≤ (c0 : Int) - ((y + 1 : Nat) : Int) → Hg.2 120 x = zo (H.1 2) Nq k x ∧ Hg.2 121 x = (chD (H.1 2) Nq k x : Int) := fun x hx => by rw [hg1, wJ1c (by omega), wJ1k (by omega), wJ1k (by omega), wJ1c (by omega)]; exact ho x (by omega)
                have hnn : ∀ x : Nat, x ≤ c0 → (c0 : Int) - ((y + 1 : Nat) : Int) < x → Hg.2 120 x = zo (H.1 2) Nq (k + 1) x ∧ Hg.2 121 x = (chD (H.1 2) Nq (k + 1) x : Int) := fun x h1 h2 => by
                  by_cases z : x = c0 - y
                  · rw [z, hg1, wJ1c (by omega), wJ1, wJ1]; exact ⟨rfl, rfl⟩
                  · rw [hg1, wJ1c (by omega), wJ1k (by omega), wJ1k (by omega), wJ1c (by omega)]; exact hn x h1 (by omega)
                have frg : FcW H Hg := FcW_tr frm (by rw [hg1]; exact ⟨fun _ _ _ _ _ => rfl, fun cc k g h i => by rw [wJ1c h, wJ1c g]⟩)
                refine z_iinc (pc := 62) dX7_weighUpTo_62 (List.Mem.tail _ (List.Mem.tail _ (List.Mem.tail _ (List.Mem.tail _ (List.Mem.head _))))) (Nat.le_of_ble_eq_true rfl) ?_
                show Ev _ _ _ _ _ [(4, .int (zN (((c0 : Int) - y) + (-1)))), (0, .ref 119), (1, .ref 71), (2, .int (zN ((c0 : Int)))), (3, .int (zN (((Nq : Int) - 1 - k))))] _ _
                refine x_goto (pc := 65) (tgt := 45) dX7_weighUpTo_65 (by decide) ?_
                refine x_weaken (L1 := [(0, .ref 119), (1, .ref 71), (2, .int (zN ((c0 : Int)))), (3, .int (zN (((Nq : Int) - 1 - k)))), (4, .int (zN (((c0 : Int) - (y + 1)))))]) (List.forall_mem_cons.mpr ⟨(List.Mem.tail _ (List.Mem.head _)), (List.forall_mem_cons.mpr ⟨(List.Mem.tail _ (List.Mem.tail _ (List.Mem.head _))), (List.forall_mem_cons.mpr ⟨(List.Mem.tail _ (List.Mem.tail _ (List.Mem.tail _ (List.Mem.head _)))), (List.forall_mem_cons.mpr ⟨(List.Mem.tail _ (List.Mem.tail _ (List.Mem.tail _ (List.Mem.tail _ (List.Mem.head _))))), (List.forall_mem_cons.mpr ⟨(mem_ci (by omega) (List.Mem.head _)), (fun _ h => absurd h List.not_mem_nil)⟩)⟩)⟩)⟩)⟩) ?_
                exact ih45 ((y + 1)) Hg ok15 (by omega) (wkn) (hon) (hnn) (frg) (by omega)
          refine x_weaken (L1 := [(0, .ref 119), (1, .ref 71), (2, .int (zN ((c0 : Int)))), (3, .int (zN (((Nq : Int) - 1 - k)))), (4, .int (zN (((c0 : Int) - 0))))]) (List.forall_mem_cons.mpr ⟨(List.Mem.tail _ (List.Mem.head _)), (List.forall_mem_cons.mpr ⟨(List.Mem.tail _ (List.Mem.tail _ (List.Mem.head _))), (List.forall_mem_cons.mpr ⟨(List.Mem.tail _ (List.Mem.tail _ (List.Mem.tail _ (List.Mem.head _)))), (List.forall_mem_cons.mpr ⟨(List.Mem.tail _ (List.Mem.tail _ (List.Mem.tail _ (List.Mem.tail _ (List.Mem.head _))))), (List.forall_mem_cons.mpr ⟨(mem_ci (by omega) (List.Mem.head _)), (fun _ h => absurd h List.not_mem_nil)⟩)⟩)⟩)⟩)⟩) ?_
          exact lp45 (c0 + 1 - 0 + 1) (0) Hf ok9 (by omega) (wkf) (fun x hx => by rw [ff2 120 x (by omega), ff2 121 x (by omega)]; exact hv x (by omega)) (fun x h1 h2 => by omega) (frf2) (Nat.lt_succ_self _)
    refine x_weaken (L1 := [(0, .ref 119), (1, .ref 71), (2, .int (zN ((c0 : Int)))), (3, .int (zN (((Nq : Int) - 1 - 0))))]) (List.forall_mem_cons.mpr ⟨(List.Mem.tail _ (List.Mem.head _)), (List.forall_mem_cons.mpr ⟨(List.Mem.tail _ (List.Mem.tail _ (List.Mem.head _))), (List.forall_mem_cons.mpr ⟨(List.Mem.tail _ (List.Mem.tail _ (List.Mem.tail _ (List.Mem.head _)))), (List.forall_mem_cons.mpr ⟨(mem_ci (by omega) (List.Mem.head _)), (fun _ h => absurd h List.not_mem_nil)⟩)⟩)⟩)⟩) ?_
    exact lp32 (Nq - 0 + 1) (0) W okW (by omega) (fun x hx => w20 x (by omega)) (⟨fun cc k _ _ _ => by rw [w1], fun cc k g h _ => w2f cc k g h⟩) (Nat.lt_succ_self _)
  · skip
    refine z_vreturn (pc := 8) dX7_weighUpTo_8 rfl ok ?_
    exact ⟨⟨⟨sk1, sk2⟩, sk3⟩, by omega, FcW_rf H⟩

theorem c_X10_spent {d : Nat} {H : ZH} (ok : okZ H) {c w : Int} (c1 : -2147483648 ≤ c) (c2 : c ≤ 2147483647) (w1 : -2147483648 ≤ w) (w2 : w ≤ 2147483647) (cn : cntOK H 25) (wp : WFP (H.1 2)) (rp : RepP H) (sk : SpK H (H.1 2)) : EvC zX (d + 5) mX10_spent [.ref 20, .int (zN (c)), .int (zN (w))] (eh H) (zPi (fun (r : Int) (H1 : ZH) => (¬ (w = -1 ∨ w = 20 ∨ (0 ≤ w ∧ w ≤ H.1 2 477 - 1)) ∧ r = -2 ∧ H1 = bumpC 0 H) ∨ ((w = -1 ∨ w = 20 ∨ (0 ≤ w ∧ w ≤ H.1 2 477 - 1)) ∧ ¬ (0 ≤ c ∧ c ≤ 999) ∧ r = -3 ∧ H1 = bumpC 1 H) ∨ ((w = -1 ∨ w = 20 ∨ (0 ≤ w ∧ w ≤ H.1 2 477 - 1)) ∧ (0 ≤ c ∧ c ≤ 999) ∧ r = SpV (H.1 2) c.toNat w ∧ SpK H1 (H.1 2) ∧ FcW H H1))) := by
  show _ ∧ Ev zX mX10_spent (EvC zX (d + 4)) (zPi (fun (r : Int) (H1 : ZH) => (¬ (w = -1 ∨ w = 20 ∨ (0 ≤ w ∧ w ≤ H.1 2 477 - 1)) ∧ r = -2 ∧ H1 = bumpC 0 H) ∨ ((w = -1 ∨ w = 20 ∨ (0 ≤ w ∧ w ≤ H.1 2 477 - 1)) ∧ ¬ (0 ≤ c ∧ c ≤ 999) ∧ r = -3 ∧ H1 = bumpC 1 H) ∨ ((w = -1 ∨ w = 20 ∨ (0 ≤ w ∧ w ≤ H.1 2 477 - 1)) ∧ (0 ≤ c ∧ c ≤ 999) ∧ r = SpV (H.1 2) c.toNat w ∧ SpK H1 (H.1 2) ∧ FcW H H1))) 0 [(0, .ref 20), (1, .int (zN (c))), (2, .int (zN (w)))] [] (eh H)
  refine ⟨Nat.le_of_ble_eq_true rfl, ?_⟩
  have n12 := wp.1
  have jn26 : (w = -1 ∨ w = 20 ∨ (0 ≤ w ∧ w ≤ H.1 2 477 - 1)) → Ev zX mX10_spent (EvC zX (d + 4)) (zPi (fun (r : Int) (H1 : ZH) => (¬ (w = -1 ∨ w = 20 ∨ (0 ≤ w ∧ w ≤ H.1 2 477 - 1)) ∧ r = -2 ∧ H1 = bumpC 0 H) ∨ ((w = -1 ∨ w = 20 ∨ (0 ≤ w ∧ w ≤ H.1 2 477 - 1)) ∧ ¬ (0 ≤ c ∧ c ≤ 999) ∧ r = -3 ∧ H1 = bumpC 1 H) ∨ ((w = -1 ∨ w = 20 ∨ (0 ≤ w ∧ w ≤ H.1 2 477 - 1)) ∧ (0 ≤ c ∧ c ≤ 999) ∧ r = SpV (H.1 2) c.toNat w ∧ SpK H1 (H.1 2) ∧ FcW H H1))) 26 [(0, .ref 20), (1, .int (zN (c))), (2, .int (zN (w)))] [] (eh H) := by
    intro hw
    refine x_iload_n (pc := 26) dX10_spent_26 (List.Mem.tail _ (List.Mem.head _)) ?_
    refine z_if_lt (pc := 27) (tgt := 37) dX10_spent_27 (by decide) (by omega) (by omega) (fun hb1 => ?_) (fun hb1 => ?_)
    · skip
      refine x_aload_n (pc := 37) dX10_spent_37 (List.Mem.head _) ?_
      refine z_bipush (pc := 38) dX10_spent_38 bp_m3 ?_
      refine z_callVip (pc := 40) (i := mX10_refuse) (S := []) [.int (zN ((-3)))] dX10_spent_40 ml_X10_97 ok_X10_refuse rfl sh_20 rfl (Or.inl rfl) (Nat.le_of_ble_eq_true rfl) (c_X10_refuse (d := d + 3) (code := ((-3))) (code1 := (by omega)) (code2 := (by omega)) (ok := ok) (cn := (by first | assumption | omega))) (fun r2a r2b ok3 => ?_)
      show Ev _ _ _ _ _ _ _ (eh (wI H 25 ((refIx ((-3)))) (H.1 25 (refIx ((-3))) + 1)))
      refine z_ireturn (pc := 43) dX10_spent_43 rfl (Or.inl rfl) ok3 (by omega) (by omega) ?_
      exact Or.inr (Or.inl ⟨hw, by omega, rfl, rfl⟩)
    · skip
      refine x_iload_n (pc := 30) dX10_spent_30 (List.Mem.tail _ (List.Mem.head _)) ?_
      refine z_sipush (pc := 31) dX10_spent_31 sp_1000 ?_
      refine z_icmp_lt (pc := 34) (tgt := 44) dX10_spent_34 (by decide) (by omega) (by omega) (by decide) (by decide) (fun hb4 => ?_) (fun hb4 => ?_)
      · skip
        obtain ⟨m, hm⟩ : ∃ m : Nat, c = (m : Int) := ⟨c.toNat, by omega⟩
        have hm9 : m ≤ 999 := by omega
        refine x_aload_n (pc := 44) dX10_spent_44 (List.Mem.head _) ?_
        refine z_getR (pc := 45) (k := 12) (r := 119) dX10_spent_45 lf_X10_75 sh_20 rfl rf_20_12 ?_
        refine x_aload_n (pc := 48) dX10_spent_48 (List.Mem.head _) ?_
        refine z_getR (pc := 49) (k := 3) (r := 98) dX10_spent_49 lf_X10_23 sh_20 rfl rf_20_3 ?_
        refine z_getR (pc := 52) (k := 2) (r := 71) dX10_spent_52 lf_X10_293 sh_98 rfl rf_98_2 ?_
        refine x_iload_n (pc := 55) dX10_spent_55 (List.Mem.tail _ (List.Mem.head _)) ?_
        refine z_callVv (pc := 56) (i := mX7_weighUpTo) (S := []) [.ref 71, .int (zN (c))] dX10_spent_56 ml_X10_360 ok_X7_weighUpTo rfl sh_119 rfl rfl (Nat.le_of_ble_eq_true rfl) (by have qz := c_X7_weighUpTo (d := d) (c0 := m) (hc := hm9) (ok := ok) (wp := wp) (rp := rp) (sk := sk); rw [show ((m : Nat) : Int) = c by omega] at qz; exact qz) ?_
        intro Hw ok6 hp7
        obtain ⟨sk2, kn2, frw⟩ := hp7
        have v2 := sk2.2 m (by omega)
        have zb := zo_8 wp (k := (H.1 2 477).toNat) (c := m) (Nat.le_refl _) hm9
        have gl := chD_lt (H.1 2) (H.1 2 477).toNat (H.1 2 477).toNat m
        have g12 : (16 : Nat) ^ (H.1 2 477).toNat ≤ 16 ^ 12 := Nat.pow_le_pow_right (by decide) (by omega)
        have p12 : (16 : Nat) ^ 12 = 281474976710656 := by decide
        have gl9 : chD (H.1 2) (H.1 2 477).toNat (H.1 2 477).toNat m < 281474976710656 := Nat.lt_of_lt_of_le gl (Nat.le_trans g12 (Nat.le_of_eq p12))
        clear p12 g12 gl
        refine x_iload_n (pc := 59) dX10_spent_59 (List.Mem.tail _ (List.Mem.tail _ (List.Mem.head _))) ?_
        refine z_iconst (pc := 60) dX10_spent_60 ?_
        refine z_icmp_ne (pc := 61) (tgt := 79) dX10_spent_61 (by decide) (by omega) (by omega) (by decide) (by decide) (fun hb8 => ?_) (fun hb8 => ?_)
        · skip
          refine x_iload_n (pc := 79) dX10_spent_79 (List.Mem.tail _ (List.Mem.tail _ (List.Mem.head _))) ?_
          refine z_bipush (pc := 80) dX10_spent_80 bp_20 ?_
          refine z_icmp_ne (pc := 82) (tgt := 100) dX10_spent_82 (by decide) (by omega) (by omega) (by decide) (by decide) (fun hb9 => ?_) (fun hb9 => ?_)
          · skip
            refine x_aload_n (pc := 100) dX10_spent_100 (List.Mem.head _) ?_
            refine z_getR (pc := 101) (k := 12) (r := 119) dX10_spent_101 lf_X10_75 sh_20 rfl rf_20_12 ?_
            refine z_getR (pc := 104) (k := 2) (r := 121) dX10_spent_104 lf_X10_367 sh_119 rfl rf_119_2 ?_
            refine x_iload_n (pc := 107) dX10_spent_107 (List.Mem.tail _ (List.Mem.head _)) ?_
            refine z_lald (pc := 108) (j := m) (v := (chD (H.1 2) (H.1 2 477).toNat (H.1 2 477).toNat m : Int)) dX10_spent_108 sh_121 hm (by omega) (by decide) v2.2 ?_
            refine x_aload_n (pc := 109) dX10_spent_109 (List.Mem.head _) ?_
            refine z_getR (pc := 110) (k := 12) (r := 119) dX10_spent_110 lf_X10_75 sh_20 rfl rf_20_12 ?_
            refine x_aload_n (pc := 113) dX10_spent_113 (List.Mem.head _) ?_
            refine z_getR (pc := 114) (k := 3) (r := 98) dX10_spent_114 lf_X10_23 sh_20 rfl rf_20_3 ?_
            refine z_getR (pc := 117) (k := 2) (r := 71) dX10_spent_117 lf_X10_293 sh_98 rfl rf_98_2 ?_
            refine x_iload_n (pc := 120) dX10_spent_120 (List.Mem.tail _ (List.Mem.tail _ (List.Mem.head _))) ?_
            refine z_callVip (pc := 121) (i := mX7_shiftOf) (S := [.long (zL (((chD (H.1 2) (H.1 2 477).toNat (H.1 2 477).toNat m : Int))))]) [.ref 71, .int (zN (w))] dX10_spent_121 ml_X10_370 ok_X7_shiftOf rfl sh_119 rfl (Or.inl rfl) (Nat.le_of_ble_eq_true rfl) (by have qz := c_X7_shiftOf (d := d + 3) (N := (H.1 2 477).toNat) (p := w.toNat) (hp := (by omega)) (hN := (by omega)) (ok := ok6) (hz := (by rw [frw.1 71 0 (by omega) (by omega) (by omega), rp.1]; omega)); rw [show ((w.toNat : Nat) : Int) = w by omega] at qz; exact qz) (fun r10a r10b ok11 => ?_)
            refine z_lshr (pc := 124) (k := 4 * ((H.1 2 477).toNat - 1 - w.toNat)) dX10_spent_124 (by omega) (by omega) (by omega) (by omega) ?_
            refine z_l2i (pc := 125) dX10_spent_125 ?_
            refine z_bipush (pc := 126) dX10_spent_126 bp_15 ?_
            refine z_iand15 (pc := 128) dX10_spent_128 ?_
            refine z_ireturn (pc := 129) dX10_spent_129 rfl (Or.inl rfl) ok11 (by omega) (by omega) ?_
            refine Or.inr (Or.inr ⟨hw, by omega, ?_, sk2, frw⟩)
            have ed := chD_d (H.1 2) (H.1 2 477).toNat m w.toNat (by omega)
            unfold SpV
            rw [if_neg (by omega), if_neg (by omega), show c.toNat = m by omega, ← ed]
            have e16 : (2 : Int) ^ (4 * ((H.1 2 477).toNat - 1 - w.toNat)) = ((16 ^ ((H.1 2 477).toNat - 1 - w.toNat) : Nat) : Int) := by rw [show (16 : Nat) = 2 ^ 4 from rfl, ← Nat.pow_mul, Int.natCast_pow]; rfl
            rw [e16]
            generalize 16 ^ ((H.1 2 477).toNat - 1 - w.toNat) = P
            rw [← Int.natCast_ediv]
            generalize chD (H.1 2) (H.1 2 477).toNat (H.1 2 477).toNat m / P = Q
            omega
          · skip
            refine x_aload_n (pc := 85) dX10_spent_85 (List.Mem.head _) ?_
            refine z_getR (pc := 86) (k := 12) (r := 119) dX10_spent_86 lf_X10_75 sh_20 rfl rf_20_12 ?_
            refine z_getR (pc := 89) (k := 1) (r := 120) dX10_spent_89 lf_X10_364 sh_119 rfl rf_119_1 ?_
            refine x_iload_n (pc := 92) dX10_spent_92 (List.Mem.tail _ (List.Mem.head _)) ?_
            refine z_lald (pc := 93) (j := m) (v := (zo (H.1 2) (H.1 2 477).toNat (H.1 2 477).toNat m)) dX10_spent_93 sh_120 hm (by omega) (by decide) v2.1 ?_
            refine z_ldc2_w (pc := 94) 1000 dX10_spent_94 cl_X10_259 (by decide) ?_
            refine z_lremP (pc := 97) dX10_spent_97 (by omega) (by omega) (by omega) (by omega) ?_
            refine z_l2i (pc := 98) dX10_spent_98 ?_
            refine z_ireturn (pc := 99) dX10_spent_99 rfl (Or.inl rfl) ok6 (by omega) (by omega) ?_
            exact Or.inr (Or.inr ⟨hw, by omega, by unfold SpV; rw [if_neg (by omega), if_pos (by omega), show c.toNat = m by omega], sk2, frw⟩)
        · skip
          refine x_aload_n (pc := 64) dX10_spent_64 (List.Mem.head _) ?_
          refine z_getR (pc := 65) (k := 12) (r := 119) dX10_spent_65 lf_X10_75 sh_20 rfl rf_20_12 ?_
          refine z_getR (pc := 68) (k := 1) (r := 120) dX10_spent_68 lf_X10_364 sh_119 rfl rf_119_1 ?_
          refine x_iload_n (pc := 71) dX10_spent_71 (List.Mem.tail _ (List.Mem.head _)) ?_
          refine z_lald (pc := 72) (j := m) (v := (zo (H.1 2) (H.1 2 477).toNat (H.1 2 477).toNat m)) dX10_spent_72 sh_120 hm (by omega) (by decide) v2.1 ?_
          refine z_ldc2_w (pc := 73) 1000 dX10_spent_73 cl_X10_259 (by decide) ?_
          refine z_ldivP (pc := 76) dX10_spent_76 (by omega) (by omega) (by omega) (by omega) ?_
          refine z_l2i (pc := 77) dX10_spent_77 ?_
          refine z_ireturn (pc := 78) dX10_spent_78 rfl (Or.inl rfl) ok6 (by omega) (by omega) ?_
          exact Or.inr (Or.inr ⟨hw, by omega, by unfold SpV; rw [if_pos (by omega), show c.toNat = m by omega], sk2, frw⟩)
      · skip
        refine x_aload_n (pc := 37) dX10_spent_37 (List.Mem.head _) ?_
        refine z_bipush (pc := 38) dX10_spent_38 bp_m3 ?_
        refine z_callVip (pc := 40) (i := mX10_refuse) (S := []) [.int (zN ((-3)))] dX10_spent_40 ml_X10_97 ok_X10_refuse rfl sh_20 rfl (Or.inl rfl) (Nat.le_of_ble_eq_true rfl) (c_X10_refuse (d := d + 3) (code := ((-3))) (code1 := (by omega)) (code2 := (by omega)) (ok := ok) (cn := (by first | assumption | omega))) (fun r12a r12b ok13 => ?_)
        show Ev _ _ _ _ _ _ _ (eh (wI H 25 ((refIx ((-3)))) (H.1 25 (refIx ((-3))) + 1)))
        refine z_ireturn (pc := 43) dX10_spent_43 rfl (Or.inl rfl) ok13 (by omega) (by omega) ?_
        exact Or.inr (Or.inl ⟨hw, by omega, rfl, rfl⟩)
  refine x_iload_n (pc := 0) dX10_spent_0 (List.Mem.tail _ (List.Mem.tail _ (List.Mem.head _))) ?_
  refine z_iconst (pc := 1) dX10_spent_1 ?_
  refine z_icmp_eq (pc := 2) (tgt := 26) dX10_spent_2 (by decide) (by omega) (by omega) (by decide) (by decide) (fun hb14 => ?_) (fun hb14 => ?_)
  · skip
    refine x_weaken (L1 := [(0, .ref 20), (1, .int (zN (c))), (2, .int (zN (w)))]) (List.forall_mem_cons.mpr ⟨(List.Mem.head _), (List.forall_mem_cons.mpr ⟨(List.Mem.tail _ (List.Mem.head _)), (List.forall_mem_cons.mpr ⟨(List.Mem.tail _ (List.Mem.tail _ (List.Mem.head _))), (fun _ h => absurd h List.not_mem_nil)⟩)⟩)⟩) ?_
    exact jn26  (by omega)
  · skip
    refine x_iload_n (pc := 5) dX10_spent_5 (List.Mem.tail _ (List.Mem.tail _ (List.Mem.head _))) ?_
    refine z_bipush (pc := 6) dX10_spent_6 bp_20 ?_
    refine z_icmp_eq (pc := 8) (tgt := 26) dX10_spent_8 (by decide) (by omega) (by omega) (by decide) (by decide) (fun hb15 => ?_) (fun hb15 => ?_)
    · skip
      refine x_weaken (L1 := [(0, .ref 20), (1, .int (zN (c))), (2, .int (zN (w)))]) (List.forall_mem_cons.mpr ⟨(List.Mem.head _), (List.forall_mem_cons.mpr ⟨(List.Mem.tail _ (List.Mem.head _)), (List.forall_mem_cons.mpr ⟨(List.Mem.tail _ (List.Mem.tail _ (List.Mem.head _))), (fun _ h => absurd h List.not_mem_nil)⟩)⟩)⟩) ?_
      exact jn26  (by omega)
    · skip
      refine x_aload_n (pc := 11) dX10_spent_11 (List.Mem.head _) ?_
      refine x_iload_n (pc := 12) dX10_spent_12 (List.Mem.tail _ (List.Mem.tail _ (List.Mem.head _))) ?_
      refine z_callVbp (pc := 13) (i := mX10_isPlace) (S := []) [.int (zN (w))] dX10_spent_13 ml_X10_327 ok_X10_isPlace rfl sh_20 rfl (Or.inr rfl) (Nat.le_of_ble_eq_true rfl) (c_X10_isPlace (d := d + 3) (a := w) (a1 := (by omega)) (a2 := (by omega)) (ok := ok) (wp := (by first | assumption | omega)) (rp := (by first | assumption | omega))) (fun hc18 ok17 => ?_) (fun hc18 ok17 => ?_)
      · skip
        refine z_if_ne (pc := 16) (tgt := 26) dX10_spent_16 (by decide) (by decide) (by decide) (fun _ => ?_) (fun h => absurd h (by decide))
        refine x_weaken (L1 := [(0, .ref 20), (1, .int (zN (c))), (2, .int (zN (w)))]) (List.forall_mem_cons.mpr ⟨(List.Mem.head _), (List.forall_mem_cons.mpr ⟨(List.Mem.tail _ (List.Mem.head _)), (List.forall_mem_cons.mpr ⟨(List.Mem.tail _ (List.Mem.tail _ (List.Mem.head _))), (fun _ h => absurd h List.not_mem_nil)⟩)⟩)⟩) ?_
        exact jn26  (by omega)
      · skip
        refine z_if_ne (pc := 16) (tgt := 26) dX10_spent_16 (by decide) (by decide) (by decide) (fun h => absurd h (by decide)) (fun _ => ?_)
        refine x_aload_n (pc := 19) dX10_spent_19 (List.Mem.head _) ?_
        refine z_bipush (pc := 20) dX10_spent_20 bp_m2 ?_
        refine z_callVip (pc := 22) (i := mX10_refuse) (S := []) [.int (zN ((-2)))] dX10_spent_22 ml_X10_97 ok_X10_refuse rfl sh_20 rfl (Or.inl rfl) (Nat.le_of_ble_eq_true rfl) (c_X10_refuse (d := d + 3) (code := ((-2))) (code1 := (by omega)) (code2 := (by omega)) (ok := ok17) (cn := (by first | assumption | omega))) (fun r21a r21b ok22 => ?_)
        show Ev _ _ _ _ _ _ _ (eh (wI H 25 ((refIx ((-2)))) (H.1 25 (refIx ((-2))) + 1)))
        refine z_ireturn (pc := 25) dX10_spent_25 rfl (Or.inl rfl) ok22 (by omega) (by omega) ?_
        exact Or.inl ⟨by omega, rfl, rfl⟩
