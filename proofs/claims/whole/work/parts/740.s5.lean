/-! GROUP S5: spent in the reference. -/
/-- one cell of the reference's table -/
def gdC (H : ZH) (A : Nat → Int) (N x c : Nat) : Prop := H.1 14 (x * 1000 + c) * 1000 + H.1 15 (x * 1000 + c) = zo A N (N - x) c ∧ (0 ≤ H.1 15 (x * 1000 + c) ∧ H.1 15 (x * 1000 + c) ≤ (c : Int)) ∧ 0 ≤ H.1 14 (x * 1000 + c)
theorem gdC_cg {H H1 : ZH} {A : Nat → Int} {N x c : Nat} (h14 : H1.1 14 (x * 1000 + c) = H.1 14 (x * 1000 + c)) (h15 : H1.1 15 (x * 1000 + c) = H.1 15 (x * 1000 + c)) (g : gdC H A N x c) : gdC H1 A N x c := by
  unfold gdC
  rw [h14, h15]
  exact g
def SpR (H : ZH) (A : Nat → Int) (N c0 : Nat) : Prop := ∀ x c, x ≤ N → c ≤ c0 → gdC H A N x c
def FrN (H H1 : ZH) : Prop := (∀ cc k, cc ≠ 14 → cc ≠ 15 → H1.1 cc k = H.1 cc k) ∧ H1.2 = H.2
theorem zo_9 {A : Nat → Int} (h : WFP A) {N k c : Nat} (hN : A 477 = (N : Int)) (hk : k ≤ N) (hc : c ≤ 999) : 0 ≤ zo A N k c ∧ zo A N k c ≤ 80000000000 := by
  have y := zo_8 h (k := k) (c := c) (by omega) hc
  rw [show (A 477).toNat = N by omega] at y
  exact y
/-- the best so far, of the first b sets -/
def cuC (H : ZH) (v : Nat → Int) (g : Nat → Bool) (i c b : Nat) : Prop := (b = 0 → H.1 14 i = -1) ∧ (1 ≤ b → H.1 14 i * 1000 + H.1 15 i = v (bs v g b) ∧ (0 ≤ H.1 15 i ∧ H.1 15 i ≤ (c : Int)) ∧ 0 ≤ H.1 14 i)
theorem cx_le (A : Nat → Int) (N c : Nat) : ∀ x, cx A N c x ≤ c := by
  intro x
  induction x with
  | zero => exact Nat.le_refl _
  | succ x ih => exact Nat.le_trans (Nat.sub_le _ _) ih

theorem c_X11_laysSpent {d : Nat} {H : ZH} (ok : okZ H) {c0 Nq : Nat} (hc : c0 ≤ 999) (wp : WFP (H.1 2)) (hN : H.1 2 477 = (Nq : Int)) : EvC zX (d + 3) mX11_laysSpent [.ref 0, .int (zN ((c0 : Int)))] (eh H) (zPv (fun (H1 : ZH) => SpR H1 (H.1 2) Nq c0 ∧ FrN H H1)) := by
  show _ ∧ Ev zX mX11_laysSpent (EvC zX (d + 2)) (zPv (fun (H1 : ZH) => SpR H1 (H.1 2) Nq c0 ∧ FrN H H1)) 0 [(0, .ref 0), (1, .int (zN ((c0 : Int))))] [] (eh H)
  refine ⟨Nat.le_of_ble_eq_true rfl, ?_⟩
  have n12 := wp.1
  refine z_iconst (pc := 0) dX11_laysSpent_0 ?_
  refine x_istore_n (pc := 1) dX11_laysSpent_1 (Nat.le_of_ble_eq_true rfl) ?_
  show Ev _ _ _ _ _ [(2, .int (zN (0))), (0, .ref 0), (1, .int (zN ((c0 : Int))))] _ _
  have lp2 : ∀ (nF : Nat) (c : Nat) (Hl : ZH), okZ Hl → (c ≤ c0 + 1) → (∀ y, y < c → gdC Hl (H.1 2) Nq Nq y) → (FrN H Hl) → c0 + 1 - c < nF → Ev zX mX11_laysSpent (EvC zX (d + 2)) (zPv (fun (H1 : ZH) => SpR H1 (H.1 2) Nq c0 ∧ FrN H H1)) 2 [(0, .ref 0), (1, .int (zN ((c0 : Int)))), (2, .int (zN ((c : Int))))] [] (eh Hl) := by
    intro nF
    induction nF with
    | zero => intro c Hl okl2 hcc hz fl hm; exact absurd hm (Nat.not_lt_zero _)
    | succ nF ih2 =>
      intro c Hl okl2 hcc hz fl hm
      refine x_iload_n (pc := 2) dX11_laysSpent_2 (List.Mem.tail _ (List.Mem.tail _ (List.Mem.head _))) ?_
      refine x_iload_n (pc := 3) dX11_laysSpent_3 (List.Mem.tail _ (List.Mem.head _)) ?_
      refine z_icmp_gt (pc := 4) (tgt := 53) dX11_laysSpent_4 (by decide) (by omega) (by omega) (by omega) (by omega) (fun hb1 => ?_) (fun hb1 => ?_)
      · skip
        refine x_aload_n (pc := 53) dX11_laysSpent_53 (List.Mem.head _) ?_
        refine z_getR (pc := 54) (k := 2) (r := 2) dX11_laysSpent_54 lf_X11_17 sh_0 rfl rf_0_2 ?_
        refine z_sipush (pc := 57) dX11_laysSpent_57 sp_477 ?_
        refine z_iald (pc := 60) (j := 477) (v := (Nq : Int)) dX11_laysSpent_60 sh_2 rfl (Nat.le_of_ble_eq_true rfl) (by decide) ((fl.1 2 477 (by omega) (by omega)).trans hN) ?_
        refine z_iconst (pc := 61) dX11_laysSpent_61 ?_
        refine z_isub (pc := 62) dX11_laysSpent_62 ?_
        refine x_istore_n (pc := 63) dX11_laysSpent_63 (Nat.le_of_ble_eq_true rfl) ?_
        show Ev _ _ _ _ _ [(2, .int (zN ((((Nq : Int)) - 1)))), (0, .ref 0), (1, .int (zN ((c0 : Int))))] _ _
        have lp64 : ∀ (nF : Nat) (k : Nat) (Hm : ZH), okZ Hm → (k ≤ Nq) → (∀ x y, Nq - k ≤ x → x ≤ Nq → y ≤ c0 → gdC Hm (H.1 2) Nq x y) → (FrN H Hm) → Nq - k < nF → Ev zX mX11_laysSpent (EvC zX (d + 2)) (zPv (fun (H1 : ZH) => SpR H1 (H.1 2) Nq c0 ∧ FrN H H1)) 64 [(0, .ref 0), (1, .int (zN ((c0 : Int)))), (2, .int (zN (((Nq : Int) - 1 - k))))] [] (eh Hm) := by
          intro nF
          induction nF with
          | zero => intro k Hm okl64 hk hr fm hm; exact absurd hm (Nat.not_lt_zero _)
          | succ nF ih64 =>
            intro k Hm okl64 hk hr fm hm
            refine x_iload_n (pc := 64) dX11_laysSpent_64 (List.Mem.tail _ (List.Mem.tail _ (List.Mem.head _))) ?_
            refine z_if_lt (pc := 65) (tgt := 252) dX11_laysSpent_65 (by decide) (by omega) (by omega) (fun hb2 => ?_) (fun hb2 => ?_)
            · skip
              refine z_vreturn (pc := 252) dX11_laysSpent_252 rfl okl64 ?_
              have ek : k = Nq := by omega
              subst ek
              exact ⟨fun x y h1 h2 => hr x y (by omega) h1 h2, fm⟩
            · skip
              refine z_iconst (pc := 68) dX11_laysSpent_68 ?_
              refine x_istore_n (pc := 69) dX11_laysSpent_69 (Nat.le_of_ble_eq_true rfl) ?_
              show Ev _ _ _ _ _ [(3, .int (zN (0))), (0, .ref 0), (1, .int (zN ((c0 : Int)))), (2, .int (zN (((Nq : Int) - 1 - k))))] _ _
              have lp70 : ∀ (nF : Nat) (c : Nat) (Ho : ZH), okZ Ho → (c ≤ c0 + 1) → (∀ x y, Nq - k ≤ x → x ≤ Nq → y ≤ c0 → gdC Ho (H.1 2) Nq x y) → (∀ y, y < c → gdC Ho (H.1 2) Nq (Nq - 1 - k) y) → (FrN H Ho) → c0 + 1 - c < nF → Ev zX mX11_laysSpent (EvC zX (d + 2)) (zPv (fun (H1 : ZH) => SpR H1 (H.1 2) Nq c0 ∧ FrN H H1)) 70 [(0, .ref 0), (1, .int (zN ((c0 : Int)))), (2, .int (zN (((Nq : Int) - 1 - k)))), (3, .int (zN ((c : Int))))] [] (eh Ho) := by
                intro nF
                induction nF with
                | zero => intro c Ho okl70 hc1 hr2 hp2 fo hm; exact absurd hm (Nat.not_lt_zero _)
                | succ nF ih70 =>
                  intro c Ho okl70 hc1 hr2 hp2 fo hm
                  refine x_iload_n (pc := 70) dX11_laysSpent_70 (List.Mem.tail _ (List.Mem.tail _ (List.Mem.tail _ (List.Mem.head _)))) ?_
                  refine x_iload_n (pc := 71) dX11_laysSpent_71 (List.Mem.tail _ (List.Mem.head _)) ?_
                  refine z_icmp_gt (pc := 72) (tgt := 246) dX11_laysSpent_72 (by decide) (by omega) (by omega) (by omega) (by omega) (fun hb3 => ?_) (fun hb3 => ?_)
                  · skip
                    have hrn : ∀ x y, Nq - (k + 1) ≤ x → x ≤ Nq → y ≤ c0 → gdC Ho (H.1 2) Nq x y := fun x y h1 h2 h3 => by
                      by_cases z : x = Nq - 1 - k
                      · rw [z]; exact hp2 y (by omega)
                      · exact hr2 x y (by omega) h2 h3
                    refine z_iinc (pc := 246) dX11_laysSpent_246 (List.Mem.tail _ (List.Mem.tail _ (List.Mem.head _))) (Nat.le_of_ble_eq_true rfl) ?_
                    show Ev _ _ _ _ _ [(2, .int (zN (((Nq : Int) - 1 - k) + (-1)))), (0, .ref 0), (1, .int (zN ((c0 : Int)))), (3, .int (zN ((c : Int))))] _ _
                    refine x_goto (pc := 249) (tgt := 64) dX11_laysSpent_249 (by decide) ?_
                    refine x_weaken (L1 := [(0, .ref 0), (1, .int (zN ((c0 : Int)))), (2, .int (zN (((Nq : Int) - 1 - (k + 1)))))]) (List.forall_mem_cons.mpr ⟨(List.Mem.tail _ (List.Mem.head _)), (List.forall_mem_cons.mpr ⟨(List.Mem.tail _ (List.Mem.tail _ (List.Mem.head _))), (List.forall_mem_cons.mpr ⟨(mem_ci (by omega) (List.Mem.head _)), (fun _ h => absurd h List.not_mem_nil)⟩)⟩)⟩) ?_
                    exact ih64 ((k + 1)) Ho okl70 (by omega) (hrn) (fo) (by omega)
                  · skip
                    refine x_iload_n (pc := 75) dX11_laysSpent_75 (List.Mem.tail _ (List.Mem.tail _ (List.Mem.head _))) ?_
                    refine z_sipush (pc := 76) dX11_laysSpent_76 sp_1000 ?_
                    refine z_imul (pc := 79) dX11_laysSpent_79 ?_
                    refine x_iload_n (pc := 80) dX11_laysSpent_80 (List.Mem.tail _ (List.Mem.tail _ (List.Mem.tail _ (List.Mem.head _)))) ?_
                    refine z_iadd (pc := 81) dX11_laysSpent_81 ?_
                    refine x_istore (pc := 82) dX11_laysSpent_82 (Nat.le_of_ble_eq_true rfl) ?_
                    show Ev _ _ _ _ _ [(4, .int (zN (((((Nq : Int) - 1 - k) * 1000) + (c : Int))))), (0, .ref 0), (1, .int (zN ((c0 : Int)))), (2, .int (zN (((Nq : Int) - 1 - k)))), (3, .int (zN ((c : Int))))] _ _
                    refine x_aload_n (pc := 84) dX11_laysSpent_84 (List.Mem.tail _ (List.Mem.head _)) ?_
                    refine z_getR (pc := 85) (k := 30) (r := 14) dX11_laysSpent_85 lf_X11_64 sh_0 rfl rf_0_30 ?_
                    refine x_iload (pc := 88) dX11_laysSpent_88 (List.Mem.head _) ?_
                    refine z_iconst (pc := 90) dX11_laysSpent_90 ?_
                    refine z_iast (pc := 91) (j := ((Nq - 1 - k) * 1000 + c)) (v := (-1)) dX11_laysSpent_91 sh_14 (by omega) (by omega) (by decide) ?_
                    have ok4 := okI okl70 14 ((Nq - 1 - k) * 1000 + c) (v := (-1)) (by decide) (by decide)
                    refine z_iconst (pc := 92) dX11_laysSpent_92 ?_
                    refine x_istore (pc := 93) dX11_laysSpent_93 (Nat.le_of_ble_eq_true rfl) ?_
                    show Ev _ _ _ _ _ [(5, .int (zN (0))), (4, .int (zN (((((Nq : Int) - 1 - k) * 1000) + (c : Int))))), (0, .ref 0), (1, .int (zN ((c0 : Int)))), (2, .int (zN (((Nq : Int) - 1 - k)))), (3, .int (zN ((c : Int))))] _ _
                    have lp95 : ∀ (nF : Nat) (b : Nat) (Hq : ZH), okZ Hq → (b ≤ 16) → (∀ x y, Nq - k ≤ x → x ≤ Nq → y ≤ c0 → gdC Hq (H.1 2) Nq x y) → (∀ y, y < c → gdC Hq (H.1 2) Nq (Nq - 1 - k) y) → (cuC Hq (vv (H.1 2) (Nq - 1 - k) (zo (H.1 2) Nq k) c) (cOk (H.1 2) c) ((Nq - 1 - k) * 1000 + c) c b) → (FrN H Hq) → 16 - b < nF → Ev zX mX11_laysSpent (EvC zX (d + 2)) (zPv (fun (H1 : ZH) => SpR H1 (H.1 2) Nq c0 ∧ FrN H H1)) 95 [(0, .ref 0), (1, .int (zN ((c0 : Int)))), (2, .int (zN (((Nq : Int) - 1 - k)))), (3, .int (zN ((c : Int)))), (4, .int (zN (((((Nq : Int) - 1 - k) * 1000) + (c : Int))))), (5, .int (zN ((b : Int))))] [] (eh Hq) := by
                      intro nF
                      induction nF with
                      | zero => intro b Hq okl95 hb hr3 hp3 hq fq hm; exact absurd hm (Nat.not_lt_zero _)
                      | succ nF ih95 =>
                        intro b Hq okl95 hb hr3 hp3 hq fq hm
                        have e2 : Hq.1 2 = H.1 2 := funext (fun j => fq.1 2 j (by omega) (by omega))
                        have wpq : WFP (Hq.1 2) := by rw [e2]; exact wp
                        have mb := mcost_bd wpq b 4 (by omega)
                        have mlb := mleft_bd wpq (p := Nq - 1 - k) (by omega) b 4 (by omega)
                        refine x_iload (pc := 95) dX11_laysSpent_95 (List.Mem.tail _ (List.Mem.tail _ (List.Mem.tail _ (List.Mem.tail _ (List.Mem.tail _ (List.Mem.head _)))))) ?_
                        refine z_bipush (pc := 97) dX11_laysSpent_97 bp_16 ?_
                        refine z_icmp_ge (pc := 99) (tgt := 240) dX11_laysSpent_99 (by decide) (by omega) (by omega) (by decide) (by decide) (fun hb5 => ?_) (fun hb5 => ?_)
                        · skip
                          have hpn : ∀ y, y < c + 1 → gdC Hq (H.1 2) Nq (Nq - 1 - k) y := fun y hy => by
                            by_cases z : y = c
                            · have q := hq.2 (by omega)
                              rw [show b = 16 by omega] at q
                              rw [z]
                              unfold gdC
                              rw [show Nq - (Nq - 1 - k) = k + 1 by omega]
                              exact q
                            · exact hp3 y (by omega)
                          have hr3 := hr3
                          refine z_iinc (pc := 240) dX11_laysSpent_240 (List.Mem.tail _ (List.Mem.tail _ (List.Mem.tail _ (List.Mem.head _)))) (Nat.le_of_ble_eq_true rfl) ?_
                          show Ev _ _ _ _ _ [(3, .int (zN ((c : Int) + 1))), (0, .ref 0), (1, .int (zN ((c0 : Int)))), (2, .int (zN (((Nq : Int) - 1 - k)))), (4, .int (zN (((((Nq : Int) - 1 - k) * 1000) + (c : Int))))), (5, .int (zN ((b : Int))))] _ _
                          refine x_goto (pc := 243) (tgt := 70) dX11_laysSpent_243 (by decide) ?_
                          refine x_weaken (L1 := [(0, .ref 0), (1, .int (zN ((c0 : Int)))), (2, .int (zN (((Nq : Int) - 1 - k)))), (3, .int (zN ((((c + 1) : Nat) : Int))))]) (List.forall_mem_cons.mpr ⟨(List.Mem.tail _ (List.Mem.head _)), (List.forall_mem_cons.mpr ⟨(List.Mem.tail _ (List.Mem.tail _ (List.Mem.head _))), (List.forall_mem_cons.mpr ⟨(List.Mem.tail _ (List.Mem.tail _ (List.Mem.tail _ (List.Mem.head _)))), (List.forall_mem_cons.mpr ⟨(mem_ci (by omega) (List.Mem.head _)), (fun _ h => absurd h List.not_mem_nil)⟩)⟩)⟩)⟩) ?_
                          exact ih70 ((c + 1)) Hq okl95 (by omega) (hr3) (hpn) (fq) (by omega)
                        · skip
                          refine x_aload_n (pc := 102) dX11_laysSpent_102 (List.Mem.head _) ?_
                          refine x_iload (pc := 103) dX11_laysSpent_103 (List.Mem.tail _ (List.Mem.tail _ (List.Mem.tail _ (List.Mem.tail _ (List.Mem.tail _ (List.Mem.head _)))))) ?_
                          refine z_callVip (pc := 105) (i := mX11_costOf) (S := []) [.int (zN ((b : Int)))] dX11_laysSpent_105 ml_X11_347 ok_X11_costOf rfl sh_0 rfl (Or.inl rfl) (Nat.le_of_ble_eq_true rfl) (c_X11_costOf (d := d + 1) (b := b) (hb := (by omega)) (ok := okl95) (wp := wpq)) (fun r6a r6b ok7 => ?_)
                          refine x_iload_n (pc := 108) dX11_laysSpent_108 (List.Mem.tail _ (List.Mem.tail _ (List.Mem.tail _ (List.Mem.head _)))) ?_
                          refine z_icmp_le (pc := 109) (tgt := 115) dX11_laysSpent_109 (by decide) (by omega) (by omega) (by omega) (by omega) (fun hb8 => ?_) (fun hb8 => ?_)
                          · skip
                            have gth := hr3 (Nq - k) (c - (mcost (Hq.1 2) b 4).toNat) (Nat.le_refl _) (by omega) (by omega)
                            unfold gdC at gth
                            rw [show Nq - (Nq - k) = k by omega] at gth
                            have evb : (vv (H.1 2) (Nq - 1 - k) (zo (H.1 2) Nq k) c) b = mleft (Hq.1 2) (Nq - 1 - k) b 4 * 1000 + mcost (Hq.1 2) b 4 + zo (H.1 2) Nq k (c - (mcost (Hq.1 2) b 4).toNat) := by rw [e2]; rfl
                            have cok : (cOk (H.1 2) c) b = true := decide_eq_true (by rw [← e2]; omega)
                            have zb9 := zo_9 wp hN (k := k) (c := c - (mcost (Hq.1 2) b 4).toNat) (by omega) (by omega)
                            refine x_iload_n (pc := 115) dX11_laysSpent_115 (List.Mem.tail _ (List.Mem.tail _ (List.Mem.head _))) ?_
                            refine z_iconst (pc := 116) dX11_laysSpent_116 ?_
                            refine z_iadd (pc := 117) dX11_laysSpent_117 ?_
                            refine z_sipush (pc := 118) dX11_laysSpent_118 sp_1000 ?_
                            refine z_imul (pc := 121) dX11_laysSpent_121 ?_
                            refine x_iload_n (pc := 122) dX11_laysSpent_122 (List.Mem.tail _ (List.Mem.tail _ (List.Mem.tail _ (List.Mem.head _)))) ?_
                            refine z_iadd (pc := 123) dX11_laysSpent_123 ?_
                            refine x_aload_n (pc := 124) dX11_laysSpent_124 (List.Mem.head _) ?_
                            refine x_iload (pc := 125) dX11_laysSpent_125 (List.Mem.tail _ (List.Mem.tail _ (List.Mem.tail _ (List.Mem.tail _ (List.Mem.tail _ (List.Mem.head _)))))) ?_
                            refine z_callVip (pc := 127) (i := mX11_costOf) (S := [.int (zN ((((((Nq : Int) - 1 - k) + 1) * 1000) + (c : Int))))]) [.int (zN ((b : Int)))] dX11_laysSpent_127 ml_X11_347 ok_X11_costOf rfl sh_0 rfl (Or.inl rfl) (Nat.le_of_ble_eq_true rfl) (c_X11_costOf (d := d + 1) (b := b) (hb := (by omega)) (ok := ok7) (wp := wpq)) (fun r9a r9b ok10 => ?_)
                            refine z_isub (pc := 130) dX11_laysSpent_130 ?_
                            refine x_istore (pc := 131) dX11_laysSpent_131 (Nat.le_of_ble_eq_true rfl) ?_
                            show Ev _ _ _ _ _ [(6, .int (zN (((((((Nq : Int) - 1 - k) + 1) * 1000) + (c : Int)) - (mcost (Hq.1 2) b 4))))), (0, .ref 0), (1, .int (zN ((c0 : Int)))), (2, .int (zN (((Nq : Int) - 1 - k)))), (3, .int (zN ((c : Int)))), (4, .int (zN (((((Nq : Int) - 1 - k) * 1000) + (c : Int))))), (5, .int (zN ((b : Int))))] _ _
                            refine x_aload_n (pc := 133) dX11_laysSpent_133 (List.Mem.tail _ (List.Mem.head _)) ?_
                            refine x_iload_n (pc := 134) dX11_laysSpent_134 (List.Mem.tail _ (List.Mem.tail _ (List.Mem.tail _ (List.Mem.head _)))) ?_
                            refine x_iload (pc := 135) dX11_laysSpent_135 (List.Mem.tail _ (List.Mem.tail _ (List.Mem.tail _ (List.Mem.tail _ (List.Mem.tail _ (List.Mem.tail _ (List.Mem.head _))))))) ?_
                            refine z_callVip (pc := 137) (i := mX11_leftOf) (S := []) [.int (zN (((Nq : Int) - 1 - k))), .int (zN ((b : Int)))] dX11_laysSpent_137 ml_X11_350 ok_X11_leftOf rfl sh_0 rfl (Or.inl rfl) (Nat.le_of_ble_eq_true rfl) (by have qz := c_X11_leftOf (d := d) (p := (Nq - 1 - k)) (b := b) (hp := (by omega)) (hb := (by omega)) (ok := ok10) (wp := wpq); rw [show (((Nq - 1 - k) : Nat) : Int) = ((Nq : Int) - 1 - k) by omega] at qz; exact qz) (fun r11a r11b ok12 => ?_)
                            refine x_aload_n (pc := 140) dX11_laysSpent_140 (List.Mem.tail _ (List.Mem.head _)) ?_
                            refine z_getR (pc := 141) (k := 30) (r := 14) dX11_laysSpent_141 lf_X11_64 sh_0 rfl rf_0_30 ?_
                            refine x_iload (pc := 144) dX11_laysSpent_144 (List.Mem.head _) ?_
                            have rd13 := ok12.1 14 ((Nq - k) * 1000 + (c - (mcost (Hq.1 2) b 4).toNat))
                            refine z_iald (pc := 146) (j := ((Nq - k) * 1000 + (c - (mcost (Hq.1 2) b 4).toNat))) (v := Hq.1 14 ((Nq - k) * 1000 + (c - (mcost (Hq.1 2) b 4).toNat))) dX11_laysSpent_146 sh_14 (by omega) (by omega) (by decide) rfl ?_
                            refine z_iadd (pc := 147) dX11_laysSpent_147 ?_
                            refine x_istore (pc := 148) dX11_laysSpent_148 (Nat.le_of_ble_eq_true rfl) ?_
                            show Ev _ _ _ _ _ [(7, .int (zN (((mleft (Hq.1 2) (Nq - 1 - k) b 4) + (Hq.1 14 ((Nq - k) * 1000 + (c - (mcost (Hq.1 2) b 4).toNat))))))), (6, .int (zN (((((((Nq : Int) - 1 - k) + 1) * 1000) + (c : Int)) - (mcost (Hq.1 2) b 4))))), (0, .ref 0), (1, .int (zN ((c0 : Int)))), (2, .int (zN (((Nq : Int) - 1 - k)))), (3, .int (zN ((c : Int)))), (4, .int (zN (((((Nq : Int) - 1 - k) * 1000) + (c : Int))))), (5, .int (zN ((b : Int))))] _ _
                            refine x_aload_n (pc := 150) dX11_laysSpent_150 (List.Mem.tail _ (List.Mem.tail _ (List.Mem.head _))) ?_
                            refine x_iload (pc := 151) dX11_laysSpent_151 (List.Mem.tail _ (List.Mem.tail _ (List.Mem.tail _ (List.Mem.tail _ (List.Mem.tail _ (List.Mem.tail _ (List.Mem.tail _ (List.Mem.head _)))))))) ?_
                            refine z_callVip (pc := 153) (i := mX11_costOf) (S := []) [.int (zN ((b : Int)))] dX11_laysSpent_153 ml_X11_347 ok_X11_costOf rfl sh_0 rfl (Or.inl rfl) (Nat.le_of_ble_eq_true rfl) (c_X11_costOf (d := d + 1) (b := b) (hb := (by omega)) (ok := ok12) (wp := wpq)) (fun r14a r14b ok15 => ?_)
                            refine x_aload_n (pc := 156) dX11_laysSpent_156 (List.Mem.tail _ (List.Mem.tail _ (List.Mem.head _))) ?_
                            refine z_getR (pc := 157) (k := 31) (r := 15) dX11_laysSpent_157 lf_X11_67 sh_0 rfl rf_0_31 ?_
                            refine x_iload (pc := 160) dX11_laysSpent_160 (List.Mem.tail _ (List.Mem.head _)) ?_
                            have rd16 := ok15.1 15 ((Nq - k) * 1000 + (c - (mcost (Hq.1 2) b 4).toNat))
                            refine z_iald (pc := 162) (j := ((Nq - k) * 1000 + (c - (mcost (Hq.1 2) b 4).toNat))) (v := Hq.1 15 ((Nq - k) * 1000 + (c - (mcost (Hq.1 2) b 4).toNat))) dX11_laysSpent_162 sh_15 (by omega) (by omega) (by decide) rfl ?_
                            refine z_iadd (pc := 163) dX11_laysSpent_163 ?_
                            refine x_istore (pc := 164) dX11_laysSpent_164 (Nat.le_of_ble_eq_true rfl) ?_
                            show Ev _ _ _ _ _ [(8, .int (zN (((mcost (Hq.1 2) b 4) + (Hq.1 15 ((Nq - k) * 1000 + (c - (mcost (Hq.1 2) b 4).toNat))))))), (7, .int (zN (((mleft (Hq.1 2) (Nq - 1 - k) b 4) + (Hq.1 14 ((Nq - k) * 1000 + (c - (mcost (Hq.1 2) b 4).toNat))))))), (6, .int (zN (((((((Nq : Int) - 1 - k) + 1) * 1000) + (c : Int)) - (mcost (Hq.1 2) b 4))))), (0, .ref 0), (1, .int (zN ((c0 : Int)))), (2, .int (zN (((Nq : Int) - 1 - k)))), (3, .int (zN ((c : Int)))), (4, .int (zN (((((Nq : Int) - 1 - k) * 1000) + (c : Int))))), (5, .int (zN ((b : Int))))] _ _
                            have jn216 : (b = 0 ∨ (1 ≤ b ∧ (mleft (Hq.1 2) (Nq - 1 - k) b 4 + Hq.1 14 ((Nq - k) * 1000 + (c - (mcost (Hq.1 2) b 4).toNat))) * 1000 + (mcost (Hq.1 2) b 4 + Hq.1 15 ((Nq - k) * 1000 + (c - (mcost (Hq.1 2) b 4).toNat))) < (vv (H.1 2) (Nq - 1 - k) (zo (H.1 2) Nq k) c) (bs (vv (H.1 2) (Nq - 1 - k) (zo (H.1 2) Nq k) c) (cOk (H.1 2) c) b))) → Ev zX mX11_laysSpent (EvC zX (d + 2)) (zPv (fun (H1 : ZH) => SpR H1 (H.1 2) Nq c0 ∧ FrN H H1)) 216 [(0, .ref 0), (1, .int (zN ((c0 : Int)))), (2, .int (zN (((Nq : Int) - 1 - k)))), (3, .int (zN ((c : Int)))), (4, .int (zN (((((Nq : Int) - 1 - k) * 1000) + (c : Int))))), (5, .int (zN ((b : Int)))), (6, .int (zN (((((((Nq : Int) - 1 - k) + 1) * 1000) + (c : Int)) - (mcost (Hq.1 2) b 4))))), (7, .int (zN (((mleft (Hq.1 2) (Nq - 1 - k) b 4) + (Hq.1 14 ((Nq - k) * 1000 + (c - (mcost (Hq.1 2) b 4).toNat))))))), (8, .int (zN (((mcost (Hq.1 2) b 4) + (Hq.1 15 ((Nq - k) * 1000 + (c - (mcost (Hq.1 2) b 4).toNat)))))))] [] (eh Hq) := by
                              intro hbet
                              refine x_aload_n (pc := 216) dX11_laysSpent_216 (List.Mem.head _) ?_
                              refine z_getR (pc := 217) (k := 30) (r := 14) dX11_laysSpent_217 lf_X11_64 sh_0 rfl rf_0_30 ?_
                              refine x_iload (pc := 220) dX11_laysSpent_220 (List.Mem.tail _ (List.Mem.tail _ (List.Mem.tail _ (List.Mem.tail _ (List.Mem.head _))))) ?_
                              refine x_iload (pc := 222) dX11_laysSpent_222 (List.Mem.tail _ (List.Mem.tail _ (List.Mem.tail _ (List.Mem.tail _ (List.Mem.tail _ (List.Mem.tail _ (List.Mem.tail _ (List.Mem.head _)))))))) ?_
                              refine z_iast (pc := 224) (j := ((Nq - 1 - k) * 1000 + c)) (v := ((mleft (Hq.1 2) (Nq - 1 - k) b 4) + (Hq.1 14 ((Nq - k) * 1000 + (c - (mcost (Hq.1 2) b 4).toNat))))) dX11_laysSpent_224 sh_14 (by omega) (by omega) (by decide) ?_
                              have ok17 := okI ok15 14 ((Nq - 1 - k) * 1000 + c) (v := ((mleft (Hq.1 2) (Nq - 1 - k) b 4) + (Hq.1 14 ((Nq - k) * 1000 + (c - (mcost (Hq.1 2) b 4).toNat))))) (by omega) (by omega)
                              refine x_aload_n (pc := 225) dX11_laysSpent_225 (List.Mem.head _) ?_
                              refine z_getR (pc := 226) (k := 31) (r := 15) dX11_laysSpent_226 lf_X11_67 sh_0 rfl rf_0_31 ?_
                              refine x_iload (pc := 229) dX11_laysSpent_229 (List.Mem.tail _ (List.Mem.tail _ (List.Mem.tail _ (List.Mem.tail _ (List.Mem.head _))))) ?_
                              refine x_iload (pc := 231) dX11_laysSpent_231 (List.Mem.tail _ (List.Mem.tail _ (List.Mem.tail _ (List.Mem.tail _ (List.Mem.tail _ (List.Mem.tail _ (List.Mem.tail _ (List.Mem.tail _ (List.Mem.head _))))))))) ?_
                              refine z_iast (pc := 233) (j := ((Nq - 1 - k) * 1000 + c)) (v := ((mcost (Hq.1 2) b 4) + (Hq.1 15 ((Nq - k) * 1000 + (c - (mcost (Hq.1 2) b 4).toNat))))) dX11_laysSpent_233 sh_15 (by omega) (by omega) (by decide) ?_
                              have ok18 := okI ok17 15 ((Nq - 1 - k) * 1000 + c) (v := ((mcost (Hq.1 2) b 4) + (Hq.1 15 ((Nq - k) * 1000 + (c - (mcost (Hq.1 2) b 4).toNat))))) (by omega) (by omega)
                              refine z_iinc (pc := 234) dX11_laysSpent_234 (List.Mem.tail _ (List.Mem.tail _ (List.Mem.tail _ (List.Mem.tail _ (List.Mem.tail _ (List.Mem.head _)))))) (Nat.le_of_ble_eq_true rfl) ?_
                              show Ev _ _ _ _ _ [(5, .int (zN ((b : Int) + 1))), (0, .ref 0), (1, .int (zN ((c0 : Int)))), (2, .int (zN (((Nq : Int) - 1 - k)))), (3, .int (zN ((c : Int)))), (4, .int (zN (((((Nq : Int) - 1 - k) * 1000) + (c : Int))))), (6, .int (zN (((((((Nq : Int) - 1 - k) + 1) * 1000) + (c : Int)) - (mcost (Hq.1 2) b 4))))), (7, .int (zN (((mleft (Hq.1 2) (Nq - 1 - k) b 4) + (Hq.1 14 ((Nq - k) * 1000 + (c - (mcost (Hq.1 2) b 4).toNat))))))), (8, .int (zN (((mcost (Hq.1 2) b 4) + (Hq.1 15 ((Nq - k) * 1000 + (c - (mcost (Hq.1 2) b 4).toNat)))))))] _ _
                              refine x_goto (pc := 237) (tgt := 95) dX11_laysSpent_237 (by decide) ?_
                              have ebn : bs (vv (H.1 2) (Nq - 1 - k) (zo (H.1 2) Nq k) c) (cOk (H.1 2) c) (b + 1) = b := by
                                rcases hbet with z | z
                                · rw [z]; exact if_neg (fun y => absurd y.2 (Int.lt_irrefl _))
                                · rw [bs_s, if_pos ⟨cok, by omega⟩]
                              have hqn : cuC (wI (wI Hq 14 (((Nq - 1 - k) * 1000 + c)) (((mleft (Hq.1 2) (Nq - 1 - k) b 4) + (Hq.1 14 ((Nq - k) * 1000 + (c - (mcost (Hq.1 2) b 4).toNat)))))) 15 (((Nq - 1 - k) * 1000 + c)) (((mcost (Hq.1 2) b 4) + (Hq.1 15 ((Nq - k) * 1000 + (c - (mcost (Hq.1 2) b 4).toNat)))))) (vv (H.1 2) (Nq - 1 - k) (zo (H.1 2) Nq k) c) (cOk (H.1 2) c) ((Nq - 1 - k) * 1000 + c) c (b + 1) := ⟨fun z => absurd z (by omega), fun _ => by
                                rw [ebn, wI1c (by omega), wI1, wI1]
                                exact ⟨by omega, by omega, by omega⟩⟩
                              have hrs : ∀ x y, Nq - k ≤ x → x ≤ Nq → y ≤ c0 → gdC (wI (wI Hq 14 (((Nq - 1 - k) * 1000 + c)) (((mleft (Hq.1 2) (Nq - 1 - k) b 4) + (Hq.1 14 ((Nq - k) * 1000 + (c - (mcost (Hq.1 2) b 4).toNat)))))) 15 (((Nq - 1 - k) * 1000 + c)) (((mcost (Hq.1 2) b 4) + (Hq.1 15 ((Nq - k) * 1000 + (c - (mcost (Hq.1 2) b 4).toNat)))))) (H.1 2) Nq x y := fun x y h1 h2 h3 => gdC_cg (by rw [wI1c (by omega), wI1k (by omega)]) (by rw [wI1k (by omega), wI1c (by omega)]) (hr3 x y h1 h2 h3)
                              have hps : ∀ y, y < c → gdC (wI (wI Hq 14 (((Nq - 1 - k) * 1000 + c)) (((mleft (Hq.1 2) (Nq - 1 - k) b 4) + (Hq.1 14 ((Nq - k) * 1000 + (c - (mcost (Hq.1 2) b 4).toNat)))))) 15 (((Nq - 1 - k) * 1000 + c)) (((mcost (Hq.1 2) b 4) + (Hq.1 15 ((Nq - k) * 1000 + (c - (mcost (Hq.1 2) b 4).toNat)))))) (H.1 2) Nq (Nq - 1 - k) y := fun y h => gdC_cg (by rw [wI1c (by omega), wI1k (by omega)]) (by rw [wI1k (by omega), wI1c (by omega)]) (hp3 y h)
                              have fqs : FrN H (wI (wI Hq 14 (((Nq - 1 - k) * 1000 + c)) (((mleft (Hq.1 2) (Nq - 1 - k) b 4) + (Hq.1 14 ((Nq - k) * 1000 + (c - (mcost (Hq.1 2) b 4).toNat)))))) 15 (((Nq - 1 - k) * 1000 + c)) (((mcost (Hq.1 2) b 4) + (Hq.1 15 ((Nq - k) * 1000 + (c - (mcost (Hq.1 2) b 4).toNat)))))) := ⟨fun cc j g h => by rw [wI1c h, wI1c g]; exact fq.1 cc j g h, fq.2⟩
                              refine x_weaken (L1 := [(0, .ref 0), (1, .int (zN ((c0 : Int)))), (2, .int (zN (((Nq : Int) - 1 - k)))), (3, .int (zN ((c : Int)))), (4, .int (zN (((((Nq : Int) - 1 - k) * 1000) + (c : Int))))), (5, .int (zN ((((b + 1) : Nat) : Int))))]) (List.forall_mem_cons.mpr ⟨(List.Mem.tail _ (List.Mem.head _)), (List.forall_mem_cons.mpr ⟨(List.Mem.tail _ (List.Mem.tail _ (List.Mem.head _))), (List.forall_mem_cons.mpr ⟨(List.Mem.tail _ (List.Mem.tail _ (List.Mem.tail _ (List.Mem.head _)))), (List.forall_mem_cons.mpr ⟨(List.Mem.tail _ (List.Mem.tail _ (List.Mem.tail _ (List.Mem.tail _ (List.Mem.head _))))), (List.forall_mem_cons.mpr ⟨(List.Mem.tail _ (List.Mem.tail _ (List.Mem.tail _ (List.Mem.tail _ (List.Mem.tail _ (List.Mem.head _)))))), (List.forall_mem_cons.mpr ⟨(mem_ci (by omega) (List.Mem.head _)), (fun _ h => absurd h List.not_mem_nil)⟩)⟩)⟩)⟩)⟩)⟩) ?_
                              exact ih95 ((b + 1)) (wI (wI Hq 14 (((Nq - 1 - k) * 1000 + c)) (((mleft (Hq.1 2) (Nq - 1 - k) b 4) + (Hq.1 14 ((Nq - k) * 1000 + (c - (mcost (Hq.1 2) b 4).toNat)))))) 15 (((Nq - 1 - k) * 1000 + c)) (((mcost (Hq.1 2) b 4) + (Hq.1 15 ((Nq - k) * 1000 + (c - (mcost (Hq.1 2) b 4).toNat)))))) ok18 (by omega) (by first | exact hr3 | exact hrs) (by first | exact hp3 | exact hps) (hqn) (by first | exact fqs | exact fq) (by omega)
                            refine x_aload_n (pc := 166) dX11_laysSpent_166 (List.Mem.tail _ (List.Mem.tail _ (List.Mem.tail _ (List.Mem.head _)))) ?_
                            refine z_getR (pc := 167) (k := 30) (r := 14) dX11_laysSpent_167 lf_X11_64 sh_0 rfl rf_0_30 ?_
                            refine x_iload (pc := 170) dX11_laysSpent_170 (List.Mem.tail _ (List.Mem.tail _ (List.Mem.tail _ (List.Mem.tail _ (List.Mem.tail _ (List.Mem.tail _ (List.Mem.tail _ (List.Mem.head _)))))))) ?_
                            have rd19 := ok15.1 14 ((Nq - 1 - k) * 1000 + c)
                            refine z_iald (pc := 172) (j := ((Nq - 1 - k) * 1000 + c)) (v := Hq.1 14 ((Nq - 1 - k) * 1000 + c)) dX11_laysSpent_172 sh_14 (by omega) (by omega) (by decide) rfl ?_
                            refine z_iconst (pc := 173) dX11_laysSpent_173 ?_
                            refine z_icmp_eq (pc := 174) (tgt := 216) dX11_laysSpent_174 (by decide) (by omega) (by omega) (by decide) (by decide) (fun hb20 => ?_) (fun hb20 => ?_)
                            · skip
                              have hb0 : b = 0 ∨ (1 ≤ b ∧ (mleft (Hq.1 2) (Nq - 1 - k) b 4 + Hq.1 14 ((Nq - k) * 1000 + (c - (mcost (Hq.1 2) b 4).toNat))) * 1000 + (mcost (Hq.1 2) b 4 + Hq.1 15 ((Nq - k) * 1000 + (c - (mcost (Hq.1 2) b 4).toNat))) < (vv (H.1 2) (Nq - 1 - k) (zo (H.1 2) Nq k) c) (bs (vv (H.1 2) (Nq - 1 - k) (zo (H.1 2) Nq k) c) (cOk (H.1 2) c) b)) := Or.inl (by
                                by_cases z : b = 0
                                · exact z
                                · exfalso
                                  have q := hq.2 (by omega)
                                  omega)
                              refine x_weaken (L1 := [(0, .ref 0), (1, .int (zN ((c0 : Int)))), (2, .int (zN (((Nq : Int) - 1 - k)))), (3, .int (zN ((c : Int)))), (4, .int (zN (((((Nq : Int) - 1 - k) * 1000) + (c : Int))))), (5, .int (zN ((b : Int)))), (6, .int (zN (((((((Nq : Int) - 1 - k) + 1) * 1000) + (c : Int)) - (mcost (Hq.1 2) b 4))))), (7, .int (zN (((mleft (Hq.1 2) (Nq - 1 - k) b 4) + (Hq.1 14 ((Nq - k) * 1000 + (c - (mcost (Hq.1 2) b 4).toNat))))))), (8, .int (zN (((mcost (Hq.1 2) b 4) + (Hq.1 15 ((Nq - k) * 1000 + (c - (mcost (Hq.1 2) b 4).toNat)))))))]) (List.forall_mem_cons.mpr ⟨(List.Mem.tail _ (List.Mem.tail _ (List.Mem.tail _ (List.Mem.head _)))), (List.forall_mem_cons.mpr ⟨(List.Mem.tail _ (List.Mem.tail _ (List.Mem.tail _ (List.Mem.tail _ (List.Mem.head _))))), (List.forall_mem_cons.mpr ⟨(List.Mem.tail _ (List.Mem.tail _ (List.Mem.tail _ (List.Mem.tail _ (List.Mem.tail _ (List.Mem.head _)))))), (List.forall_mem_cons.mpr ⟨(List.Mem.tail _ (List.Mem.tail _ (List.Mem.tail _ (List.Mem.tail _ (List.Mem.tail _ (List.Mem.tail _ (List.Mem.head _))))))), (List.forall_mem_cons.mpr ⟨(List.Mem.tail _ (List.Mem.tail _ (List.Mem.tail _ (List.Mem.tail _ (List.Mem.tail _ (List.Mem.tail _ (List.Mem.tail _ (List.Mem.head _)))))))), (List.forall_mem_cons.mpr ⟨(List.Mem.tail _ (List.Mem.tail _ (List.Mem.tail _ (List.Mem.tail _ (List.Mem.tail _ (List.Mem.tail _ (List.Mem.tail _ (List.Mem.tail _ (List.Mem.head _))))))))), (List.forall_mem_cons.mpr ⟨(List.Mem.tail _ (List.Mem.tail _ (List.Mem.head _))), (List.forall_mem_cons.mpr ⟨(List.Mem.tail _ (List.Mem.head _)), (List.forall_mem_cons.mpr ⟨(List.Mem.head _), (fun _ h => absurd h List.not_mem_nil)⟩)⟩)⟩)⟩)⟩)⟩)⟩)⟩)⟩) ?_
                              exact jn216  (by first | exact hb0 | exact hb1)
                            · skip
                              refine x_iload (pc := 177) dX11_laysSpent_177 (List.Mem.tail _ (List.Mem.head _)) ?_
                              refine x_aload_n (pc := 179) dX11_laysSpent_179 (List.Mem.tail _ (List.Mem.tail _ (List.Mem.tail _ (List.Mem.head _)))) ?_
                              refine z_getR (pc := 180) (k := 30) (r := 14) dX11_laysSpent_180 lf_X11_64 sh_0 rfl rf_0_30 ?_
                              refine x_iload (pc := 183) dX11_laysSpent_183 (List.Mem.tail _ (List.Mem.tail _ (List.Mem.tail _ (List.Mem.tail _ (List.Mem.tail _ (List.Mem.tail _ (List.Mem.tail _ (List.Mem.head _)))))))) ?_
                              have rd21 := ok15.1 14 ((Nq - 1 - k) * 1000 + c)
                              refine z_iald (pc := 185) (j := ((Nq - 1 - k) * 1000 + c)) (v := Hq.1 14 ((Nq - 1 - k) * 1000 + c)) dX11_laysSpent_185 sh_14 (by omega) (by omega) (by decide) rfl ?_
                              refine z_icmp_gt (pc := 186) (tgt := 234) dX11_laysSpent_186 (by decide) (by omega) (by omega) (by omega) (by omega) (fun hb22 => ?_) (fun hb22 => ?_)
                              · skip
                                have b1 : 1 ≤ b := by
                                  by_cases z : b = 0
                                  · have := hq.1 z; omega
                                  · omega
                                have q := hq.2 b1
                                have ebn : bs (vv (H.1 2) (Nq - 1 - k) (zo (H.1 2) Nq k) c) (cOk (H.1 2) c) (b + 1) = bs (vv (H.1 2) (Nq - 1 - k) (zo (H.1 2) Nq k) c) (cOk (H.1 2) c) b := by rw [bs_s, if_neg (fun y => by have y2 := y.2; omega)]
                                have hqn : cuC Hq (vv (H.1 2) (Nq - 1 - k) (zo (H.1 2) Nq k) c) (cOk (H.1 2) c) ((Nq - 1 - k) * 1000 + c) c (b + 1) := ⟨fun z => absurd z (by omega), fun _ => by rw [ebn]; exact q⟩
                                refine z_iinc (pc := 234) dX11_laysSpent_234 (List.Mem.tail _ (List.Mem.tail _ (List.Mem.tail _ (List.Mem.tail _ (List.Mem.tail _ (List.Mem.tail _ (List.Mem.tail _ (List.Mem.tail _ (List.Mem.head _))))))))) (Nat.le_of_ble_eq_true rfl) ?_
                                show Ev _ _ _ _ _ [(5, .int (zN ((b : Int) + 1))), (8, .int (zN (((mcost (Hq.1 2) b 4) + (Hq.1 15 ((Nq - k) * 1000 + (c - (mcost (Hq.1 2) b 4).toNat))))))), (7, .int (zN (((mleft (Hq.1 2) (Nq - 1 - k) b 4) + (Hq.1 14 ((Nq - k) * 1000 + (c - (mcost (Hq.1 2) b 4).toNat))))))), (6, .int (zN (((((((Nq : Int) - 1 - k) + 1) * 1000) + (c : Int)) - (mcost (Hq.1 2) b 4))))), (0, .ref 0), (1, .int (zN ((c0 : Int)))), (2, .int (zN (((Nq : Int) - 1 - k)))), (3, .int (zN ((c : Int)))), (4, .int (zN (((((Nq : Int) - 1 - k) * 1000) + (c : Int)))))] _ _
                                refine x_goto (pc := 237) (tgt := 95) dX11_laysSpent_237 (by decide) ?_
                                refine x_weaken (L1 := [(0, .ref 0), (1, .int (zN ((c0 : Int)))), (2, .int (zN (((Nq : Int) - 1 - k)))), (3, .int (zN ((c : Int)))), (4, .int (zN (((((Nq : Int) - 1 - k) * 1000) + (c : Int))))), (5, .int (zN ((((b + 1) : Nat) : Int))))]) (List.forall_mem_cons.mpr ⟨(List.Mem.tail _ (List.Mem.tail _ (List.Mem.tail _ (List.Mem.tail _ (List.Mem.head _))))), (List.forall_mem_cons.mpr ⟨(List.Mem.tail _ (List.Mem.tail _ (List.Mem.tail _ (List.Mem.tail _ (List.Mem.tail _ (List.Mem.head _)))))), (List.forall_mem_cons.mpr ⟨(List.Mem.tail _ (List.Mem.tail _ (List.Mem.tail _ (List.Mem.tail _ (List.Mem.tail _ (List.Mem.tail _ (List.Mem.head _))))))), (List.forall_mem_cons.mpr ⟨(List.Mem.tail _ (List.Mem.tail _ (List.Mem.tail _ (List.Mem.tail _ (List.Mem.tail _ (List.Mem.tail _ (List.Mem.tail _ (List.Mem.head _)))))))), (List.forall_mem_cons.mpr ⟨(List.Mem.tail _ (List.Mem.tail _ (List.Mem.tail _ (List.Mem.tail _ (List.Mem.tail _ (List.Mem.tail _ (List.Mem.tail _ (List.Mem.tail _ (List.Mem.head _))))))))), (List.forall_mem_cons.mpr ⟨(mem_ci (by omega) (List.Mem.head _)), (fun _ h => absurd h List.not_mem_nil)⟩)⟩)⟩)⟩)⟩)⟩) ?_
                                exact ih95 ((b + 1)) Hq ok15 (by omega) (by first | exact hr3 | exact hrs) (by first | exact hp3 | exact hps) (hqn) (by first | exact fqs | exact fq) (by omega)
                              · skip
                                refine x_iload (pc := 189) dX11_laysSpent_189 (List.Mem.tail _ (List.Mem.head _)) ?_
                                refine x_aload_n (pc := 191) dX11_laysSpent_191 (List.Mem.tail _ (List.Mem.tail _ (List.Mem.tail _ (List.Mem.head _)))) ?_
                                refine z_getR (pc := 192) (k := 30) (r := 14) dX11_laysSpent_192 lf_X11_64 sh_0 rfl rf_0_30 ?_
                                refine x_iload (pc := 195) dX11_laysSpent_195 (List.Mem.tail _ (List.Mem.tail _ (List.Mem.tail _ (List.Mem.tail _ (List.Mem.tail _ (List.Mem.tail _ (List.Mem.tail _ (List.Mem.head _)))))))) ?_
                                have rd23 := ok15.1 14 ((Nq - 1 - k) * 1000 + c)
                                refine z_iald (pc := 197) (j := ((Nq - 1 - k) * 1000 + c)) (v := Hq.1 14 ((Nq - 1 - k) * 1000 + c)) dX11_laysSpent_197 sh_14 (by omega) (by omega) (by decide) rfl ?_
                                refine z_icmp_ne (pc := 198) (tgt := 216) dX11_laysSpent_198 (by decide) (by omega) (by omega) (by omega) (by omega) (fun hb24 => ?_) (fun hb24 => ?_)
                                · skip
                                  have hb1 : b = 0 ∨ (1 ≤ b ∧ (mleft (Hq.1 2) (Nq - 1 - k) b 4 + Hq.1 14 ((Nq - k) * 1000 + (c - (mcost (Hq.1 2) b 4).toNat))) * 1000 + (mcost (Hq.1 2) b 4 + Hq.1 15 ((Nq - k) * 1000 + (c - (mcost (Hq.1 2) b 4).toNat))) < (vv (H.1 2) (Nq - 1 - k) (zo (H.1 2) Nq k) c) (bs (vv (H.1 2) (Nq - 1 - k) (zo (H.1 2) Nq k) c) (cOk (H.1 2) c) b)) := by
                                    by_cases z : b = 0
                                    · exact Or.inl z
                                    · have q := hq.2 (by omega)
                                      exact Or.inr ⟨by omega, by omega⟩
                                  refine x_weaken (L1 := [(0, .ref 0), (1, .int (zN ((c0 : Int)))), (2, .int (zN (((Nq : Int) - 1 - k)))), (3, .int (zN ((c : Int)))), (4, .int (zN (((((Nq : Int) - 1 - k) * 1000) + (c : Int))))), (5, .int (zN ((b : Int)))), (6, .int (zN (((((((Nq : Int) - 1 - k) + 1) * 1000) + (c : Int)) - (mcost (Hq.1 2) b 4))))), (7, .int (zN (((mleft (Hq.1 2) (Nq - 1 - k) b 4) + (Hq.1 14 ((Nq - k) * 1000 + (c - (mcost (Hq.1 2) b 4).toNat))))))), (8, .int (zN (((mcost (Hq.1 2) b 4) + (Hq.1 15 ((Nq - k) * 1000 + (c - (mcost (Hq.1 2) b 4).toNat)))))))]) (List.forall_mem_cons.mpr ⟨(List.Mem.tail _ (List.Mem.tail _ (List.Mem.tail _ (List.Mem.head _)))), (List.forall_mem_cons.mpr ⟨(List.Mem.tail _ (List.Mem.tail _ (List.Mem.tail _ (List.Mem.tail _ (List.Mem.head _))))), (List.forall_mem_cons.mpr ⟨(List.Mem.tail _ (List.Mem.tail _ (List.Mem.tail _ (List.Mem.tail _ (List.Mem.tail _ (List.Mem.head _)))))), (List.forall_mem_cons.mpr ⟨(List.Mem.tail _ (List.Mem.tail _ (List.Mem.tail _ (List.Mem.tail _ (List.Mem.tail _ (List.Mem.tail _ (List.Mem.head _))))))), (List.forall_mem_cons.mpr ⟨(List.Mem.tail _ (List.Mem.tail _ (List.Mem.tail _ (List.Mem.tail _ (List.Mem.tail _ (List.Mem.tail _ (List.Mem.tail _ (List.Mem.head _)))))))), (List.forall_mem_cons.mpr ⟨(List.Mem.tail _ (List.Mem.tail _ (List.Mem.tail _ (List.Mem.tail _ (List.Mem.tail _ (List.Mem.tail _ (List.Mem.tail _ (List.Mem.tail _ (List.Mem.head _))))))))), (List.forall_mem_cons.mpr ⟨(List.Mem.tail _ (List.Mem.tail _ (List.Mem.head _))), (List.forall_mem_cons.mpr ⟨(List.Mem.tail _ (List.Mem.head _)), (List.forall_mem_cons.mpr ⟨(List.Mem.head _), (fun _ h => absurd h List.not_mem_nil)⟩)⟩)⟩)⟩)⟩)⟩)⟩)⟩)⟩) ?_
                                  exact jn216  (by first | exact hb0 | exact hb1)
                                · skip
                                  refine x_iload (pc := 201) dX11_laysSpent_201 (List.Mem.head _) ?_
                                  refine x_aload_n (pc := 203) dX11_laysSpent_203 (List.Mem.tail _ (List.Mem.tail _ (List.Mem.tail _ (List.Mem.head _)))) ?_
                                  refine z_getR (pc := 204) (k := 31) (r := 15) dX11_laysSpent_204 lf_X11_67 sh_0 rfl rf_0_31 ?_
                                  refine x_iload (pc := 207) dX11_laysSpent_207 (List.Mem.tail _ (List.Mem.tail _ (List.Mem.tail _ (List.Mem.tail _ (List.Mem.tail _ (List.Mem.tail _ (List.Mem.tail _ (List.Mem.head _)))))))) ?_
                                  have rd25 := ok15.1 15 ((Nq - 1 - k) * 1000 + c)
                                  refine z_iald (pc := 209) (j := ((Nq - 1 - k) * 1000 + c)) (v := Hq.1 15 ((Nq - 1 - k) * 1000 + c)) dX11_laysSpent_209 sh_15 (by omega) (by omega) (by decide) rfl ?_
                                  refine z_icmp_lt (pc := 210) (tgt := 216) dX11_laysSpent_210 (by decide) (by omega) (by omega) (by omega) (by omega) (fun hb26 => ?_) (fun hb26 => ?_)
                                  · skip
                                    have hb1 : b = 0 ∨ (1 ≤ b ∧ (mleft (Hq.1 2) (Nq - 1 - k) b 4 + Hq.1 14 ((Nq - k) * 1000 + (c - (mcost (Hq.1 2) b 4).toNat))) * 1000 + (mcost (Hq.1 2) b 4 + Hq.1 15 ((Nq - k) * 1000 + (c - (mcost (Hq.1 2) b 4).toNat))) < (vv (H.1 2) (Nq - 1 - k) (zo (H.1 2) Nq k) c) (bs (vv (H.1 2) (Nq - 1 - k) (zo (H.1 2) Nq k) c) (cOk (H.1 2) c) b)) := by
                                      by_cases z : b = 0
                                      · exact Or.inl z
                                      · have q := hq.2 (by omega)
                                        exact Or.inr ⟨by omega, by omega⟩
                                    refine x_weaken (L1 := [(0, .ref 0), (1, .int (zN ((c0 : Int)))), (2, .int (zN (((Nq : Int) - 1 - k)))), (3, .int (zN ((c : Int)))), (4, .int (zN (((((Nq : Int) - 1 - k) * 1000) + (c : Int))))), (5, .int (zN ((b : Int)))), (6, .int (zN (((((((Nq : Int) - 1 - k) + 1) * 1000) + (c : Int)) - (mcost (Hq.1 2) b 4))))), (7, .int (zN (((mleft (Hq.1 2) (Nq - 1 - k) b 4) + (Hq.1 14 ((Nq - k) * 1000 + (c - (mcost (Hq.1 2) b 4).toNat))))))), (8, .int (zN (((mcost (Hq.1 2) b 4) + (Hq.1 15 ((Nq - k) * 1000 + (c - (mcost (Hq.1 2) b 4).toNat)))))))]) (List.forall_mem_cons.mpr ⟨(List.Mem.tail _ (List.Mem.tail _ (List.Mem.tail _ (List.Mem.head _)))), (List.forall_mem_cons.mpr ⟨(List.Mem.tail _ (List.Mem.tail _ (List.Mem.tail _ (List.Mem.tail _ (List.Mem.head _))))), (List.forall_mem_cons.mpr ⟨(List.Mem.tail _ (List.Mem.tail _ (List.Mem.tail _ (List.Mem.tail _ (List.Mem.tail _ (List.Mem.head _)))))), (List.forall_mem_cons.mpr ⟨(List.Mem.tail _ (List.Mem.tail _ (List.Mem.tail _ (List.Mem.tail _ (List.Mem.tail _ (List.Mem.tail _ (List.Mem.head _))))))), (List.forall_mem_cons.mpr ⟨(List.Mem.tail _ (List.Mem.tail _ (List.Mem.tail _ (List.Mem.tail _ (List.Mem.tail _ (List.Mem.tail _ (List.Mem.tail _ (List.Mem.head _)))))))), (List.forall_mem_cons.mpr ⟨(List.Mem.tail _ (List.Mem.tail _ (List.Mem.tail _ (List.Mem.tail _ (List.Mem.tail _ (List.Mem.tail _ (List.Mem.tail _ (List.Mem.tail _ (List.Mem.head _))))))))), (List.forall_mem_cons.mpr ⟨(List.Mem.tail _ (List.Mem.tail _ (List.Mem.head _))), (List.forall_mem_cons.mpr ⟨(List.Mem.tail _ (List.Mem.head _)), (List.forall_mem_cons.mpr ⟨(List.Mem.head _), (fun _ h => absurd h List.not_mem_nil)⟩)⟩)⟩)⟩)⟩)⟩)⟩)⟩)⟩) ?_
                                    exact jn216  (by first | exact hb0 | exact hb1)
                                  · skip
                                    have b1 : 1 ≤ b := by
                                      by_cases z : b = 0
                                      · have := hq.1 z; omega
                                      · omega
                                    have q := hq.2 b1
                                    have ebn : bs (vv (H.1 2) (Nq - 1 - k) (zo (H.1 2) Nq k) c) (cOk (H.1 2) c) (b + 1) = bs (vv (H.1 2) (Nq - 1 - k) (zo (H.1 2) Nq k) c) (cOk (H.1 2) c) b := by rw [bs_s, if_neg (fun y => by have y2 := y.2; omega)]
                                    have hqn : cuC Hq (vv (H.1 2) (Nq - 1 - k) (zo (H.1 2) Nq k) c) (cOk (H.1 2) c) ((Nq - 1 - k) * 1000 + c) c (b + 1) := ⟨fun z => absurd z (by omega), fun _ => by rw [ebn]; exact q⟩
                                    refine x_goto (pc := 213) (tgt := 234) dX11_laysSpent_213 (by decide) ?_
                                    refine z_iinc (pc := 234) dX11_laysSpent_234 (List.Mem.tail _ (List.Mem.tail _ (List.Mem.tail _ (List.Mem.tail _ (List.Mem.tail _ (List.Mem.tail _ (List.Mem.tail _ (List.Mem.tail _ (List.Mem.head _))))))))) (Nat.le_of_ble_eq_true rfl) ?_
                                    show Ev _ _ _ _ _ [(5, .int (zN ((b : Int) + 1))), (8, .int (zN (((mcost (Hq.1 2) b 4) + (Hq.1 15 ((Nq - k) * 1000 + (c - (mcost (Hq.1 2) b 4).toNat))))))), (7, .int (zN (((mleft (Hq.1 2) (Nq - 1 - k) b 4) + (Hq.1 14 ((Nq - k) * 1000 + (c - (mcost (Hq.1 2) b 4).toNat))))))), (6, .int (zN (((((((Nq : Int) - 1 - k) + 1) * 1000) + (c : Int)) - (mcost (Hq.1 2) b 4))))), (0, .ref 0), (1, .int (zN ((c0 : Int)))), (2, .int (zN (((Nq : Int) - 1 - k)))), (3, .int (zN ((c : Int)))), (4, .int (zN (((((Nq : Int) - 1 - k) * 1000) + (c : Int)))))] _ _
                                    refine x_goto (pc := 237) (tgt := 95) dX11_laysSpent_237 (by decide) ?_
                                    refine x_weaken (L1 := [(0, .ref 0), (1, .int (zN ((c0 : Int)))), (2, .int (zN (((Nq : Int) - 1 - k)))), (3, .int (zN ((c : Int)))), (4, .int (zN (((((Nq : Int) - 1 - k) * 1000) + (c : Int))))), (5, .int (zN ((((b + 1) : Nat) : Int))))]) (List.forall_mem_cons.mpr ⟨(List.Mem.tail _ (List.Mem.tail _ (List.Mem.tail _ (List.Mem.tail _ (List.Mem.head _))))), (List.forall_mem_cons.mpr ⟨(List.Mem.tail _ (List.Mem.tail _ (List.Mem.tail _ (List.Mem.tail _ (List.Mem.tail _ (List.Mem.head _)))))), (List.forall_mem_cons.mpr ⟨(List.Mem.tail _ (List.Mem.tail _ (List.Mem.tail _ (List.Mem.tail _ (List.Mem.tail _ (List.Mem.tail _ (List.Mem.head _))))))), (List.forall_mem_cons.mpr ⟨(List.Mem.tail _ (List.Mem.tail _ (List.Mem.tail _ (List.Mem.tail _ (List.Mem.tail _ (List.Mem.tail _ (List.Mem.tail _ (List.Mem.head _)))))))), (List.forall_mem_cons.mpr ⟨(List.Mem.tail _ (List.Mem.tail _ (List.Mem.tail _ (List.Mem.tail _ (List.Mem.tail _ (List.Mem.tail _ (List.Mem.tail _ (List.Mem.tail _ (List.Mem.head _))))))))), (List.forall_mem_cons.mpr ⟨(mem_ci (by omega) (List.Mem.head _)), (fun _ h => absurd h List.not_mem_nil)⟩)⟩)⟩)⟩)⟩)⟩) ?_
                                    exact ih95 ((b + 1)) Hq ok15 (by omega) (by first | exact hr3 | exact hrs) (by first | exact hp3 | exact hps) (hqn) (by first | exact fqs | exact fq) (by omega)
                          · skip
                            have ebn : bs (vv (H.1 2) (Nq - 1 - k) (zo (H.1 2) Nq k) c) (cOk (H.1 2) c) (b + 1) = bs (vv (H.1 2) (Nq - 1 - k) (zo (H.1 2) Nq k) c) (cOk (H.1 2) c) b := by rw [bs_s, if_neg (fun q => by have q2 := of_decide_eq_true q.1; rw [← e2] at q2; omega)]
                            have b1 : 1 ≤ b := by
                              by_cases z : b = 0
                              · subst z; rw [mcost_0] at *; omega
                              · omega
                            have hqn : cuC Hq (vv (H.1 2) (Nq - 1 - k) (zo (H.1 2) Nq k) c) (cOk (H.1 2) c) ((Nq - 1 - k) * 1000 + c) c (b + 1) := ⟨fun z => absurd z (by omega), fun _ => by rw [ebn]; exact hq.2 b1⟩
                            refine x_goto (pc := 112) (tgt := 234) dX11_laysSpent_112 (by decide) ?_
                            refine z_iinc (pc := 234) dX11_laysSpent_234 (List.Mem.tail _ (List.Mem.tail _ (List.Mem.tail _ (List.Mem.tail _ (List.Mem.tail _ (List.Mem.head _)))))) (Nat.le_of_ble_eq_true rfl) ?_
                            show Ev _ _ _ _ _ [(5, .int (zN ((b : Int) + 1))), (0, .ref 0), (1, .int (zN ((c0 : Int)))), (2, .int (zN (((Nq : Int) - 1 - k)))), (3, .int (zN ((c : Int)))), (4, .int (zN (((((Nq : Int) - 1 - k) * 1000) + (c : Int)))))] _ _
                            refine x_goto (pc := 237) (tgt := 95) dX11_laysSpent_237 (by decide) ?_
                            refine x_weaken (L1 := [(0, .ref 0), (1, .int (zN ((c0 : Int)))), (2, .int (zN (((Nq : Int) - 1 - k)))), (3, .int (zN ((c : Int)))), (4, .int (zN (((((Nq : Int) - 1 - k) * 1000) + (c : Int))))), (5, .int (zN ((((b + 1) : Nat) : Int))))]) (List.forall_mem_cons.mpr ⟨(List.Mem.tail _ (List.Mem.head _)), (List.forall_mem_cons.mpr ⟨(List.Mem.tail _ (List.Mem.tail _ (List.Mem.head _))), (List.forall_mem_cons.mpr ⟨(List.Mem.tail _ (List.Mem.tail _ (List.Mem.tail _ (List.Mem.head _)))), (List.forall_mem_cons.mpr ⟨(List.Mem.tail _ (List.Mem.tail _ (List.Mem.tail _ (List.Mem.tail _ (List.Mem.head _))))), (List.forall_mem_cons.mpr ⟨(List.Mem.tail _ (List.Mem.tail _ (List.Mem.tail _ (List.Mem.tail _ (List.Mem.tail _ (List.Mem.head _)))))), (List.forall_mem_cons.mpr ⟨(mem_ci (by omega) (List.Mem.head _)), (fun _ h => absurd h List.not_mem_nil)⟩)⟩)⟩)⟩)⟩)⟩) ?_
                            exact ih95 ((b + 1)) Hq ok7 (by omega) (by first | exact hr3 | exact hrs) (by first | exact hp3 | exact hps) (hqn) (by first | exact fqs | exact fq) (by omega)
                    refine x_weaken (L1 := [(0, .ref 0), (1, .int (zN ((c0 : Int)))), (2, .int (zN (((Nq : Int) - 1 - k)))), (3, .int (zN ((c : Int)))), (4, .int (zN (((((Nq : Int) - 1 - k) * 1000) + (c : Int))))), (5, .int (zN (((0 : Nat) : Int))))]) (List.forall_mem_cons.mpr ⟨(List.Mem.tail _ (List.Mem.tail _ (List.Mem.head _))), (List.forall_mem_cons.mpr ⟨(List.Mem.tail _ (List.Mem.tail _ (List.Mem.tail _ (List.Mem.head _)))), (List.forall_mem_cons.mpr ⟨(List.Mem.tail _ (List.Mem.tail _ (List.Mem.tail _ (List.Mem.tail _ (List.Mem.head _))))), (List.forall_mem_cons.mpr ⟨(List.Mem.tail _ (List.Mem.tail _ (List.Mem.tail _ (List.Mem.tail _ (List.Mem.tail _ (List.Mem.head _)))))), (List.forall_mem_cons.mpr ⟨(List.Mem.tail _ (List.Mem.head _)), (List.forall_mem_cons.mpr ⟨(mem_ci (by omega) (List.Mem.head _)), (fun _ h => absurd h List.not_mem_nil)⟩)⟩)⟩)⟩)⟩)⟩) ?_
                    exact lp95 (16 - 0 + 1) (0) (wI Ho 14 (((Nq - 1 - k) * 1000 + c)) ((-1))) ok4 (by omega) (fun x y h1 h2 h3 => gdC_cg (by rw [wI1k (by omega)]) (by rw [wI1c (by omega)]) (hr2 x y h1 h2 h3)) (fun y h => gdC_cg (by rw [wI1k (by omega)]) (by rw [wI1c (by omega)]) (hp2 y h)) (⟨fun _ => wI1 _ _ _ _, fun h => absurd h (by omega)⟩) (⟨fun cc k g h => by rw [wI1c g]; exact fo.1 cc k g h, fo.2⟩) (Nat.lt_succ_self _)
              refine x_weaken (L1 := [(0, .ref 0), (1, .int (zN ((c0 : Int)))), (2, .int (zN (((Nq : Int) - 1 - k)))), (3, .int (zN (((0 : Nat) : Int))))]) (List.forall_mem_cons.mpr ⟨(List.Mem.tail _ (List.Mem.head _)), (List.forall_mem_cons.mpr ⟨(List.Mem.tail _ (List.Mem.tail _ (List.Mem.head _))), (List.forall_mem_cons.mpr ⟨(List.Mem.tail _ (List.Mem.tail _ (List.Mem.tail _ (List.Mem.head _)))), (List.forall_mem_cons.mpr ⟨(mem_ci (by omega) (List.Mem.head _)), (fun _ h => absurd h List.not_mem_nil)⟩)⟩)⟩)⟩) ?_
              exact lp70 (c0 + 1 - 0 + 1) (0) Hm okl64 (by omega) (hr) (fun y h => absurd h (Nat.not_lt_zero _)) (fm) (Nat.lt_succ_self _)
        refine x_weaken (L1 := [(0, .ref 0), (1, .int (zN ((c0 : Int)))), (2, .int (zN (((Nq : Int) - 1 - 0))))]) (List.forall_mem_cons.mpr ⟨(List.Mem.tail _ (List.Mem.head _)), (List.forall_mem_cons.mpr ⟨(List.Mem.tail _ (List.Mem.tail _ (List.Mem.head _))), (List.forall_mem_cons.mpr ⟨(mem_ci (by omega) (List.Mem.head _)), (fun _ h => absurd h List.not_mem_nil)⟩)⟩)⟩) ?_
        exact lp64 (Nq - 0 + 1) (0) Hl okl2 (by omega) (fun x y h1 h2 h3 => by rw [show x = Nq by omega]; exact hz y (by omega)) (fl) (Nat.lt_succ_self _)
      · skip
        refine x_aload_n (pc := 7) dX11_laysSpent_7 (List.Mem.head _) ?_
        refine z_getR (pc := 8) (k := 30) (r := 14) dX11_laysSpent_8 lf_X11_64 sh_0 rfl rf_0_30 ?_
        refine x_aload_n (pc := 11) dX11_laysSpent_11 (List.Mem.head _) ?_
        refine z_getR (pc := 12) (k := 2) (r := 2) dX11_laysSpent_12 lf_X11_17 sh_0 rfl rf_0_2 ?_
        refine z_sipush (pc := 15) dX11_laysSpent_15 sp_477 ?_
        refine z_iald (pc := 18) (j := 477) (v := (Nq : Int)) dX11_laysSpent_18 sh_2 rfl (Nat.le_of_ble_eq_true rfl) (by decide) ((fl.1 2 477 (by omega) (by omega)).trans hN) ?_
        refine z_sipush (pc := 19) dX11_laysSpent_19 sp_1000 ?_
        refine z_imul (pc := 22) dX11_laysSpent_22 ?_
        refine x_iload_n (pc := 23) dX11_laysSpent_23 (List.Mem.tail _ (List.Mem.tail _ (List.Mem.head _))) ?_
        refine z_iadd (pc := 24) dX11_laysSpent_24 ?_
        refine z_iconst (pc := 25) dX11_laysSpent_25 ?_
        refine z_iast (pc := 26) (j := Nq * 1000 + c) (v := 0) dX11_laysSpent_26 sh_14 (by omega) (by omega) (by decide) ?_
        have ok27 := okI okl2 14 (Nq * 1000 + c) (v := 0) (by decide) (by decide)
        refine x_aload_n (pc := 27) dX11_laysSpent_27 (List.Mem.head _) ?_
        refine z_getR (pc := 28) (k := 31) (r := 15) dX11_laysSpent_28 lf_X11_67 sh_0 rfl rf_0_31 ?_
        refine x_aload_n (pc := 31) dX11_laysSpent_31 (List.Mem.head _) ?_
        refine z_getR (pc := 32) (k := 2) (r := 2) dX11_laysSpent_32 lf_X11_17 sh_0 rfl rf_0_2 ?_
        refine z_sipush (pc := 35) dX11_laysSpent_35 sp_477 ?_
        refine z_iald (pc := 38) (j := 477) (v := (Nq : Int)) dX11_laysSpent_38 sh_2 rfl (Nat.le_of_ble_eq_true rfl) (by decide) ((wI1c (by omega)).trans ((fl.1 2 477 (by omega) (by omega)).trans hN)) ?_
        refine z_sipush (pc := 39) dX11_laysSpent_39 sp_1000 ?_
        refine z_imul (pc := 42) dX11_laysSpent_42 ?_
        refine x_iload_n (pc := 43) dX11_laysSpent_43 (List.Mem.tail _ (List.Mem.tail _ (List.Mem.head _))) ?_
        refine z_iadd (pc := 44) dX11_laysSpent_44 ?_
        refine z_iconst (pc := 45) dX11_laysSpent_45 ?_
        refine z_iast (pc := 46) (j := Nq * 1000 + c) (v := 0) dX11_laysSpent_46 sh_15 (by omega) (by omega) (by decide) ?_
        have ok28 := okI ok27 15 (Nq * 1000 + c) (v := 0) (by decide) (by decide)
        have hzn : ∀ y, y < c + 1 → gdC (wI (wI Hl 14 (Nq * 1000 + c) (0)) 15 (Nq * 1000 + c) (0)) (H.1 2) Nq Nq y := fun y hy => by
          by_cases z : y = c
          · rw [z]
            unfold gdC
            rw [wI1c (by omega), wI1, wI1, Nat.sub_self]
            exact ⟨rfl, by omega, Int.le_refl _⟩
          · exact gdC_cg (by rw [wI1c (by omega), wI1k (by omega)]) (by rw [wI1k (by omega), wI1c (by omega)]) (hz y (by omega))
        have fln : FrN H (wI (wI Hl 14 (Nq * 1000 + c) (0)) 15 (Nq * 1000 + c) (0)) := ⟨fun cc k g h => by rw [wI1c h, wI1c g]; exact fl.1 cc k g h, fl.2⟩
        refine z_iinc (pc := 47) dX11_laysSpent_47 (List.Mem.tail _ (List.Mem.tail _ (List.Mem.head _))) (Nat.le_of_ble_eq_true rfl) ?_
        show Ev _ _ _ _ _ [(2, .int (zN ((c : Int) + 1))), (0, .ref 0), (1, .int (zN ((c0 : Int))))] _ _
        refine x_goto (pc := 50) (tgt := 2) dX11_laysSpent_50 (by decide) ?_
        refine x_weaken (L1 := [(0, .ref 0), (1, .int (zN ((c0 : Int)))), (2, .int (zN ((((c + 1) : Nat) : Int))))]) (List.forall_mem_cons.mpr ⟨(List.Mem.tail _ (List.Mem.head _)), (List.forall_mem_cons.mpr ⟨(List.Mem.tail _ (List.Mem.tail _ (List.Mem.head _))), (List.forall_mem_cons.mpr ⟨(mem_ci (by omega) (List.Mem.head _)), (fun _ h => absurd h List.not_mem_nil)⟩)⟩)⟩) ?_
        exact ih2 ((c + 1)) (wI (wI Hl 14 (Nq * 1000 + c) (0)) 15 (Nq * 1000 + c) (0)) ok28 (by omega) (hzn) (fln) (by omega)
  refine x_weaken (L1 := [(0, .ref 0), (1, .int (zN ((c0 : Int)))), (2, .int (zN (((0 : Nat) : Int))))]) (List.forall_mem_cons.mpr ⟨(List.Mem.tail _ (List.Mem.head _)), (List.forall_mem_cons.mpr ⟨(List.Mem.tail _ (List.Mem.tail _ (List.Mem.head _))), (List.forall_mem_cons.mpr ⟨(mem_ci (by omega) (List.Mem.head _)), (fun _ h => absurd h List.not_mem_nil)⟩)⟩)⟩) ?_
  exact lp2 (c0 + 1 - 0 + 1) (0) H ok (by omega) (fun y h => absurd h (Nat.not_lt_zero _)) (⟨fun _ _ _ _ => rfl, rfl⟩) (Nat.lt_succ_self _)

theorem c_X11_isBest {d : Nat} {H : ZH} (ok : okZ H) {c0 Nq p c b k : Nat} (hp : p < Nq) (hkp : k = Nq - 1 - p) (hcc : c ≤ c0) (hc9 : c0 ≤ 999) (hb : b < 16) (wp : WFP (H.1 2)) (hN : H.1 2 477 = (Nq : Int)) (sr : SpR H (H.1 2) Nq c0) : EvC zX (d + 3) mX11_isBest [.ref 0, .int (zN ((p : Int))), .int (zN ((c : Int))), .int (zN ((b : Int)))] (eh H) (zPi (fun (rz : Int) (Hz : ZH) => rz = (if cOk (H.1 2) c b = true ∧ vv (H.1 2) p (zo (H.1 2) Nq k) c b = zo (H.1 2) Nq (k + 1) c then 1 else 0) ∧ Hz = H)) := by
  show _ ∧ Ev zX mX11_isBest (EvC zX (d + 2)) (zPi (fun (rz : Int) (Hz : ZH) => rz = (if cOk (H.1 2) c b = true ∧ vv (H.1 2) p (zo (H.1 2) Nq k) c b = zo (H.1 2) Nq (k + 1) c then 1 else 0) ∧ Hz = H)) 0 [(0, .ref 0), (1, .int (zN ((p : Int)))), (2, .int (zN ((c : Int)))), (3, .int (zN ((b : Int))))] [] (eh H)
  refine ⟨Nat.le_of_ble_eq_true rfl, ?_⟩
  have n12 := wp.1
  have mb := mcost_bd wp b 4 (by omega)
  have mlb := mleft_bd wp (p := p) (by omega) b 4 (by omega)
  have g0 := sr p c (by omega) hcc
  unfold gdC at g0
  rw [show Nq - p = k + 1 by omega] at g0
  have z9 := zo_9 wp hN (k := k + 1) (c := c) (by omega) (by omega)
  refine x_aload_n (pc := 0) dX11_isBest_0 (List.Mem.head _) ?_
  refine x_iload_n (pc := 1) dX11_isBest_1 (List.Mem.tail _ (List.Mem.tail _ (List.Mem.tail _ (List.Mem.head _)))) ?_
  refine z_callVip (pc := 2) (i := mX11_costOf) (S := []) [.int (zN ((b : Int)))] dX11_isBest_2 ml_X11_347 ok_X11_costOf rfl sh_0 rfl (Or.inl rfl) (Nat.le_of_ble_eq_true rfl) (c_X11_costOf (d := d + 1) (b := b) (hb := (by omega)) (ok := ok) (wp := wp)) (fun r1a r1b ok2 => ?_)
  refine x_iload_n (pc := 5) dX11_isBest_5 (List.Mem.tail _ (List.Mem.tail _ (List.Mem.head _))) ?_
  refine z_icmp_le (pc := 6) (tgt := 11) dX11_isBest_6 (by decide) (by omega) (by omega) (by omega) (by omega) (fun hb3 => ?_) (fun hb3 => ?_)
  · skip
    have g1 := sr (p + 1) (c - (mcost (H.1 2) b 4).toNat) (by omega) (by omega)
    unfold gdC at g1
    rw [show Nq - (p + 1) = k by omega] at g1
    have ev : vv (H.1 2) p (zo (H.1 2) Nq k) c b = mleft (H.1 2) p b 4 * 1000 + mcost (H.1 2) b 4 + zo (H.1 2) Nq k (c - (mcost (H.1 2) b 4).toNat) := rfl
    have cok : cOk (H.1 2) c b = true := decide_eq_true (by omega)
    have z8 := zo_9 wp hN (k := k) (c := c - (mcost (H.1 2) b 4).toNat) (by omega) (by omega)
    refine x_iload_n (pc := 11) dX11_isBest_11 (List.Mem.tail _ (List.Mem.head _)) ?_
    refine z_iconst (pc := 12) dX11_isBest_12 ?_
    refine z_iadd (pc := 13) dX11_isBest_13 ?_
    refine z_sipush (pc := 14) dX11_isBest_14 sp_1000 ?_
    refine z_imul (pc := 17) dX11_isBest_17 ?_
    refine x_iload_n (pc := 18) dX11_isBest_18 (List.Mem.tail _ (List.Mem.tail _ (List.Mem.head _))) ?_
    refine z_iadd (pc := 19) dX11_isBest_19 ?_
    refine x_aload_n (pc := 20) dX11_isBest_20 (List.Mem.head _) ?_
    refine x_iload_n (pc := 21) dX11_isBest_21 (List.Mem.tail _ (List.Mem.tail _ (List.Mem.tail _ (List.Mem.head _)))) ?_
    refine z_callVip (pc := 22) (i := mX11_costOf) (S := [.int (zN (((((p : Int) + 1) * 1000) + (c : Int))))]) [.int (zN ((b : Int)))] dX11_isBest_22 ml_X11_347 ok_X11_costOf rfl sh_0 rfl (Or.inl rfl) (Nat.le_of_ble_eq_true rfl) (c_X11_costOf (d := d + 1) (b := b) (hb := (by omega)) (ok := ok2) (wp := wp)) (fun r4a r4b ok5 => ?_)
    refine z_isub (pc := 25) dX11_isBest_25 ?_
    refine x_istore (pc := 26) dX11_isBest_26 (Nat.le_of_ble_eq_true rfl) ?_
    show Ev _ _ _ _ _ [(4, .int (zN ((((((p : Int) + 1) * 1000) + (c : Int)) - (mcost (H.1 2) b 4))))), (0, .ref 0), (1, .int (zN ((p : Int)))), (2, .int (zN ((c : Int)))), (3, .int (zN ((b : Int))))] _ _
    refine x_aload_n (pc := 28) dX11_isBest_28 (List.Mem.tail _ (List.Mem.head _)) ?_
    refine x_iload_n (pc := 29) dX11_isBest_29 (List.Mem.tail _ (List.Mem.tail _ (List.Mem.head _))) ?_
    refine x_iload_n (pc := 30) dX11_isBest_30 (List.Mem.tail _ (List.Mem.tail _ (List.Mem.tail _ (List.Mem.tail _ (List.Mem.head _))))) ?_
    refine z_callVip (pc := 31) (i := mX11_leftOf) (S := []) [.int (zN ((p : Int))), .int (zN ((b : Int)))] dX11_isBest_31 ml_X11_350 ok_X11_leftOf rfl sh_0 rfl (Or.inl rfl) (Nat.le_of_ble_eq_true rfl) (c_X11_leftOf (d := d) (p := p) (b := b) (hp := (by omega)) (hb := (by omega)) (ok := ok5) (wp := wp)) (fun r6a r6b ok7 => ?_)
    refine x_aload_n (pc := 34) dX11_isBest_34 (List.Mem.tail _ (List.Mem.head _)) ?_
    refine z_getR (pc := 35) (k := 30) (r := 14) dX11_isBest_35 lf_X11_64 sh_0 rfl rf_0_30 ?_
    refine x_iload (pc := 38) dX11_isBest_38 (List.Mem.head _) ?_
    have rd8 := ok7.1 14 ((p + 1) * 1000 + (c - (mcost (H.1 2) b 4).toNat))
    refine z_iald (pc := 40) (j := ((p + 1) * 1000 + (c - (mcost (H.1 2) b 4).toNat))) (v := H.1 14 ((p + 1) * 1000 + (c - (mcost (H.1 2) b 4).toNat))) dX11_isBest_40 sh_14 (by omega) (by omega) (by decide) rfl ?_
    refine z_iadd (pc := 41) dX11_isBest_41 ?_
    refine x_aload_n (pc := 42) dX11_isBest_42 (List.Mem.tail _ (List.Mem.head _)) ?_
    refine z_getR (pc := 43) (k := 30) (r := 14) dX11_isBest_43 lf_X11_64 sh_0 rfl rf_0_30 ?_
    refine x_iload_n (pc := 46) dX11_isBest_46 (List.Mem.tail _ (List.Mem.tail _ (List.Mem.head _))) ?_
    refine z_sipush (pc := 47) dX11_isBest_47 sp_1000 ?_
    refine z_imul (pc := 50) dX11_isBest_50 ?_
    refine x_iload_n (pc := 51) dX11_isBest_51 (List.Mem.tail _ (List.Mem.tail _ (List.Mem.tail _ (List.Mem.head _)))) ?_
    refine z_iadd (pc := 52) dX11_isBest_52 ?_
    have rd9 := ok7.1 14 (p * 1000 + c)
    refine z_iald (pc := 53) (j := (p * 1000 + c)) (v := H.1 14 (p * 1000 + c)) dX11_isBest_53 sh_14 (by omega) (by omega) (by decide) rfl ?_
    refine z_icmp_ne (pc := 54) (tgt := 89) dX11_isBest_54 (by decide) (by omega) (by omega) (by omega) (by omega) (fun hb10 => ?_) (fun hb10 => ?_)
    · skip
      refine z_iconst (pc := 89) dX11_isBest_89 ?_
      refine z_ireturn (pc := 90) dX11_isBest_90 rfl (Or.inr ⟨rfl, by omega⟩) ok7 (by decide) (by decide) ?_
      refine ⟨?_, rfl⟩
      first | (rw [if_pos ⟨cok, by omega⟩]; done) | (rw [if_neg (fun q => cno q.1)]; done) | (rw [if_neg (fun q => by have q2 := q.2; omega)]; done)
    · skip
      refine x_aload_n (pc := 57) dX11_isBest_57 (List.Mem.tail _ (List.Mem.head _)) ?_
      refine x_iload_n (pc := 58) dX11_isBest_58 (List.Mem.tail _ (List.Mem.tail _ (List.Mem.tail _ (List.Mem.tail _ (List.Mem.head _))))) ?_
      refine z_callVip (pc := 59) (i := mX11_costOf) (S := []) [.int (zN ((b : Int)))] dX11_isBest_59 ml_X11_347 ok_X11_costOf rfl sh_0 rfl (Or.inl rfl) (Nat.le_of_ble_eq_true rfl) (c_X11_costOf (d := d + 1) (b := b) (hb := (by omega)) (ok := ok7) (wp := wp)) (fun r11a r11b ok12 => ?_)
      refine x_aload_n (pc := 62) dX11_isBest_62 (List.Mem.tail _ (List.Mem.head _)) ?_
      refine z_getR (pc := 63) (k := 31) (r := 15) dX11_isBest_63 lf_X11_67 sh_0 rfl rf_0_31 ?_
      refine x_iload (pc := 66) dX11_isBest_66 (List.Mem.head _) ?_
      have rd13 := ok12.1 15 ((p + 1) * 1000 + (c - (mcost (H.1 2) b 4).toNat))
      refine z_iald (pc := 68) (j := ((p + 1) * 1000 + (c - (mcost (H.1 2) b 4).toNat))) (v := H.1 15 ((p + 1) * 1000 + (c - (mcost (H.1 2) b 4).toNat))) dX11_isBest_68 sh_15 (by omega) (by omega) (by decide) rfl ?_
      refine z_iadd (pc := 69) dX11_isBest_69 ?_
      refine x_aload_n (pc := 70) dX11_isBest_70 (List.Mem.tail _ (List.Mem.head _)) ?_
      refine z_getR (pc := 71) (k := 31) (r := 15) dX11_isBest_71 lf_X11_67 sh_0 rfl rf_0_31 ?_
      refine x_iload_n (pc := 74) dX11_isBest_74 (List.Mem.tail _ (List.Mem.tail _ (List.Mem.head _))) ?_
      refine z_sipush (pc := 75) dX11_isBest_75 sp_1000 ?_
      refine z_imul (pc := 78) dX11_isBest_78 ?_
      refine x_iload_n (pc := 79) dX11_isBest_79 (List.Mem.tail _ (List.Mem.tail _ (List.Mem.tail _ (List.Mem.head _)))) ?_
      refine z_iadd (pc := 80) dX11_isBest_80 ?_
      have rd14 := ok12.1 15 (p * 1000 + c)
      refine z_iald (pc := 81) (j := (p * 1000 + c)) (v := H.1 15 (p * 1000 + c)) dX11_isBest_81 sh_15 (by omega) (by omega) (by decide) rfl ?_
      refine z_icmp_ne (pc := 82) (tgt := 89) dX11_isBest_82 (by decide) (by omega) (by omega) (by omega) (by omega) (fun hb15 => ?_) (fun hb15 => ?_)
      · skip
        refine z_iconst (pc := 89) dX11_isBest_89 ?_
        refine z_ireturn (pc := 90) dX11_isBest_90 rfl (Or.inr ⟨rfl, by omega⟩) ok12 (by decide) (by decide) ?_
        refine ⟨?_, rfl⟩
        first | (rw [if_pos ⟨cok, by omega⟩]; done) | (rw [if_neg (fun q => cno q.1)]; done) | (rw [if_neg (fun q => by have q2 := q.2; omega)]; done)
      · skip
        refine z_iconst (pc := 85) dX11_isBest_85 ?_
        refine x_goto (pc := 86) (tgt := 90) dX11_isBest_86 (by decide) ?_
        refine z_ireturn (pc := 90) dX11_isBest_90 rfl (Or.inr ⟨rfl, by omega⟩) ok12 (by decide) (by decide) ?_
        refine ⟨?_, rfl⟩
        first | (rw [if_pos ⟨cok, by omega⟩]; done) | (rw [if_neg (fun q => cno q.1)]; done) | (rw [if_neg (fun q => by have q2 := q.2; omega)]; done)
  · skip
    have cno : ¬ cOk (H.1 2) c b = true := fun q => by have q2 := of_decide_eq_true q; omega
    refine z_iconst (pc := 9) dX11_isBest_9 ?_
    refine z_ireturn (pc := 10) dX11_isBest_10 rfl (Or.inr ⟨rfl, by omega⟩) ok2 (by decide) (by decide) ?_
    refine ⟨?_, rfl⟩
    first | (rw [if_pos ⟨cok, by omega⟩]; done) | (rw [if_neg (fun q => cno q.1)]; done) | (rw [if_neg (fun q => by have q2 := q.2; omega)]; done)

theorem c_X11_spent {d : Nat} {H : ZH} (ok : okZ H) {c w : Int} (c1 : -2147483648 ≤ c) (c2 : c ≤ 2147483647) (w1 : -2147483648 ≤ w) (w2 : w ≤ 2147483647) (cm : cntOK H 1) (th : H.1 0 0 = 0) (wp : WFP (H.1 2)) : EvC zX (d + 4) mX11_spent [.ref 0, .int (zN (c)), .int (zN (w))] (eh H) (zPi (fun (r : Int) (H1 : ZH) => (¬ (w = -1 ∨ w = 20 ∨ (0 ≤ w ∧ w ≤ H.1 2 477 - 1)) ∧ r = -2 ∧ H1 = bumpM 0 H) ∨ ((w = -1 ∨ w = 20 ∨ (0 ≤ w ∧ w ≤ H.1 2 477 - 1)) ∧ ¬ (0 ≤ c ∧ c ≤ 999) ∧ r = -3 ∧ H1 = bumpM 1 H) ∨ ((w = -1 ∨ w = 20 ∨ (0 ≤ w ∧ w ≤ H.1 2 477 - 1)) ∧ (0 ≤ c ∧ c ≤ 999) ∧ r = SpV (H.1 2) c.toNat w ∧ FrN H H1))) := by
  show _ ∧ Ev zX mX11_spent (EvC zX (d + 3)) (zPi (fun (r : Int) (H1 : ZH) => (¬ (w = -1 ∨ w = 20 ∨ (0 ≤ w ∧ w ≤ H.1 2 477 - 1)) ∧ r = -2 ∧ H1 = bumpM 0 H) ∨ ((w = -1 ∨ w = 20 ∨ (0 ≤ w ∧ w ≤ H.1 2 477 - 1)) ∧ ¬ (0 ≤ c ∧ c ≤ 999) ∧ r = -3 ∧ H1 = bumpM 1 H) ∨ ((w = -1 ∨ w = 20 ∨ (0 ≤ w ∧ w ≤ H.1 2 477 - 1)) ∧ (0 ≤ c ∧ c ≤ 999) ∧ r = SpV (H.1 2) c.toNat w ∧ FrN H H1))) 0 [(0, .ref 0), (1, .int (zN (c))), (2, .int (zN (w)))] [] (eh H)
  refine ⟨Nat.le_of_ble_eq_true rfl, ?_⟩
  have n12 := wp.1
  obtain ⟨Nq, hN⟩ : ∃ Nq : Nat, H.1 2 477 = (Nq : Int) := ⟨(H.1 2 477).toNat, by omega⟩
  have eN : (H.1 2 477).toNat = Nq := by omega
  refine x_aload_n (pc := 0) dX11_spent_0 (List.Mem.head _) ?_
  refine z_iconst (pc := 1) dX11_spent_1 ?_
  refine z_putI (pc := 2) (k := 0) dX11_spent_2 lp_X11_1 sh_0 rfl ?_
  have ok1 := okI ok 0 0 (v := 0) (by decide) (by decide)
  rw [wI_same th]
  refine x_iload_n (pc := 5) dX11_spent_5 (List.Mem.tail _ (List.Mem.tail _ (List.Mem.head _))) ?_
  have jn31 : (w = -1 ∨ w = 20 ∨ (0 ≤ w ∧ w ≤ H.1 2 477 - 1)) → Ev zX mX11_spent (EvC zX (d + 3)) (zPi (fun (r : Int) (H1 : ZH) => (¬ (w = -1 ∨ w = 20 ∨ (0 ≤ w ∧ w ≤ H.1 2 477 - 1)) ∧ r = -2 ∧ H1 = bumpM 0 H) ∨ ((w = -1 ∨ w = 20 ∨ (0 ≤ w ∧ w ≤ H.1 2 477 - 1)) ∧ ¬ (0 ≤ c ∧ c ≤ 999) ∧ r = -3 ∧ H1 = bumpM 1 H) ∨ ((w = -1 ∨ w = 20 ∨ (0 ≤ w ∧ w ≤ H.1 2 477 - 1)) ∧ (0 ≤ c ∧ c ≤ 999) ∧ r = SpV (H.1 2) c.toNat w ∧ FrN H H1))) 31 [(0, .ref 0), (1, .int (zN (c))), (2, .int (zN (w)))] [] (eh H) := by
    intro hw
    refine x_iload_n (pc := 31) dX11_spent_31 (List.Mem.tail _ (List.Mem.head _)) ?_
    refine z_i2l (pc := 32) dX11_spent_32 (by omega) (by omega) ?_
    refine z_lconst (pc := 33) 0 dX11_spent_33 rfl ?_
    refine z_ldc2_w (pc := 34) 999 dX11_spent_34 cl_X11_353 (by decide) ?_
    refine z_callSbp (pc := 37) (i := mX11_within) (S := []) [.long (zL (c)), .long (zL (0)), .long (zL (999))] dX11_spent_37 ml_X11_152 ok_X11_within rfl (Or.inr rfl) (Nat.le_of_ble_eq_true rfl) (c_X11_within (d := d + 2) (v := c) (lo := 0) (hi := 999) (v1 := (by omega)) (v2 := (by omega)) (lo1 := (by omega)) (lo2 := (by omega)) (hi1 := (by omega)) (hi2 := (by omega)) (ok := ok)) (fun hc4 ok3 => ?_) (fun hc4 ok3 => ?_)
    · skip
      obtain ⟨m, hm⟩ : ∃ m : Nat, c = (m : Int) := ⟨c.toNat, by omega⟩
      have hm9 : m ≤ 999 := by omega
      refine z_if_ne (pc := 40) (tgt := 50) dX11_spent_40 (by decide) (by decide) (by decide) (fun _ => ?_) (fun h => absurd h (by decide))
      refine x_aload_n (pc := 50) dX11_spent_50 (List.Mem.head _) ?_
      refine x_iload_n (pc := 51) dX11_spent_51 (List.Mem.tail _ (List.Mem.head _)) ?_
      refine z_callVv (pc := 52) (i := mX11_laysSpent) (S := []) [.int (zN (c))] dX11_spent_52 ml_X11_355 ok_X11_laysSpent rfl sh_0 rfl rfl (Nat.le_of_ble_eq_true rfl) (by have qz := c_X11_laysSpent (d := d) (c0 := m) (Nq := Nq) (hc := hm9) (ok := ok3) (wp := wp) (hN := hN); rw [show ((m : Nat) : Int) = c by omega] at qz; exact qz) ?_
      intro Hw ok7 hp8
      obtain ⟨sr, fn⟩ := hp8
      have g0 := sr 0 m (Nat.zero_le _) (Nat.le_refl _)
      unfold gdC at g0
      rw [Nat.zero_mul, Nat.zero_add, Nat.sub_zero] at g0
      have e2w : Hw.1 2 = H.1 2 := funext (fun j => fn.1 2 j (by omega) (by omega))
      have wpw : WFP (Hw.1 2) := by rw [e2w]; exact wp
      have sr2 : SpR Hw (Hw.1 2) Nq m := by rw [e2w]; exact sr
      have hN2 : Hw.1 2 477 = (Nq : Int) := by rw [e2w]; exact hN
      refine x_iload_n (pc := 55) dX11_spent_55 (List.Mem.tail _ (List.Mem.tail _ (List.Mem.head _))) ?_
      refine z_iconst (pc := 56) dX11_spent_56 ?_
      refine z_icmp_ne (pc := 57) (tgt := 67) dX11_spent_57 (by decide) (by omega) (by omega) (by decide) (by decide) (fun hb9 => ?_) (fun hb9 => ?_)
      · skip
        refine x_iload_n (pc := 67) dX11_spent_67 (List.Mem.tail _ (List.Mem.tail _ (List.Mem.head _))) ?_
        refine z_bipush (pc := 68) dX11_spent_68 bp_20 ?_
        refine z_icmp_ne (pc := 70) (tgt := 80) dX11_spent_70 (by decide) (by omega) (by omega) (by decide) (by decide) (fun hb10 => ?_) (fun hb10 => ?_)
        · skip
          refine x_iload_n (pc := 80) dX11_spent_80 (List.Mem.tail _ (List.Mem.head _)) ?_
          refine x_istore_n (pc := 81) dX11_spent_81 (Nat.le_of_ble_eq_true rfl) ?_
          show Ev _ _ _ _ _ [(3, .int (zN (c))), (0, .ref 0), (1, .int (zN (c))), (2, .int (zN (w)))] _ _
          refine z_iconst (pc := 82) dX11_spent_82 ?_
          refine x_istore (pc := 83) dX11_spent_83 (Nat.le_of_ble_eq_true rfl) ?_
          show Ev _ _ _ _ _ [(4, .int (zN (0))), (3, .int (zN (c))), (0, .ref 0), (1, .int (zN (c))), (2, .int (zN (w)))] _ _
          have lp85 : ∀ (nF : Nat) (x : Nat), ((x : Int) ≤ w) → w.toNat - x < nF → Ev zX mX11_spent (EvC zX (d + 3)) (zPi (fun (r : Int) (H1 : ZH) => (¬ (w = -1 ∨ w = 20 ∨ (0 ≤ w ∧ w ≤ H.1 2 477 - 1)) ∧ r = -2 ∧ H1 = bumpM 0 H) ∨ ((w = -1 ∨ w = 20 ∨ (0 ≤ w ∧ w ≤ H.1 2 477 - 1)) ∧ ¬ (0 ≤ c ∧ c ≤ 999) ∧ r = -3 ∧ H1 = bumpM 1 H) ∨ ((w = -1 ∨ w = 20 ∨ (0 ≤ w ∧ w ≤ H.1 2 477 - 1)) ∧ (0 ≤ c ∧ c ≤ 999) ∧ r = SpV (H.1 2) c.toNat w ∧ FrN H H1))) 85 [(0, .ref 0), (1, .int (zN (c))), (2, .int (zN (w))), (3, .int (zN (((cx (H.1 2) Nq m x : Nat) : Int)))), (4, .int (zN ((x : Int))))] [] (eh Hw) := by
            intro nF
            induction nF with
            | zero => intro x hx hm; exact absurd hm (Nat.not_lt_zero _)
            | succ nF ih85 =>
              intro x hx hm
              have hcx : cx (H.1 2) Nq m x ≤ m := cx_le (H.1 2) Nq m x
              have sl := sB_lt (H.1 2) Nq (Nq - 1 - x) (cx (H.1 2) Nq m x)
              refine z_iconst (pc := 85) dX11_spent_85 ?_
              refine x_istore (pc := 86) dX11_spent_86 (Nat.le_of_ble_eq_true rfl) ?_
              show Ev _ _ _ _ _ [(5, .int (zN (0))), (0, .ref 0), (1, .int (zN (c))), (2, .int (zN (w))), (3, .int (zN (((cx (H.1 2) Nq m x : Nat) : Int)))), (4, .int (zN ((x : Int))))] _ _
              have lp88 : ∀ (nF : Nat) (b : Nat), (b ≤ sB (H.1 2) Nq (Nq - 1 - x) (cx (H.1 2) Nq m x)) → 16 - b < nF → Ev zX mX11_spent (EvC zX (d + 3)) (zPi (fun (r : Int) (H1 : ZH) => (¬ (w = -1 ∨ w = 20 ∨ (0 ≤ w ∧ w ≤ H.1 2 477 - 1)) ∧ r = -2 ∧ H1 = bumpM 0 H) ∨ ((w = -1 ∨ w = 20 ∨ (0 ≤ w ∧ w ≤ H.1 2 477 - 1)) ∧ ¬ (0 ≤ c ∧ c ≤ 999) ∧ r = -3 ∧ H1 = bumpM 1 H) ∨ ((w = -1 ∨ w = 20 ∨ (0 ≤ w ∧ w ≤ H.1 2 477 - 1)) ∧ (0 ≤ c ∧ c ≤ 999) ∧ r = SpV (H.1 2) c.toNat w ∧ FrN H H1))) 88 [(0, .ref 0), (1, .int (zN (c))), (2, .int (zN (w))), (3, .int (zN (((cx (H.1 2) Nq m x : Nat) : Int)))), (4, .int (zN ((x : Int)))), (5, .int (zN ((b : Int))))] [] (eh Hw) := by
                intro nF
                induction nF with
                | zero => intro b hb hm; exact absurd hm (Nat.not_lt_zero _)
                | succ nF ih88 =>
                  intro b hb hm
                  refine x_aload_n (pc := 88) dX11_spent_88 (List.Mem.head _) ?_
                  refine x_iload (pc := 89) dX11_spent_89 (List.Mem.tail _ (List.Mem.tail _ (List.Mem.tail _ (List.Mem.tail _ (List.Mem.head _))))) ?_
                  refine x_iload_n (pc := 91) dX11_spent_91 (List.Mem.tail _ (List.Mem.tail _ (List.Mem.tail _ (List.Mem.head _)))) ?_
                  refine x_iload (pc := 92) dX11_spent_92 (List.Mem.tail _ (List.Mem.tail _ (List.Mem.tail _ (List.Mem.tail _ (List.Mem.tail _ (List.Mem.head _)))))) ?_
                  refine z_callVbp (pc := 94) (i := mX11_isBest) (S := []) [.int (zN ((x : Int))), .int (zN (((cx (H.1 2) Nq m x : Nat) : Int))), .int (zN ((b : Int)))] dX11_spent_94 ml_X11_358 ok_X11_isBest rfl sh_0 rfl (Or.inr rfl) (Nat.le_of_ble_eq_true rfl) (c_X11_isBest (d := d) (c0 := m) (Nq := Nq) (p := x) (c := (cx (H.1 2) Nq m x)) (b := b) (k := (Nq - 1 - x)) (hp := (by omega)) (hkp := rfl) (hcc := hcx) (hc9 := hm9) (hb := (by omega)) (ok := ok7) (wp := wpw) (hN := hN2) (sr := sr2)) (fun hc13 ok12 => ?_) (fun hc13 ok12 => ?_)
                  · skip
                    have hc2 := hc13
                    rw [e2w] at hc2
                    have hbe : b = sB (H.1 2) Nq (Nq - 1 - x) (cx (H.1 2) Nq m x) := by
                      have bp := bs_p (v := vv (H.1 2) (Nq - 1 - (Nq - 1 - x)) (zo (H.1 2) Nq (Nq - 1 - x)) (cx (H.1 2) Nq m x)) (cOk_0 (H.1 2) (cx (H.1 2) Nq m x)) 16 (by omega)
                      by_cases z : b < sB (H.1 2) Nq (Nq - 1 - x) (cx (H.1 2) Nq m x)
                      · have y := bp.2.2.2 b z hc2.1
                        have y2 := hc2.2
                        rw [zo_s, show Nq - 1 - (Nq - 1 - x) = x by omega] at y2
                        rw [show Nq - 1 - (Nq - 1 - x) = x by omega] at y
                        unfold sB at y2
                        rw [show Nq - 1 - (Nq - 1 - x) = x by omega] at y2
                        omega
                      · omega
                    refine z_if_ne (pc := 97) (tgt := 106) dX11_spent_97 (by decide) (by decide) (by decide) (fun _ => ?_) (fun h => absurd h (by decide))
                    refine x_iload (pc := 106) dX11_spent_106 (List.Mem.tail _ (List.Mem.tail _ (List.Mem.tail _ (List.Mem.tail _ (List.Mem.head _))))) ?_
                    refine x_iload_n (pc := 108) dX11_spent_108 (List.Mem.tail _ (List.Mem.tail _ (List.Mem.head _))) ?_
                    refine z_icmp_ne (pc := 109) (tgt := 115) dX11_spent_109 (by decide) (by omega) (by omega) (by omega) (by omega) (fun hb15 => ?_) (fun hb15 => ?_)
                    · skip
                      refine x_iload_n (pc := 115) dX11_spent_115 (List.Mem.tail _ (List.Mem.tail _ (List.Mem.tail _ (List.Mem.head _)))) ?_
                      refine x_aload_n (pc := 116) dX11_spent_116 (List.Mem.head _) ?_
                      refine x_iload (pc := 117) dX11_spent_117 (List.Mem.tail _ (List.Mem.tail _ (List.Mem.tail _ (List.Mem.tail _ (List.Mem.tail _ (List.Mem.head _)))))) ?_
                      refine z_callVip (pc := 119) (i := mX11_costOf) (S := [.int (zN (((cx (H.1 2) Nq m x : Nat) : Int)))]) [.int (zN ((b : Int)))] dX11_spent_119 ml_X11_347 ok_X11_costOf rfl sh_0 rfl (Or.inl rfl) (Nat.le_of_ble_eq_true rfl) (c_X11_costOf (d := d + 2) (b := b) (hb := (by omega)) (ok := ok12) (wp := (by first | assumption | omega))) (fun r16a r16b ok17 => ?_)
                      refine z_isub (pc := 122) dX11_spent_122 ?_
                      refine x_istore_n (pc := 123) dX11_spent_123 (Nat.le_of_ble_eq_true rfl) ?_
                      show Ev _ _ _ _ _ [(3, .int (zN ((((cx (H.1 2) Nq m x : Nat) : Int) - (mcost (Hw.1 2) b 4))))), (0, .ref 0), (1, .int (zN (c))), (2, .int (zN (w))), (4, .int (zN ((x : Int)))), (5, .int (zN ((b : Int))))] _ _
                      refine z_iinc (pc := 124) dX11_spent_124 (List.Mem.tail _ (List.Mem.tail _ (List.Mem.tail _ (List.Mem.tail _ (List.Mem.head _))))) (Nat.le_of_ble_eq_true rfl) ?_
                      show Ev _ _ _ _ _ [(4, .int (zN ((x : Int) + 1))), (3, .int (zN ((((cx (H.1 2) Nq m x : Nat) : Int) - (mcost (Hw.1 2) b 4))))), (0, .ref 0), (1, .int (zN (c))), (2, .int (zN (w))), (5, .int (zN ((b : Int))))] _ _
                      refine x_goto (pc := 127) (tgt := 85) dX11_spent_127 (by decide) ?_
                      refine x_weaken (L1 := [(0, .ref 0), (1, .int (zN (c))), (2, .int (zN (w))), (3, .int (zN (((cx (H.1 2) Nq m (x + 1) : Nat) : Int)))), (4, .int (zN ((((x + 1) : Nat) : Int))))]) (List.forall_mem_cons.mpr ⟨(List.Mem.tail _ (List.Mem.tail _ (List.Mem.head _))), (List.forall_mem_cons.mpr ⟨(List.Mem.tail _ (List.Mem.tail _ (List.Mem.tail _ (List.Mem.head _)))), (List.forall_mem_cons.mpr ⟨(List.Mem.tail _ (List.Mem.tail _ (List.Mem.tail _ (List.Mem.tail _ (List.Mem.head _))))), (List.forall_mem_cons.mpr ⟨(mem_ci (by show ((cx (H.1 2) Nq m x - (mcost (H.1 2) (sB (H.1 2) Nq (Nq - 1 - x) (cx (H.1 2) Nq m x)) 4).toNat : Nat) : Int) = _; rw [e2w, ← hbe]; have q := sl.2; rw [← hbe] at q; have q2 := mcost_bd wp b 4 (by omega); omega) (List.Mem.tail _ (List.Mem.head _))), (List.forall_mem_cons.mpr ⟨(mem_ci (by omega) (List.Mem.head _)), (fun _ h => absurd h List.not_mem_nil)⟩)⟩)⟩)⟩)⟩) ?_
                      exact ih85 ((x + 1)) (by omega) (by omega)
                    · skip
                      refine x_iload (pc := 112) dX11_spent_112 (List.Mem.tail _ (List.Mem.tail _ (List.Mem.tail _ (List.Mem.tail _ (List.Mem.tail _ (List.Mem.head _)))))) ?_
                      refine z_ireturn (pc := 114) dX11_spent_114 rfl (Or.inl rfl) ok12 (by omega) (by omega) ?_
                      refine Or.inr (Or.inr ⟨hw, by omega, ?_, fn⟩)
                      unfold SpV
                      rw [if_neg (by omega), if_neg (by omega), show c.toNat = m by omega, eN, show w.toNat = x by omega, ← hbe]
                  · skip
                    have hc2 := hc13
                    rw [e2w] at hc2
                    have hbn : b ≠ sB (H.1 2) Nq (Nq - 1 - x) (cx (H.1 2) Nq m x) := fun z => hc2 (by
                      rw [z]
                      refine ⟨decide_eq_true sl.2, ?_⟩
                      rw [zo_s, show Nq - 1 - (Nq - 1 - x) = x by omega])
                    refine z_if_ne (pc := 97) (tgt := 106) dX11_spent_97 (by decide) (by decide) (by decide) (fun h => absurd h (by decide)) (fun _ => ?_)
                    refine z_iinc (pc := 100) dX11_spent_100 (List.Mem.tail _ (List.Mem.tail _ (List.Mem.tail _ (List.Mem.tail _ (List.Mem.tail _ (List.Mem.head _)))))) (Nat.le_of_ble_eq_true rfl) ?_
                    show Ev _ _ _ _ _ [(5, .int (zN ((b : Int) + 1))), (0, .ref 0), (1, .int (zN (c))), (2, .int (zN (w))), (3, .int (zN (((cx (H.1 2) Nq m x : Nat) : Int)))), (4, .int (zN ((x : Int))))] _ _
                    refine x_goto (pc := 103) (tgt := 88) dX11_spent_103 (by decide) ?_
                    refine x_weaken (L1 := [(0, .ref 0), (1, .int (zN (c))), (2, .int (zN (w))), (3, .int (zN (((cx (H.1 2) Nq m x : Nat) : Int)))), (4, .int (zN ((x : Int)))), (5, .int (zN ((((b + 1) : Nat) : Int))))]) (List.forall_mem_cons.mpr ⟨(List.Mem.tail _ (List.Mem.head _)), (List.forall_mem_cons.mpr ⟨(List.Mem.tail _ (List.Mem.tail _ (List.Mem.head _))), (List.forall_mem_cons.mpr ⟨(List.Mem.tail _ (List.Mem.tail _ (List.Mem.tail _ (List.Mem.head _)))), (List.forall_mem_cons.mpr ⟨(List.Mem.tail _ (List.Mem.tail _ (List.Mem.tail _ (List.Mem.tail _ (List.Mem.head _))))), (List.forall_mem_cons.mpr ⟨(List.Mem.tail _ (List.Mem.tail _ (List.Mem.tail _ (List.Mem.tail _ (List.Mem.tail _ (List.Mem.head _)))))), (List.forall_mem_cons.mpr ⟨(mem_ci (by omega) (List.Mem.head _)), (fun _ h => absurd h List.not_mem_nil)⟩)⟩)⟩)⟩)⟩)⟩) ?_
                    exact ih88 ((b + 1)) (by omega) (by omega)
              refine x_weaken (L1 := [(0, .ref 0), (1, .int (zN (c))), (2, .int (zN (w))), (3, .int (zN (((cx (H.1 2) Nq m x : Nat) : Int)))), (4, .int (zN ((x : Int)))), (5, .int (zN (((0 : Nat) : Int))))]) (List.forall_mem_cons.mpr ⟨(List.Mem.tail _ (List.Mem.head _)), (List.forall_mem_cons.mpr ⟨(List.Mem.tail _ (List.Mem.tail _ (List.Mem.head _))), (List.forall_mem_cons.mpr ⟨(List.Mem.tail _ (List.Mem.tail _ (List.Mem.tail _ (List.Mem.head _)))), (List.forall_mem_cons.mpr ⟨(List.Mem.tail _ (List.Mem.tail _ (List.Mem.tail _ (List.Mem.tail _ (List.Mem.head _))))), (List.forall_mem_cons.mpr ⟨(List.Mem.tail _ (List.Mem.tail _ (List.Mem.tail _ (List.Mem.tail _ (List.Mem.tail _ (List.Mem.head _)))))), (List.forall_mem_cons.mpr ⟨(mem_ci (by omega) (List.Mem.head _)), (fun _ h => absurd h List.not_mem_nil)⟩)⟩)⟩)⟩)⟩)⟩) ?_
              exact lp88 (16 - 0 + 1) (0) (Nat.zero_le _) (Nat.lt_succ_self _)
          refine x_weaken (L1 := [(0, .ref 0), (1, .int (zN (c))), (2, .int (zN (w))), (3, .int (zN (((cx (H.1 2) Nq m 0 : Nat) : Int)))), (4, .int (zN (((0 : Nat) : Int))))]) (List.forall_mem_cons.mpr ⟨(List.Mem.tail _ (List.Mem.tail _ (List.Mem.head _))), (List.forall_mem_cons.mpr ⟨(List.Mem.tail _ (List.Mem.tail _ (List.Mem.tail _ (List.Mem.head _)))), (List.forall_mem_cons.mpr ⟨(List.Mem.tail _ (List.Mem.tail _ (List.Mem.tail _ (List.Mem.tail _ (List.Mem.head _))))), (List.forall_mem_cons.mpr ⟨(mem_ci (hm.symm) (List.Mem.tail _ (List.Mem.head _))), (List.forall_mem_cons.mpr ⟨(mem_ci (by omega) (List.Mem.head _)), (fun _ h => absurd h List.not_mem_nil)⟩)⟩)⟩)⟩)⟩) ?_
          exact lp85 (w.toNat - 0 + 1) (0) (by omega) (Nat.lt_succ_self _)
        · skip
          refine x_aload_n (pc := 73) dX11_spent_73 (List.Mem.head _) ?_
          refine z_getR (pc := 74) (k := 31) (r := 15) dX11_spent_74 lf_X11_67 sh_0 rfl rf_0_31 ?_
          refine x_iload_n (pc := 77) dX11_spent_77 (List.Mem.tail _ (List.Mem.head _)) ?_
          have rd19 := ok7.1 15 m
          refine z_iald (pc := 78) (j := m) (v := Hw.1 15 m) dX11_spent_78 sh_15 hm (by omega) (by decide) rfl ?_
          refine z_ireturn (pc := 79) dX11_spent_79 rfl (Or.inl rfl) ok7 (by omega) (by omega) ?_
          refine Or.inr (Or.inr ⟨hw, by omega, ?_, fn⟩)
          have z9 := zo_9 wp hN (k := Nq) (c := m) (by omega) hm9
          unfold SpV
          rw [if_neg (by omega), if_pos (by omega), show c.toNat = m by omega, eN]
          omega
      · skip
        refine x_aload_n (pc := 60) dX11_spent_60 (List.Mem.head _) ?_
        refine z_getR (pc := 61) (k := 30) (r := 14) dX11_spent_61 lf_X11_64 sh_0 rfl rf_0_30 ?_
        refine x_iload_n (pc := 64) dX11_spent_64 (List.Mem.tail _ (List.Mem.head _)) ?_
        have rd20 := ok7.1 14 m
        refine z_iald (pc := 65) (j := m) (v := Hw.1 14 m) dX11_spent_65 sh_14 hm (by omega) (by decide) rfl ?_
        refine z_ireturn (pc := 66) dX11_spent_66 rfl (Or.inl rfl) ok7 (by omega) (by omega) ?_
        refine Or.inr (Or.inr ⟨hw, by omega, ?_, fn⟩)
        have z9 := zo_9 wp hN (k := Nq) (c := m) (by omega) hm9
        unfold SpV
        rw [if_pos (by omega), show c.toNat = m by omega, eN]
        omega
    · skip
      refine z_if_ne (pc := 40) (tgt := 50) dX11_spent_40 (by decide) (by decide) (by decide) (fun h => absurd h (by decide)) (fun _ => ?_)
      refine x_aload_n (pc := 43) dX11_spent_43 (List.Mem.head _) ?_
      refine z_bipush (pc := 44) dX11_spent_44 bp_m3 ?_
      refine z_callVip (pc := 46) (i := mX11_no) (S := []) [.int (zN ((-3)))] dX11_spent_46 ml_X11_89 ok_X11_no rfl sh_0 rfl (Or.inl rfl) (Nat.le_of_ble_eq_true rfl) (c_X11_no (d := d + 2) (code := ((-3))) (code1 := (by omega)) (code2 := (by omega)) (ok := ok3) (cn := (by first | assumption | omega))) (fun r22a r22b ok23 => ?_)
      show Ev _ _ _ _ _ _ _ (eh (wI H 1 ((refIx ((-3)))) (H.1 1 (refIx ((-3))) + 1)))
      refine z_ireturn (pc := 49) dX11_spent_49 rfl (Or.inl rfl) ok23 (by omega) (by omega) ?_
      exact Or.inr (Or.inl ⟨hw, by omega, rfl, rfl⟩)
  refine z_iconst (pc := 6) dX11_spent_6 ?_
  refine z_icmp_eq (pc := 7) (tgt := 31) dX11_spent_7 (by decide) (by omega) (by omega) (by decide) (by decide) (fun hb24 => ?_) (fun hb24 => ?_)
  · skip
    refine x_weaken (L1 := [(0, .ref 0), (1, .int (zN (c))), (2, .int (zN (w)))]) (List.forall_mem_cons.mpr ⟨(List.Mem.head _), (List.forall_mem_cons.mpr ⟨(List.Mem.tail _ (List.Mem.head _)), (List.forall_mem_cons.mpr ⟨(List.Mem.tail _ (List.Mem.tail _ (List.Mem.head _))), (fun _ h => absurd h List.not_mem_nil)⟩)⟩)⟩) ?_
    exact jn31  (by omega)
  · skip
    refine x_iload_n (pc := 10) dX11_spent_10 (List.Mem.tail _ (List.Mem.tail _ (List.Mem.head _))) ?_
    refine z_bipush (pc := 11) dX11_spent_11 bp_20 ?_
    refine z_icmp_eq (pc := 13) (tgt := 31) dX11_spent_13 (by decide) (by omega) (by omega) (by decide) (by decide) (fun hb25 => ?_) (fun hb25 => ?_)
    · skip
      refine x_weaken (L1 := [(0, .ref 0), (1, .int (zN (c))), (2, .int (zN (w)))]) (List.forall_mem_cons.mpr ⟨(List.Mem.head _), (List.forall_mem_cons.mpr ⟨(List.Mem.tail _ (List.Mem.head _)), (List.forall_mem_cons.mpr ⟨(List.Mem.tail _ (List.Mem.tail _ (List.Mem.head _))), (fun _ h => absurd h List.not_mem_nil)⟩)⟩)⟩) ?_
      exact jn31  (by omega)
    · skip
      refine x_aload_n (pc := 16) dX11_spent_16 (List.Mem.head _) ?_
      refine x_iload_n (pc := 17) dX11_spent_17 (List.Mem.tail _ (List.Mem.tail _ (List.Mem.head _))) ?_
      refine z_callVbp (pc := 18) (i := mX11_isPlace) (S := []) [.int (zN (w))] dX11_spent_18 ml_X11_316 ok_X11_isPlace rfl sh_0 rfl (Or.inr rfl) (Nat.le_of_ble_eq_true rfl) (c_X11_isPlace (d := d + 1) (a := w) (a1 := (by omega)) (a2 := (by omega)) (ok := ok) (wp := (by first | assumption | omega))) (fun hc28 ok27 => ?_) (fun hc28 ok27 => ?_)
      · skip
        refine z_if_ne (pc := 21) (tgt := 31) dX11_spent_21 (by decide) (by decide) (by decide) (fun _ => ?_) (fun h => absurd h (by decide))
        refine x_weaken (L1 := [(0, .ref 0), (1, .int (zN (c))), (2, .int (zN (w)))]) (List.forall_mem_cons.mpr ⟨(List.Mem.head _), (List.forall_mem_cons.mpr ⟨(List.Mem.tail _ (List.Mem.head _)), (List.forall_mem_cons.mpr ⟨(List.Mem.tail _ (List.Mem.tail _ (List.Mem.head _))), (fun _ h => absurd h List.not_mem_nil)⟩)⟩)⟩) ?_
        exact jn31  (by omega)
      · skip
        refine z_if_ne (pc := 21) (tgt := 31) dX11_spent_21 (by decide) (by decide) (by decide) (fun h => absurd h (by decide)) (fun _ => ?_)
        refine x_aload_n (pc := 24) dX11_spent_24 (List.Mem.head _) ?_
        refine z_bipush (pc := 25) dX11_spent_25 bp_m2 ?_
        refine z_callVip (pc := 27) (i := mX11_no) (S := []) [.int (zN ((-2)))] dX11_spent_27 ml_X11_89 ok_X11_no rfl sh_0 rfl (Or.inl rfl) (Nat.le_of_ble_eq_true rfl) (c_X11_no (d := d + 2) (code := ((-2))) (code1 := (by omega)) (code2 := (by omega)) (ok := ok27) (cn := (by first | assumption | omega))) (fun r31a r31b ok32 => ?_)
        show Ev _ _ _ _ _ _ _ (eh (wI H 1 ((refIx ((-2)))) (H.1 1 (refIx ((-2))) + 1)))
        refine z_ireturn (pc := 30) dX11_spent_30 rfl (Or.inl rfl) ok32 (by omega) (by omega) ?_
        exact Or.inl ⟨by omega, rfl, rfl⟩
