/-! GROUP H6: the class's tokens. -/
/-- where a word of the class's begins -/
def cof (W : Nat) : Nat := [0, 4, 9, 14, 18, 22, 27, 32, 38, 43, 48, 53, 58, 64, 71, 78, 81, 85, 89, 92, 98, 102, 105, 110, 115, 119, 125, 131, 136, 139].getD W 0
/-- the reference's number of the class's word -/
def kwi (W : Nat) : Nat := [5, 6, 7, 8, 9, 10, 11, 12, 22, 23, 24, 4, 25, 26, 27, 28, 21, 20, 19, 0, 1, 2, 3, 13, 14, 15, 16, 17, 18].getD W 29
/-- the class's number of the reference's word -/
def cwd (k : Int) : Int := ([19, 20, 21, 22, 11, 0, 1, 2, 3, 4, 5, 6, 7, 23, 24, 25, 26, 27, 28, 18, 17, 16, 8, 9, 10, 12, 13, 14, 15] : List Int).getD k.toNat (-1)
def cch (j : Nat) : Int := ((msbyt.getD 0 []).getD j 0).toInt
theorem cof_t : ∀ W : Fin 29, cof (W + 1) = cof W + kln (kwi W) + 1 ∧ cof W + kln (kwi W) < 139 ∧ kwi W < 29 ∧ cwd (kwi W) = (W : Nat) := by decide +kernel
theorem cch_t : ∀ W : Fin 29, ∀ i : Fin 7, ((i : Nat) < kln (kwi W) → cch (cof W + i) = kch (kof (kwi W) + i)) ∧ ((i : Nat) = kln (kwi W) → cch (cof W + i) = 32) := by decide +kernel
theorem kwi_t : ∀ k : Fin 29, kwi (cwd (k : Nat)).toNat = k ∧ (cwd (k : Nat)).toNat < 29 := by decide +kernel
theorem kdis : ∀ k m : Fin 29, kln k = kln m → (∀ i : Fin 7, (i : Nat) < kln k → kch (kof k + i) = kch (kof m + i)) → k = m := by decide +kernel
theorem cwd_t : ∀ k : Fin 30, -1 ≤ ([19, 20, 21, 22, 11, 0, 1, 2, 3, 4, 5, 6, 7, 23, 24, 25, 26, 27, 28, 18, 17, 16, 8, 9, 10, 12, 13, 14, 15] : List Int).getD (k : Nat) (-1) ∧ ([19, 20, 21, 22, 11, 0, 1, 2, 3, 4, 5, 6, 7, 23, 24, 25, 26, 27, 28, 18, 17, 16, 8, 9, 10, 12, 13, 14, 15] : List Int).getD (k : Nat) (-1) ≤ 28 := by decide +kernel
theorem cof_29 : cof 29 = 139 := by decide
theorem cof_u : ∀ W : Fin 30, cof W ≤ 139 := by decide
theorem cof_le {W : Nat} (h : W ≤ 29) : cof W ≤ 139 := cof_u ⟨W, by omega⟩
theorem cof_s {W : Nat} (h : W < 29) : cof (W + 1) = cof W + kln (kwi W) + 1 ∧ cof W + kln (kwi W) < 139 ∧ kwi W < 29 ∧ cwd (kwi W) = (W : Nat) := cof_t ⟨W, h⟩
theorem cch_s {W i : Nat} (h : W < 29) (hi : i ≤ kln (kwi W)) : (i < kln (kwi W) ∧ cch (cof W + i) = kch (kof (kwi W) + i)) ∨ (i = kln (kwi W) ∧ cch (cof W + i) = 32) := by
  have cs := cof_s h
  have ks := kof_s cs.2.2.1
  have ct := cch_t ⟨W, h⟩ ⟨i, by omega⟩
  rcases Nat.lt_or_ge i (kln (kwi W)) with z | z
  · exact Or.inl ⟨z, ct.1 z⟩
  · exact Or.inr ⟨by omega, ct.2 (show i = kln (kwi W) by omega)⟩
theorem km_uq {T : Nat → Int} {a e k m : Nat} (hk : k < 29) (hm : m < 29) (h1 : kmB T a e k = true) (h2 : kmB T a e m = true) : k = m := by
  have y1 := of_decide_eq_true h1
  have y2 := of_decide_eq_true h2
  have z := kdis ⟨k, hk⟩ ⟨m, hm⟩ (y1.1.trans y2.1.symm) (fun i hi => (y1.2 i hi).symm.trans (y2.2 i (by have u1 := y1.1; have u2 := y2.1; have u3 : (i : Nat) < kln k := hi; omega)))
  exact congrArg Fin.val z
theorem kwF_is {T : Nat → Int} {a e W : Nat} (hW : W < 29) (h : kmB T a e (kwi W) = true) : cwd (kwF T a e) = (W : Nat) := by
  have cs := cof_s hW
  have hl := lea_is (h := kmB T a e) (n := 29) cs.2.2.1 h (fun d hd => by
    cases hq : kmB T a e d with
    | false => rfl
    | true => exact absurd (km_uq (by omega) cs.2.2.1 hq h) (by omega))
  unfold kwF
  rw [hl, if_neg (by omega)]
  exact cs.2.2.2
theorem kwF_no {T : Nat → Int} {a e : Nat} (h : ∀ W, W < 29 → kmB T a e (kwi W) = false) : cwd (kwF T a e) = -1 := by
  have hl := lea_no (h := kmB T a e) (n := 29) (fun k hk => by
    have z := kwi_t ⟨k, hk⟩
    have y := h _ z.2
    rw [z.1] at y
    exact y)
  unfold kwF
  rw [if_pos hl]
  decide
/-- the class's tape holds the first n of T, as bytes -/
def TpC (H : ZH) (T : Nat → Int) (n : Nat) : Prop := ∀ k, k < n → (0 ≤ T k ∧ T k ≤ 255) ∧ (T k < 128 → H.1 21 k = T k) ∧ (128 ≤ T k → H.1 21 k = T k - 256)
theorem TpC_c {H H1 : ZH} {T : Nat → Int} {n : Nat} (h : H1.1 21 = H.1 21) (ht : TpC H T n) : TpC H1 T n := fun k hk => by rw [h]; exact ht k hk
def ctK (K : Int) : Int := if K = 34 then 0 else if K = 35 then 1 else if K ≤ 29 then 2 else if K = 30 then 3 else 4
def ctV (K v : Int) : Int := if K ≤ 29 then cwd K else if K = 30 then v else if K = 31 then 59 else if K = 32 then 40 else if K = 33 then 41 else 0
/-- the class reads at p -/
def ClS (H : ZH) (T : Nat → Int) (n p : Nat) : Prop := p ≤ n ∧ H.1 28 4 = ((21 : Nat) : Int) ∧ H.1 28 5 = (n : Int) ∧ TpC H T n ∧ H.1 28 8 = (tkA T n p : Int) ∧ H.1 28 6 = (tkE T n p : Int) ∧ H.1 28 7 = ctK (tkK T n p) ∧ (tkK T n p ≠ 35 → H.1 28 9 = ctV (tkK T n p) (tkN T n p)) ∧ H.1 28 2 = 0 ∧ H.1 28 3 = -1
def FcC (H H1 : ZH) : Prop := (∀ cc k, ¬ (cc = 28 ∧ (6 ≤ k ∧ k ≤ 9)) → H1.1 cc k = H.1 cc k) ∧ H1.2 = H.2
theorem FcC_rf (H : ZH) : FcC H H := ⟨fun _ _ _ => rfl, rfl⟩
theorem FcC_tr {H H1 H2 : ZH} (a : FcC H H1) (b : FcC H1 H2) : FcC H H2 := ⟨fun cc k h => (b.1 cc k h).trans (a.1 cc k h), b.2.trans a.2⟩
theorem cwd_bd {K : Int} (h : 0 ≤ K ∧ K ≤ 29) : -1 ≤ cwd K ∧ cwd K ≤ 28 := cwd_t ⟨K.toNat, by omega⟩

theorem c_X3_wordNumber {d : Nat} {H : ZH} (ok : okZ H) {T : Nat → Int} {n a e : Nat} (hae : a ≤ e) (he : e ≤ n) (hn : n ≤ 400) (y4 : H.1 28 4 = ((21 : Nat) : Int)) (h8 : H.1 28 8 = (a : Int)) (h6 : H.1 28 6 = (e : Int)) (htp : TpC H T n) : EvC zX (d + 1) mX3_wordNumber [.ref 28] (eh H) (zPi (fun (rz : Int) (Hz : ZH) => rz = (cwd (kwF T a e)) ∧ Hz = H)) := by
  show _ ∧ Ev zX mX3_wordNumber (EvC zX d) (zPi (fun (rz : Int) (Hz : ZH) => rz = (cwd (kwF T a e)) ∧ Hz = H)) 0 [(0, .ref 28)] [] (eh H)
  refine ⟨Nat.le_of_ble_eq_true rfl, ?_⟩
  refine z_iconst (pc := 0) dX3_wordNumber_0 ?_
  refine x_istore_n (pc := 1) dX3_wordNumber_1 (Nat.le_of_ble_eq_true rfl) ?_
  show Ev _ _ _ _ _ [(1, .int (zN (0))), (0, .ref 28)] _ _
  refine z_iconst (pc := 2) dX3_wordNumber_2 ?_
  refine x_istore_n (pc := 3) dX3_wordNumber_3 (Nat.le_of_ble_eq_true rfl) ?_
  show Ev _ _ _ _ _ [(2, .int (zN (0))), (1, .int (zN (0))), (0, .ref 28)] _ _
  refine z_iconst (pc := 4) dX3_wordNumber_4 ?_
  refine x_istore_n (pc := 5) dX3_wordNumber_5 (Nat.le_of_ble_eq_true rfl) ?_
  show Ev _ _ _ _ _ [(3, .int (zN (0))), (2, .int (zN (0))), (1, .int (zN (0))), (0, .ref 28)] _ _
  have lp6 : ∀ (nF : Nat) (W : Nat) (j : Nat) (al : Int), (W ≤ 29) → (W = 29 → j = 0) → (W < 29 → j ≤ kln (kwi W)) → ((al = (j : Int) ∧ ∀ m, m < j → a + m < e ∧ T (a + m) = kch (kof (kwi W) + m)) ∨ (al = -1 ∧ (kmB T a e (kwi W)) = false)) → (j ≤ 6) → (∀ m, m < W → kmB T a e (kwi m) = false) → 140 - (cof W + j) < nF → Ev zX mX3_wordNumber (EvC zX d) (zPi (fun (rz : Int) (Hz : ZH) => rz = (cwd (kwF T a e)) ∧ Hz = H)) 6 [(0, .ref 28), (1, .int (zN ((W : Int)))), (2, .int (zN (al))), (3, .int (zN (((cof W + j : Nat) : Int))))] [] (eh H) := by
    intro nF
    induction nF with
    | zero => intro W j al hW hW9 hj hal hj6 hno hm; exact absurd hm (Nat.not_lt_zero _)
    | succ nF ih6 =>
      intro W j al hW hW9 hj hal hj6 hno hm
      have c29 := cof_29
      have cob := cof_le hW
      have hW29 : cof W + j < 139 → W < 29 := fun q => by
        rcases Nat.lt_or_ge W 29 with z | z
        · exact z
        · have e9 : W = 29 := by omega
          rw [e9, c29] at q
          omega
      refine x_iload_n (pc := 6) dX3_wordNumber_6 (List.Mem.tail _ (List.Mem.tail _ (List.Mem.tail _ (List.Mem.head _)))) ?_
      refine x_ldcS (pc := 7) (k := 0) dX3_wordNumber_7 (Or.inl ⟨rfl, rfl, rfl⟩) ?_
      refine z_slen (pc := 9) (k := 0) dX3_wordNumber_9 ml_X3_163 (by decide) (Nat.le_of_ble_eq_true rfl) ?_
      show Ev _ _ _ _ _ _ (.int (zN 139) :: _) _
      refine z_icmp_ge (pc := 12) (tgt := 112) dX3_wordNumber_12 (by decide) (by omega) (by omega) (by decide) (by decide) (fun hb1 => ?_) (fun hb1 => ?_)
      · skip
        refine z_iconst (pc := 112) dX3_wordNumber_112 ?_
        refine z_ireturn (pc := 113) dX3_wordNumber_113 rfl (Or.inl rfl) ok (by decide) (by decide) ?_
        have e9 : W = 29 := by
          rcases Nat.lt_or_ge W 29 with z | z
          · have y := cof_s z
            have y2 := hj z
            omega
          · omega
        exact ⟨(kwF_no (fun m hm => hno m (by omega))).symm, rfl⟩
      · skip
        have hW30 := hW29 (by omega)
        have cs := cof_s hW30
        have hj2 := hj hW30
        have cc := cch_s hW30 hj2
        unfold cch at cc
        have kc := kch_s cs.2.2.1 hj2
        have ks := kof_s cs.2.2.1
        refine x_ldcS (pc := 15) (k := 0) dX3_wordNumber_15 (Or.inl ⟨rfl, rfl, rfl⟩) ?_
        refine x_iload_n (pc := 17) dX3_wordNumber_17 (List.Mem.tail _ (List.Mem.tail _ (List.Mem.tail _ (List.Mem.head _)))) ?_
        refine z_schar (pc := 18) (k := 0) (j := (cof W + j)) dX3_wordNumber_18 ml_X3_167 (by decide) (by omega) (show (cof W + j) < 139 by omega) (Nat.le_of_ble_eq_true rfl) ?_
        refine x_istore (pc := 21) dX3_wordNumber_21 (Nat.le_of_ble_eq_true rfl) ?_
        show Ev _ _ _ _ _ [(4, .int (zN (((msbyt.getD 0 []).getD (cof W + j) 0).toInt))), (0, .ref 28), (1, .int (zN ((W : Int)))), (2, .int (zN (al))), (3, .int (zN (((cof W + j : Nat) : Int))))] _ _
        refine x_iload (pc := 23) dX3_wordNumber_23 (List.Mem.head _) ?_
        refine z_bipush (pc := 25) dX3_wordNumber_25 bp_32 ?_
        refine z_icmp_eq (pc := 27) (tgt := 86) dX3_wordNumber_27 (by decide) (by omega) (by omega) (by decide) (by decide) (fun hb2 => ?_) (fun hb2 => ?_)
        · skip
          have hjk : j = kln (kwi W) := by omega
          refine x_iload_n (pc := 86) dX3_wordNumber_86 (List.Mem.tail _ (List.Mem.tail _ (List.Mem.tail _ (List.Mem.head _)))) ?_
          refine x_aload_n (pc := 87) dX3_wordNumber_87 (List.Mem.tail _ (List.Mem.head _)) ?_
          refine z_getI (pc := 88) (k := 6) (v := (e : Int)) dX3_wordNumber_88 lf_X3_89 sh_28 rfl (by rw [h6]) ?_
          refine x_aload_n (pc := 91) dX3_wordNumber_91 (List.Mem.tail _ (List.Mem.head _)) ?_
          refine z_getI (pc := 92) (k := 8) (v := (a : Int)) dX3_wordNumber_92 lf_X3_155 sh_28 rfl (by rw [h8]) ?_
          refine z_isub (pc := 95) dX3_wordNumber_95 ?_
          refine z_icmp_ne (pc := 96) (tgt := 101) dX3_wordNumber_96 (by decide) (by omega) (by omega) (by omega) (by omega) (fun hb3 => ?_) (fun hb3 => ?_)
          · skip
            have hnm : (kmB T a e (kwi W)) = false := by
              rcases hal with z | z
              · exact kmB_len (by have := z.1; omega)
              · exact z.2
            refine z_iinc (pc := 101) dX3_wordNumber_101 (List.Mem.tail _ (List.Mem.tail _ (List.Mem.head _))) (Nat.le_of_ble_eq_true rfl) ?_
            show Ev _ _ _ _ _ [(1, .int (zN ((W : Int) + 1))), (4, .int (zN (((msbyt.getD 0 []).getD (cof W + j) 0).toInt))), (0, .ref 28), (2, .int (zN (al))), (3, .int (zN (((cof W + j : Nat) : Int))))] _ _
            refine z_iconst (pc := 104) dX3_wordNumber_104 ?_
            refine x_istore_n (pc := 105) dX3_wordNumber_105 (Nat.le_of_ble_eq_true rfl) ?_
            show Ev _ _ _ _ _ [(2, .int (zN (0))), (1, .int (zN ((W : Int) + 1))), (4, .int (zN (((msbyt.getD 0 []).getD (cof W + j) 0).toInt))), (0, .ref 28), (3, .int (zN (((cof W + j : Nat) : Int))))] _ _
            refine z_iinc (pc := 106) dX3_wordNumber_106 (List.Mem.tail _ (List.Mem.tail _ (List.Mem.tail _ (List.Mem.tail _ (List.Mem.head _))))) (Nat.le_of_ble_eq_true rfl) ?_
            show Ev _ _ _ _ _ [(3, .int (zN (((cof W + j : Nat) : Int) + 1))), (2, .int (zN (0))), (1, .int (zN ((W : Int) + 1))), (4, .int (zN (((msbyt.getD 0 []).getD (cof W + j) 0).toInt))), (0, .ref 28)] _ _
            refine x_goto (pc := 109) (tgt := 6) dX3_wordNumber_109 (by decide) ?_
            refine x_weaken (L1 := [(0, .ref 28), (1, .int (zN ((((W + 1) : Nat) : Int)))), (2, .int (zN (0))), (3, .int (zN (((cof (W + 1) + 0 : Nat) : Int))))]) (List.forall_mem_cons.mpr ⟨(List.Mem.tail _ (List.Mem.tail _ (List.Mem.tail _ (List.Mem.tail _ (List.Mem.head _))))), (List.forall_mem_cons.mpr ⟨(mem_ci (by omega) (List.Mem.tail _ (List.Mem.tail _ (List.Mem.head _)))), (List.forall_mem_cons.mpr ⟨(List.Mem.tail _ (List.Mem.head _)), (List.forall_mem_cons.mpr ⟨(mem_ci (by omega) (List.Mem.head _)), (fun _ h => absurd h List.not_mem_nil)⟩)⟩)⟩)⟩) ?_
            exact ih6 ((W + 1)) (0) (0) (by omega) (by omega) (by omega) (by first | exact Or.inl ⟨rfl, fun m hm => absurd hm (Nat.not_lt_zero _)⟩ | exact Or.inr ⟨rfl, hn1⟩ | exact Or.inl ⟨by omega, fun m hm => if z : m = j then (by rw [z]; exact heq) else hall m (by omega)⟩) (by omega) (by first | exact hno | exact fun m hm => if z : m = W then (by rw [z]; exact hnm) else hno m (by omega)) (by omega)
          · skip
            refine x_iload_n (pc := 99) dX3_wordNumber_99 (List.Mem.tail _ (List.Mem.tail _ (List.Mem.head _))) ?_
            refine z_ireturn (pc := 100) dX3_wordNumber_100 rfl (Or.inl rfl) ok (by omega) (by omega) ?_
            obtain ⟨hal1, hall⟩ := hal.resolve_right (fun z => by have := z.1; omega)
            have hy : kmB T a e (kwi W) = true := decide_eq_true ⟨by omega, fun m hm => (hall m (by omega)).2⟩
            exact ⟨(kwF_is hW30 hy).symm, rfl⟩
        · skip
          have hjk : j < kln (kwi W) := by omega
          refine x_iload_n (pc := 30) dX3_wordNumber_30 (List.Mem.tail _ (List.Mem.tail _ (List.Mem.tail _ (List.Mem.head _)))) ?_
          refine z_if_lt (pc := 31) (tgt := 67) dX3_wordNumber_31 (by decide) (by omega) (by omega) (fun hb4 => ?_) (fun hb4 => ?_)
          · skip
            have hn1 : (kmB T a e (kwi W)) = false := (hal.resolve_left (fun z => by have := z.1; omega)).2
            refine z_iconst (pc := 67) dX3_wordNumber_67 ?_
            refine x_istore (pc := 68) dX3_wordNumber_68 (Nat.le_of_ble_eq_true rfl) ?_
            show Ev _ _ _ _ _ [(5, .int (zN (0))), (4, .int (zN (((msbyt.getD 0 []).getD (cof W + j) 0).toInt))), (0, .ref 28), (1, .int (zN ((W : Int)))), (2, .int (zN (al))), (3, .int (zN (((cof W + j : Nat) : Int))))] _ _
            refine x_iload (pc := 70) dX3_wordNumber_70 (List.Mem.head _) ?_
            refine z_if_eq (pc := 72) (tgt := 81) dX3_wordNumber_72 (by decide) (by decide) (by decide) (fun _ => ?_) (fun h => absurd h (by decide))
            refine z_iconst (pc := 81) dX3_wordNumber_81 ?_
            refine x_istore_n (pc := 82) dX3_wordNumber_82 (Nat.le_of_ble_eq_true rfl) ?_
            show Ev _ _ _ _ _ [(2, .int (zN ((-1)))), (5, .int (zN (0))), (4, .int (zN (((msbyt.getD 0 []).getD (cof W + j) 0).toInt))), (0, .ref 28), (1, .int (zN ((W : Int)))), (3, .int (zN (((cof W + j : Nat) : Int))))] _ _
            refine x_goto (pc := 83) (tgt := 106) dX3_wordNumber_83 (by decide) ?_
            refine z_iinc (pc := 106) dX3_wordNumber_106 (List.Mem.tail _ (List.Mem.tail _ (List.Mem.tail _ (List.Mem.tail _ (List.Mem.tail _ (List.Mem.head _)))))) (Nat.le_of_ble_eq_true rfl) ?_
            show Ev _ _ _ _ _ [(3, .int (zN (((cof W + j : Nat) : Int) + 1))), (2, .int (zN ((-1)))), (5, .int (zN (0))), (4, .int (zN (((msbyt.getD 0 []).getD (cof W + j) 0).toInt))), (0, .ref 28), (1, .int (zN ((W : Int))))] _ _
            refine x_goto (pc := 109) (tgt := 6) dX3_wordNumber_109 (by decide) ?_
            refine x_weaken (L1 := [(0, .ref 28), (1, .int (zN (((W : Nat) : Int)))), (2, .int (zN ((-1)))), (3, .int (zN (((cof W + (j + 1) : Nat) : Int))))]) (List.forall_mem_cons.mpr ⟨(List.Mem.tail _ (List.Mem.tail _ (List.Mem.tail _ (List.Mem.tail _ (List.Mem.head _))))), (List.forall_mem_cons.mpr ⟨(mem_ci (by omega) (List.Mem.tail _ (List.Mem.tail _ (List.Mem.tail _ (List.Mem.tail _ (List.Mem.tail _ (List.Mem.head _))))))), (List.forall_mem_cons.mpr ⟨(List.Mem.tail _ (List.Mem.head _)), (List.forall_mem_cons.mpr ⟨(mem_ci (by omega) (List.Mem.head _)), (fun _ h => absurd h List.not_mem_nil)⟩)⟩)⟩)⟩) ?_
            exact ih6 (W) ((j + 1)) ((-1)) (by omega) (by omega) (by omega) (by first | exact Or.inl ⟨rfl, fun m hm => absurd hm (Nat.not_lt_zero _)⟩ | exact Or.inr ⟨rfl, hn1⟩ | exact Or.inl ⟨by omega, fun m hm => if z : m = j then (by rw [z]; exact heq) else hall m (by omega)⟩) (by omega) (by first | exact hno | exact fun m hm => if z : m = W then (by rw [z]; exact hnm) else hno m (by omega)) (by omega)
          · skip
            obtain ⟨hal1, hall⟩ := hal.resolve_right (fun z => by have := z.1; omega)
            refine x_aload_n (pc := 34) dX3_wordNumber_34 (List.Mem.tail _ (List.Mem.head _)) ?_
            refine z_getI (pc := 35) (k := 8) (v := (a : Int)) dX3_wordNumber_35 lf_X3_155 sh_28 rfl (by rw [h8]) ?_
            refine x_iload_n (pc := 38) dX3_wordNumber_38 (List.Mem.tail _ (List.Mem.tail _ (List.Mem.tail _ (List.Mem.head _)))) ?_
            refine z_iadd (pc := 39) dX3_wordNumber_39 ?_
            refine x_aload_n (pc := 40) dX3_wordNumber_40 (List.Mem.tail _ (List.Mem.head _)) ?_
            refine z_getI (pc := 41) (k := 6) (v := (e : Int)) dX3_wordNumber_41 lf_X3_89 sh_28 rfl (by rw [h6]) ?_
            refine z_icmp_ge (pc := 44) (tgt := 67) dX3_wordNumber_44 (by decide) (by omega) (by omega) (by omega) (by omega) (fun hb6 => ?_) (fun hb6 => ?_)
            · skip
              have hn1 : (kmB T a e (kwi W)) = false := kmB_no ⟨hjk, Or.inr (by omega)⟩
              refine z_iconst (pc := 67) dX3_wordNumber_67 ?_
              refine x_istore (pc := 68) dX3_wordNumber_68 (Nat.le_of_ble_eq_true rfl) ?_
              show Ev _ _ _ _ _ [(5, .int (zN (0))), (4, .int (zN (((msbyt.getD 0 []).getD (cof W + j) 0).toInt))), (0, .ref 28), (1, .int (zN ((W : Int)))), (2, .int (zN (al))), (3, .int (zN (((cof W + j : Nat) : Int))))] _ _
              refine x_iload (pc := 70) dX3_wordNumber_70 (List.Mem.head _) ?_
              refine z_if_eq (pc := 72) (tgt := 81) dX3_wordNumber_72 (by decide) (by decide) (by decide) (fun _ => ?_) (fun h => absurd h (by decide))
              refine z_iconst (pc := 81) dX3_wordNumber_81 ?_
              refine x_istore_n (pc := 82) dX3_wordNumber_82 (Nat.le_of_ble_eq_true rfl) ?_
              show Ev _ _ _ _ _ [(2, .int (zN ((-1)))), (5, .int (zN (0))), (4, .int (zN (((msbyt.getD 0 []).getD (cof W + j) 0).toInt))), (0, .ref 28), (1, .int (zN ((W : Int)))), (3, .int (zN (((cof W + j : Nat) : Int))))] _ _
              refine x_goto (pc := 83) (tgt := 106) dX3_wordNumber_83 (by decide) ?_
              refine z_iinc (pc := 106) dX3_wordNumber_106 (List.Mem.tail _ (List.Mem.tail _ (List.Mem.tail _ (List.Mem.tail _ (List.Mem.tail _ (List.Mem.head _)))))) (Nat.le_of_ble_eq_true rfl) ?_
              show Ev _ _ _ _ _ [(3, .int (zN (((cof W + j : Nat) : Int) + 1))), (2, .int (zN ((-1)))), (5, .int (zN (0))), (4, .int (zN (((msbyt.getD 0 []).getD (cof W + j) 0).toInt))), (0, .ref 28), (1, .int (zN ((W : Int))))] _ _
              refine x_goto (pc := 109) (tgt := 6) dX3_wordNumber_109 (by decide) ?_
              refine x_weaken (L1 := [(0, .ref 28), (1, .int (zN (((W : Nat) : Int)))), (2, .int (zN ((-1)))), (3, .int (zN (((cof W + (j + 1) : Nat) : Int))))]) (List.forall_mem_cons.mpr ⟨(List.Mem.tail _ (List.Mem.tail _ (List.Mem.tail _ (List.Mem.tail _ (List.Mem.head _))))), (List.forall_mem_cons.mpr ⟨(mem_ci (by omega) (List.Mem.tail _ (List.Mem.tail _ (List.Mem.tail _ (List.Mem.tail _ (List.Mem.tail _ (List.Mem.head _))))))), (List.forall_mem_cons.mpr ⟨(List.Mem.tail _ (List.Mem.head _)), (List.forall_mem_cons.mpr ⟨(mem_ci (by omega) (List.Mem.head _)), (fun _ h => absurd h List.not_mem_nil)⟩)⟩)⟩)⟩) ?_
              exact ih6 (W) ((j + 1)) ((-1)) (by omega) (by omega) (by omega) (by first | exact Or.inl ⟨rfl, fun m hm => absurd hm (Nat.not_lt_zero _)⟩ | exact Or.inr ⟨rfl, hn1⟩ | exact Or.inl ⟨by omega, fun m hm => if z : m = j then (by rw [z]; exact heq) else hall m (by omega)⟩) (by omega) (by first | exact hno | exact fun m hm => if z : m = W then (by rw [z]; exact hnm) else hno m (by omega)) (by omega)
            · skip
              have tp := htp (a + j) (by omega)
              refine x_aload_n (pc := 47) dX3_wordNumber_47 (List.Mem.tail _ (List.Mem.head _)) ?_
              refine z_getY (pc := 48) (k := 4) (r := 21) dX3_wordNumber_48 lf_X3_29 sh_28 rfl (by rw [y4]) (by omega) ?_
              refine x_aload_n (pc := 51) dX3_wordNumber_51 (List.Mem.tail _ (List.Mem.head _)) ?_
              refine z_getI (pc := 52) (k := 8) (v := (a : Int)) dX3_wordNumber_52 lf_X3_155 sh_28 rfl (by rw [h8]) ?_
              refine x_iload_n (pc := 55) dX3_wordNumber_55 (List.Mem.tail _ (List.Mem.tail _ (List.Mem.tail _ (List.Mem.head _)))) ?_
              refine z_iadd (pc := 56) dX3_wordNumber_56 ?_
              have rd8 := ok.1 21 (a + j)
              refine z_bald (pc := 57) (j := a + j) (v := H.1 21 (a + j)) dX3_wordNumber_57 sh_21 (by omega) (by omega) (by decide) rfl ?_
              refine x_iload (pc := 58) dX3_wordNumber_58 (List.Mem.head _) ?_
              refine z_icmp_ne (pc := 60) (tgt := 67) dX3_wordNumber_60 (by decide) (by omega) (by omega) (by omega) (by omega) (fun hb9 => ?_) (fun hb9 => ?_)
              · skip
                have hn1 : (kmB T a e (kwi W)) = false := kmB_no ⟨hjk, Or.inl ⟨by omega, by omega⟩⟩
                refine z_iconst (pc := 67) dX3_wordNumber_67 ?_
                refine x_istore (pc := 68) dX3_wordNumber_68 (Nat.le_of_ble_eq_true rfl) ?_
                show Ev _ _ _ _ _ [(5, .int (zN (0))), (4, .int (zN (((msbyt.getD 0 []).getD (cof W + j) 0).toInt))), (0, .ref 28), (1, .int (zN ((W : Int)))), (2, .int (zN (al))), (3, .int (zN (((cof W + j : Nat) : Int))))] _ _
                refine x_iload (pc := 70) dX3_wordNumber_70 (List.Mem.head _) ?_
                refine z_if_eq (pc := 72) (tgt := 81) dX3_wordNumber_72 (by decide) (by decide) (by decide) (fun _ => ?_) (fun h => absurd h (by decide))
                refine z_iconst (pc := 81) dX3_wordNumber_81 ?_
                refine x_istore_n (pc := 82) dX3_wordNumber_82 (Nat.le_of_ble_eq_true rfl) ?_
                show Ev _ _ _ _ _ [(2, .int (zN ((-1)))), (5, .int (zN (0))), (4, .int (zN (((msbyt.getD 0 []).getD (cof W + j) 0).toInt))), (0, .ref 28), (1, .int (zN ((W : Int)))), (3, .int (zN (((cof W + j : Nat) : Int))))] _ _
                refine x_goto (pc := 83) (tgt := 106) dX3_wordNumber_83 (by decide) ?_
                refine z_iinc (pc := 106) dX3_wordNumber_106 (List.Mem.tail _ (List.Mem.tail _ (List.Mem.tail _ (List.Mem.tail _ (List.Mem.tail _ (List.Mem.head _)))))) (Nat.le_of_ble_eq_true rfl) ?_
                show Ev _ _ _ _ _ [(3, .int (zN (((cof W + j : Nat) : Int) + 1))), (2, .int (zN ((-1)))), (5, .int (zN (0))), (4, .int (zN (((msbyt.getD 0 []).getD (cof W + j) 0).toInt))), (0, .ref 28), (1, .int (zN ((W : Int))))] _ _
                refine x_goto (pc := 109) (tgt := 6) dX3_wordNumber_109 (by decide) ?_
                refine x_weaken (L1 := [(0, .ref 28), (1, .int (zN (((W : Nat) : Int)))), (2, .int (zN ((-1)))), (3, .int (zN (((cof W + (j + 1) : Nat) : Int))))]) (List.forall_mem_cons.mpr ⟨(List.Mem.tail _ (List.Mem.tail _ (List.Mem.tail _ (List.Mem.tail _ (List.Mem.head _))))), (List.forall_mem_cons.mpr ⟨(mem_ci (by omega) (List.Mem.tail _ (List.Mem.tail _ (List.Mem.tail _ (List.Mem.tail _ (List.Mem.tail _ (List.Mem.head _))))))), (List.forall_mem_cons.mpr ⟨(List.Mem.tail _ (List.Mem.head _)), (List.forall_mem_cons.mpr ⟨(mem_ci (by omega) (List.Mem.head _)), (fun _ h => absurd h List.not_mem_nil)⟩)⟩)⟩)⟩) ?_
                exact ih6 (W) ((j + 1)) ((-1)) (by omega) (by omega) (by omega) (by first | exact Or.inl ⟨rfl, fun m hm => absurd hm (Nat.not_lt_zero _)⟩ | exact Or.inr ⟨rfl, hn1⟩ | exact Or.inl ⟨by omega, fun m hm => if z : m = j then (by rw [z]; exact heq) else hall m (by omega)⟩) (by omega) (by first | exact hno | exact fun m hm => if z : m = W then (by rw [z]; exact hnm) else hno m (by omega)) (by omega)
              · skip
                have heq : a + j < e ∧ T (a + j) = kch (kof (kwi W) + j) := ⟨by omega, by omega⟩
                refine z_iconst (pc := 63) dX3_wordNumber_63 ?_
                refine x_goto (pc := 64) (tgt := 68) dX3_wordNumber_64 (by decide) ?_
                refine x_istore (pc := 68) dX3_wordNumber_68 (Nat.le_of_ble_eq_true rfl) ?_
                show Ev _ _ _ _ _ [(5, .int (zN (1))), (4, .int (zN (((msbyt.getD 0 []).getD (cof W + j) 0).toInt))), (0, .ref 28), (1, .int (zN ((W : Int)))), (2, .int (zN (al))), (3, .int (zN (((cof W + j : Nat) : Int))))] _ _
                refine x_iload (pc := 70) dX3_wordNumber_70 (List.Mem.head _) ?_
                refine z_if_eq (pc := 72) (tgt := 81) dX3_wordNumber_72 (by decide) (by decide) (by decide) (fun h => absurd h (by decide)) (fun _ => ?_)
                refine x_iload_n (pc := 75) dX3_wordNumber_75 (List.Mem.tail _ (List.Mem.tail _ (List.Mem.tail _ (List.Mem.tail _ (List.Mem.head _))))) ?_
                refine z_iconst (pc := 76) dX3_wordNumber_76 ?_
                refine z_iadd (pc := 77) dX3_wordNumber_77 ?_
                refine x_goto (pc := 78) (tgt := 82) dX3_wordNumber_78 (by decide) ?_
                refine x_istore_n (pc := 82) dX3_wordNumber_82 (Nat.le_of_ble_eq_true rfl) ?_
                show Ev _ _ _ _ _ [(2, .int (zN ((al + 1)))), (5, .int (zN (1))), (4, .int (zN (((msbyt.getD 0 []).getD (cof W + j) 0).toInt))), (0, .ref 28), (1, .int (zN ((W : Int)))), (3, .int (zN (((cof W + j : Nat) : Int))))] _ _
                refine x_goto (pc := 83) (tgt := 106) dX3_wordNumber_83 (by decide) ?_
                refine z_iinc (pc := 106) dX3_wordNumber_106 (List.Mem.tail _ (List.Mem.tail _ (List.Mem.tail _ (List.Mem.tail _ (List.Mem.tail _ (List.Mem.head _)))))) (Nat.le_of_ble_eq_true rfl) ?_
                show Ev _ _ _ _ _ [(3, .int (zN (((cof W + j : Nat) : Int) + 1))), (2, .int (zN ((al + 1)))), (5, .int (zN (1))), (4, .int (zN (((msbyt.getD 0 []).getD (cof W + j) 0).toInt))), (0, .ref 28), (1, .int (zN ((W : Int))))] _ _
                refine x_goto (pc := 109) (tgt := 6) dX3_wordNumber_109 (by decide) ?_
                refine x_weaken (L1 := [(0, .ref 28), (1, .int (zN (((W : Nat) : Int)))), (2, .int (zN ((al + 1)))), (3, .int (zN (((cof W + (j + 1) : Nat) : Int))))]) (List.forall_mem_cons.mpr ⟨(List.Mem.tail _ (List.Mem.tail _ (List.Mem.tail _ (List.Mem.tail _ (List.Mem.head _))))), (List.forall_mem_cons.mpr ⟨(mem_ci (by omega) (List.Mem.tail _ (List.Mem.tail _ (List.Mem.tail _ (List.Mem.tail _ (List.Mem.tail _ (List.Mem.head _))))))), (List.forall_mem_cons.mpr ⟨(List.Mem.tail _ (List.Mem.head _)), (List.forall_mem_cons.mpr ⟨(mem_ci (by omega) (List.Mem.head _)), (fun _ h => absurd h List.not_mem_nil)⟩)⟩)⟩)⟩) ?_
                exact ih6 (W) ((j + 1)) ((al + 1)) (by omega) (by omega) (by omega) (by first | exact Or.inl ⟨rfl, fun m hm => absurd hm (Nat.not_lt_zero _)⟩ | exact Or.inr ⟨rfl, hn1⟩ | exact Or.inl ⟨by omega, fun m hm => if z : m = j then (by rw [z]; exact heq) else hall m (by omega)⟩) (by omega) (by first | exact hno | exact fun m hm => if z : m = W then (by rw [z]; exact hnm) else hno m (by omega)) (by omega)
  refine x_weaken (L1 := [(0, .ref 28), (1, .int (zN (((0 : Nat) : Int)))), (2, .int (zN (0))), (3, .int (zN (((cof 0 + 0 : Nat) : Int))))]) (List.forall_mem_cons.mpr ⟨(List.Mem.tail _ (List.Mem.tail _ (List.Mem.tail _ (List.Mem.head _)))), (List.forall_mem_cons.mpr ⟨(mem_ci (by omega) (List.Mem.tail _ (List.Mem.tail _ (List.Mem.head _)))), (List.forall_mem_cons.mpr ⟨(List.Mem.tail _ (List.Mem.head _)), (List.forall_mem_cons.mpr ⟨(mem_ci (rfl) (List.Mem.head _)), (fun _ h => absurd h List.not_mem_nil)⟩)⟩)⟩)⟩) ?_
  exact lp6 (140 - (cof 0 + 0) + 1) (0) (0) (0) (by omega) (fun _ => rfl) (fun _ => Nat.zero_le _) (Or.inl ⟨rfl, fun m hm => absurd hm (Nat.not_lt_zero _)⟩) (by omega) (fun m h => absurd h (Nat.not_lt_zero _)) (Nat.lt_succ_self _)

set_option maxHeartbeats 8000000 in
theorem c_X3_advance {d : Nat} {H : ZH} (ok : okZ H) {T : Nat → Int} {n b : Nat} (hn : n ≤ 400) (hb : b ≤ n) (y4 : H.1 28 4 = ((21 : Nat) : Int)) (h5 : H.1 28 5 = (n : Int)) (h6 : H.1 28 6 = (b : Int)) (htp : TpC H T n) (g2 : H.1 28 2 = 0) (g3 : H.1 28 3 = -1) : EvC zX (d + 2) mX3_advance [.ref 28] (eh H) (zPv (fun (H1 : ZH) => ClS H1 T n b ∧ FcC H H1)) := by
  show _ ∧ Ev zX mX3_advance (EvC zX (d + 1)) (zPv (fun (H1 : ZH) => ClS H1 T n b ∧ FcC H H1)) 0 [(0, .ref 28)] [] (eh H)
  refine ⟨Nat.le_of_ble_eq_true rfl, ?_⟩
  have lp0 : ∀ (nF : Nat) (p : Nat) (Ha : ZH), okZ Ha → (p ≤ n) → (Ha.1 28 6 = (p : Int)) → (∀ cc k, ¬ (cc = 28 ∧ k = 6) → Ha.1 cc k = H.1 cc k) → (Ha.2 = H.2) → (tkA T n b = rn isW T n p) → n - p < nF → Ev zX mX3_advance (EvC zX (d + 1)) (zPv (fun (H1 : ZH) => ClS H1 T n b ∧ FcC H H1)) 0 [(0, .ref 28)] [] (eh Ha) := by
    intro nF
    induction nF with
    | zero => intro p Ha okl0 hp a6 af aJ ar hm; exact absurd hm (Nat.not_lt_zero _)
    | succ nF ih0 =>
      intro p Ha okl0 hp a6 af aJ ar hm
      have y4 : Ha.1 28 4 = ((21 : Nat) : Int) := (af 28 4 (by omega)).trans y4
      have a5 : Ha.1 28 5 = (n : Int) := (af 28 5 (by omega)).trans h5
      have y21 : Ha.1 21 = H.1 21 := funext (fun k => af 21 k (by omega))
      refine x_aload_n (pc := 0) dX3_advance_0 (List.Mem.head _) ?_
      have jn52 : (¬ (p < n ∧ isW (T p) = true)) → Ev zX mX3_advance (EvC zX (d + 1)) (zPv (fun (H1 : ZH) => ClS H1 T n b ∧ FcC H H1)) 52 [(0, .ref 28)] [] (eh Ha) := by
        intro hx
        have eA : tkA T n b = p := ar.trans (rn_e hx)
        refine x_aload_n (pc := 52) dX3_advance_52 (List.Mem.head _) ?_
        refine x_aload_n (pc := 53) dX3_advance_53 (List.Mem.head _) ?_
        refine z_getI (pc := 54) (k := 6) (v := (p : Int)) dX3_advance_54 lf_X3_89 sh_28 rfl a6 ?_
        refine z_putI (pc := 57) (k := 8) dX3_advance_57 lp_X3_155 sh_28 rfl ?_
        have ok1 := okI okl0 28 8 (v := ((p : Int))) (by omega) (by omega)
        refine x_aload_n (pc := 60) dX3_advance_60 (List.Mem.head _) ?_
        refine z_iconst (pc := 61) dX3_advance_61 ?_
        refine z_putI (pc := 62) (k := 9) dX3_advance_62 lp_X3_98 sh_28 rfl ?_
        have ok2 := okI ok1 28 9 (v := 0) (by decide) (by decide)
        obtain ⟨Hc, hHc⟩ : ∃ Hc, Hc = (wI (wI Ha 28 8 (((p : Int)))) 28 9 (0)) := ⟨_, rfl⟩
        rw [← hHc]
        have okHc : okZ Hc := by rw [hHc]; exact ok2
        have c6 : Hc.1 28 6 = (p : Int) := by rw [hHc, wI1k (by omega), wI1k (by omega)]; exact a6
        have c8 : Hc.1 28 8 = (p : Int) := by rw [hHc, wI1k (by omega), wI1]
        have c9 : Hc.1 28 9 = 0 := by rw [hHc, wI1]
        have cf : ∀ cc k, ¬ (cc = 28 ∧ (6 ≤ k ∧ k ≤ 9)) → Hc.1 cc k = H.1 cc k := fun cc k h => by rw [hHc, wIg, if_neg (by omega), wIg, if_neg (by omega)]; exact af cc k (by omega)
        have c5 : Hc.1 28 5 = (n : Int) := (cf 28 5 (by omega)).trans h5
        have cJ : Hc.2 = H.2 := by rw [hHc]; exact aJ
        have y4 : Hc.1 28 4 = ((21 : Nat) : Int) := by rw [hHc, wI1k (by omega), wI1k (by omega)]; exact y4
        have y21 : Hc.1 21 = H.1 21 := funext (fun k => cf 21 k (by omega))
        have lp65 : ∀ (nF : Nat) (e : Nat) (Hb : ZH), okZ Hb → (p ≤ e ∧ e ≤ n) → (Hb.1 28 6 = (e : Int)) → (Hb.1 28 9 = dgv T p (if e - p ≤ 3 then e - p else 3)) → (∀ j, j < e - p → 48 ≤ T (p + j) ∧ T (p + j) ≤ 57) → (∀ cc k, ¬ (cc = 28 ∧ (k = 6 ∨ k = 9)) → Hb.1 cc k = Hc.1 cc k) → (Hb.2 = H.2) → (rn isN T n p = rn isN T n e) → n - e < nF → Ev zX mX3_advance (EvC zX (d + 1)) (zPv (fun (H1 : ZH) => ClS H1 T n b ∧ FcC H H1)) 65 [(0, .ref 28)] [] (eh Hb) := by
          intro nF
          induction nF with
          | zero => intro e Hb okl65 he b6 b9 bdig bf bJ br hm; exact absurd hm (Nat.not_lt_zero _)
          | succ nF ih65 =>
            intro e Hb okl65 he b6 b9 bdig bf bJ br hm
            have y4 : Hb.1 28 4 = ((21 : Nat) : Int) := (bf 28 4 (by omega)).trans y4
            have b5 : Hb.1 28 5 = (n : Int) := (bf 28 5 (by omega)).trans c5
            have b8 : Hb.1 28 8 = (p : Int) := (bf 28 8 (by omega)).trans c8
            have y21 : Hb.1 21 = H.1 21 := (funext (fun k => bf 21 k (by omega))).trans y21
            have bfa : ∀ cc k, ¬ (cc = 28 ∧ (6 ≤ k ∧ k ≤ 9)) → Hb.1 cc k = H.1 cc k := fun cc k h => (bf cc k (by omega)).trans (cf cc k (by omega))
            have dz := dgv_bd (T := T) (a := p) (if e - p ≤ 3 then e - p else 3) (fun j hj => bdig j (by revert hj; split <;> omega)) (by split <;> omega)
            have dy : e - p < 3 → Hb.1 28 9 ≤ 99 := fun z => by have y := dz.2.2.2.1; rw [if_pos (by omega)] at y; rw [b9, if_pos (by omega)]; exact y (by omega)
            have dx : 0 ≤ Hb.1 28 9 ∧ Hb.1 28 9 ≤ 999 := by rw [b9]; exact ⟨dz.1, dz.2.2.2.2⟩
            refine x_aload_n (pc := 65) dX3_advance_65 (List.Mem.head _) ?_
            have jn161 : (¬ (e < n ∧ isN (T e) = true)) → Ev zX mX3_advance (EvC zX (d + 1)) (zPv (fun (H1 : ZH) => ClS H1 T n b ∧ FcC H H1)) 161 [(0, .ref 28)] [] (eh Hb) := by
              intro hy
              have eR : rn isN T n p = e := br.trans (rn_e hy)
              refine x_aload_n (pc := 161) dX3_advance_161 (List.Mem.head _) ?_
              refine z_getI (pc := 162) (k := 6) (v := (e : Int)) dX3_advance_162 lf_X3_89 sh_28 rfl b6 ?_
              refine x_aload_n (pc := 165) dX3_advance_165 (List.Mem.head _) ?_
              refine z_getI (pc := 166) (k := 8) (v := (p : Int)) dX3_advance_166 lf_X3_155 sh_28 rfl b8 ?_
              refine z_icmp_le (pc := 169) (tgt := 195) dX3_advance_169 (by decide) (by omega) (by omega) (by omega) (by omega) (fun hb3 => ?_) (fun hb3 => ?_)
              · skip
                have eep : e = p := by omega
                have b90 : Hb.1 28 9 = 0 := by rw [b9, eep, if_pos (by omega), show p - p = 0 by omega]; rfl
                have hy2 : ¬ (p < n ∧ isN (T p) = true) := by rw [← eep]; exact hy
                have lp195 : ∀ (nF : Nat) (g : Nat) (He : ZH), okZ He → (p ≤ g ∧ g ≤ n) → (He.1 28 6 = (g : Int)) → (∀ cc k, ¬ (cc = 28 ∧ k = 6) → He.1 cc k = Hb.1 cc k) → (He.2 = H.2) → (rn isL T n p = rn isL T n g) → (p < g → isL (T p) = true) → n - g < nF → Ev zX mX3_advance (EvC zX (d + 1)) (zPv (fun (H1 : ZH) => ClS H1 T n b ∧ FcC H H1)) 195 [(0, .ref 28)] [] (eh He) := by
                  intro nF
                  induction nF with
                  | zero => intro g He okl195 hg i6 iz iJ ir il hm; exact absurd hm (Nat.not_lt_zero _)
                  | succ nF ih195 =>
                    intro g He okl195 hg i6 iz iJ ir il hm
                    have y4 : He.1 28 4 = ((21 : Nat) : Int) := (iz 28 4 (by omega)).trans y4
                    have i5 : He.1 28 5 = (n : Int) := (iz 28 5 (by omega)).trans b5
                    have i8 : He.1 28 8 = (p : Int) := (iz 28 8 (by omega)).trans b8
                    have i9 : He.1 28 9 = 0 := (iz 28 9 (by omega)).trans b90
                    have y21 : He.1 21 = H.1 21 := (funext (fun k => iz 21 k (by omega))).trans y21
                    have ifa : ∀ cc k, ¬ (cc = 28 ∧ (6 ≤ k ∧ k ≤ 9)) → He.1 cc k = H.1 cc k := fun cc k h => (iz cc k (by omega)).trans (bfa cc k h)
                    refine x_aload_n (pc := 195) dX3_advance_195 (List.Mem.head _) ?_
                    have jn247 : (¬ (g < n ∧ isL (T g) = true)) → Ev zX mX3_advance (EvC zX (d + 1)) (zPv (fun (H1 : ZH) => ClS H1 T n b ∧ FcC H H1)) 247 [(0, .ref 28)] [] (eh He) := by
                      intro hz
                      have eL : rn isL T n p = g := ir.trans (rn_e hz)
                      have ha1 := hp
                      have tkz := tk_bd T hb
                      refine x_aload_n (pc := 247) dX3_advance_247 (List.Mem.head _) ?_
                      refine z_getI (pc := 248) (k := 6) (v := (g : Int)) dX3_advance_248 lf_X3_89 sh_28 rfl i6 ?_
                      refine x_aload_n (pc := 251) dX3_advance_251 (List.Mem.head _) ?_
                      refine z_getI (pc := 252) (k := 8) (v := (p : Int)) dX3_advance_252 lf_X3_155 sh_28 rfl i8 ?_
                      refine z_icmp_le (pc := 255) (tgt := 272) dX3_advance_255 (by decide) (by omega) (by omega) (by omega) (by omega) (fun hb4 => ?_) (fun hb4 => ?_)
                      · skip
                        have egp : g = p := by omega
                        refine x_aload_n (pc := 272) dX3_advance_272 (List.Mem.head _) ?_
                        refine z_getI (pc := 273) (k := 6) (v := (g : Int)) dX3_advance_273 lf_X3_89 sh_28 rfl i6 ?_
                        refine x_aload_n (pc := 276) dX3_advance_276 (List.Mem.head _) ?_
                        refine z_getI (pc := 277) (k := 5) (v := (n : Int)) dX3_advance_277 lf_X3_86 sh_28 rfl i5 ?_
                        refine z_icmp_lt (pc := 280) (tgt := 289) dX3_advance_280 (by decide) (by omega) (by omega) (by omega) (by omega) (fun hb5 => ?_) (fun hb5 => ?_)
                        · skip
                          have nL : ¬ isL (T p) = true := fun z => hz ⟨by omega, by rw [egp]; exact z⟩
                          have nN : ¬ isN (T p) = true := fun z => hy2 ⟨by omega, z⟩
                          have eE : tkE T n b = p + 1 := by unfold tkE; rw [eA, if_neg (by omega), if_neg nL, if_neg nN]
                          have eK : tkK T n b = (if T p = 59 then 31 else if T p = 40 then 32 else if T p = 41 then 33 else 35) := by unfold tkK; rw [eA, if_neg (by omega), if_neg nL, if_neg nN]
                          have tp := htp p (by omega)
                          have rb := ok.1 21 g
                          have egv : H.1 21 g = H.1 21 p := by rw [egp]
                          refine x_aload_n (pc := 289) dX3_advance_289 (List.Mem.head _) ?_
                          refine x_aload_n (pc := 290) dX3_advance_290 (List.Mem.head _) ?_
                          refine z_getY (pc := 291) (k := 4) (r := 21) dX3_advance_291 lf_X3_29 sh_28 rfl (by rw [y4]) (by omega) ?_
                          refine x_aload_n (pc := 294) dX3_advance_294 (List.Mem.head _) ?_
                          refine z_getI (pc := 295) (k := 6) (v := (g : Int)) dX3_advance_295 lf_X3_89 sh_28 rfl i6 ?_
                          refine z_bald (pc := 298) (j := g) (v := (H.1 21 g)) dX3_advance_298 sh_21 (by omega) (by omega) (by decide) (congrFun y21 g) ?_
                          refine z_putI (pc := 299) (k := 9) dX3_advance_299 lp_X3_98 sh_28 rfl ?_
                          have ok6 := okI okl195 28 9 (v := ((H.1 21 g))) (by omega) (by omega)
                          refine x_aload_n (pc := 302) dX3_advance_302 (List.Mem.head _) ?_
                          refine x_aload_n (pc := 303) dX3_advance_303 (List.Mem.head _) ?_
                          refine z_getI (pc := 304) (k := 9) (v := (H.1 21 g)) dX3_advance_304 lf_X3_98 sh_28 rfl (by rw [wI1]) ?_
                          refine z_bipush (pc := 307) dX3_advance_307 bp_59 ?_
                          refine z_icmp_eq (pc := 309) (tgt := 330) dX3_advance_309 (by decide) (by omega) (by omega) (by decide) (by decide) (fun hb7 => ?_) (fun hb7 => ?_)
                          · skip
                            refine z_iconst (pc := 330) dX3_advance_330 ?_
                            refine x_goto (pc := 331) (tgt := 335) dX3_advance_331 (by decide) ?_
                            refine z_putI (pc := 335) (k := 7) dX3_advance_335 lp_X3_40 sh_28 rfl ?_
                            have ok8 := okI ok6 28 7 (v := 4) (by decide) (by decide)
                            refine x_aload_n (pc := 338) dX3_advance_338 (List.Mem.head _) ?_
                            refine x_dup (pc := 339) dX3_advance_339 rfl ?_
                            refine z_getI (pc := 340) (k := 6) (v := (g : Int)) dX3_advance_340 lf_X3_89 sh_28 rfl (by rw [wI1k (by omega), wI1k (by omega)]; exact i6) ?_
                            refine z_iconst (pc := 343) dX3_advance_343 ?_
                            refine z_iadd (pc := 344) dX3_advance_344 ?_
                            refine z_putI (pc := 345) (k := 6) dX3_advance_345 lp_X3_89 sh_28 rfl ?_
                            have ok9 := okI ok8 28 6 (v := (((g : Int)) + 1)) (by omega) (by omega)
                            refine z_vreturn (pc := 348) dX3_advance_348 rfl ok9 ?_
                            refine ⟨⟨hb, ?_, ?_, TpC_c ?_ htp, ?_, ?_, ?_, fun hk => ?_, ?_, ?_⟩, fun cc k h => ?_, ?_⟩
                            · (repeat first | rw [wI1] | rw [wI1k (by omega)] | rw [wI1c (by omega)]); exact y4
                            · (repeat first | rw [wI1] | rw [wI1k (by omega)] | rw [wI1c (by omega)]); exact i5
                            · (repeat rw [wIf (by omega)]); exact y21
                            · (repeat first | rw [wI1] | rw [wI1k (by omega)] | rw [wI1c (by omega)]); rw [eA]; exact i8
                            · (repeat first | rw [wI1] | rw [wI1k (by omega)] | rw [wI1c (by omega)]); rw [eE]; rw [egp]; omega
                            · (repeat first | rw [wI1] | rw [wI1k (by omega)] | rw [wI1c (by omega)]); rw [eK]; unfold ctK; (repeat' split) <;> omega
                            · (repeat first | rw [wI1] | rw [wI1k (by omega)] | rw [wI1c (by omega)]); rw [eK] at hk ⊢; rw [egp]; unfold ctV; revert hk; (repeat' split) <;> intro hk <;> omega
                            · (repeat first | rw [wI1] | rw [wI1k (by omega)] | rw [wI1c (by omega)]); exact (ifa 28 2 (by omega)).trans g2
                            · (repeat first | rw [wI1] | rw [wI1k (by omega)] | rw [wI1c (by omega)]); exact (ifa 28 3 (by omega)).trans g3
                            · (repeat rw [wIg, if_neg (by omega)]); exact ifa cc k h
                            · exact iJ
                          · skip
                            refine x_aload_n (pc := 312) dX3_advance_312 (List.Mem.head _) ?_
                            refine z_getI (pc := 313) (k := 9) (v := (H.1 21 g)) dX3_advance_313 lf_X3_98 sh_28 rfl (by rw [wI1]) ?_
                            refine z_bipush (pc := 316) dX3_advance_316 bp_40 ?_
                            refine z_icmp_eq (pc := 318) (tgt := 330) dX3_advance_318 (by decide) (by omega) (by omega) (by decide) (by decide) (fun hb10 => ?_) (fun hb10 => ?_)
                            · skip
                              refine z_iconst (pc := 330) dX3_advance_330 ?_
                              refine x_goto (pc := 331) (tgt := 335) dX3_advance_331 (by decide) ?_
                              refine z_putI (pc := 335) (k := 7) dX3_advance_335 lp_X3_40 sh_28 rfl ?_
                              have ok11 := okI ok6 28 7 (v := 4) (by decide) (by decide)
                              refine x_aload_n (pc := 338) dX3_advance_338 (List.Mem.head _) ?_
                              refine x_dup (pc := 339) dX3_advance_339 rfl ?_
                              refine z_getI (pc := 340) (k := 6) (v := (g : Int)) dX3_advance_340 lf_X3_89 sh_28 rfl (by rw [wI1k (by omega), wI1k (by omega)]; exact i6) ?_
                              refine z_iconst (pc := 343) dX3_advance_343 ?_
                              refine z_iadd (pc := 344) dX3_advance_344 ?_
                              refine z_putI (pc := 345) (k := 6) dX3_advance_345 lp_X3_89 sh_28 rfl ?_
                              have ok12 := okI ok11 28 6 (v := (((g : Int)) + 1)) (by omega) (by omega)
                              refine z_vreturn (pc := 348) dX3_advance_348 rfl ok12 ?_
                              refine ⟨⟨hb, ?_, ?_, TpC_c ?_ htp, ?_, ?_, ?_, fun hk => ?_, ?_, ?_⟩, fun cc k h => ?_, ?_⟩
                              · (repeat first | rw [wI1] | rw [wI1k (by omega)] | rw [wI1c (by omega)]); exact y4
                              · (repeat first | rw [wI1] | rw [wI1k (by omega)] | rw [wI1c (by omega)]); exact i5
                              · (repeat rw [wIf (by omega)]); exact y21
                              · (repeat first | rw [wI1] | rw [wI1k (by omega)] | rw [wI1c (by omega)]); rw [eA]; exact i8
                              · (repeat first | rw [wI1] | rw [wI1k (by omega)] | rw [wI1c (by omega)]); rw [eE]; rw [egp]; omega
                              · (repeat first | rw [wI1] | rw [wI1k (by omega)] | rw [wI1c (by omega)]); rw [eK]; unfold ctK; (repeat' split) <;> omega
                              · (repeat first | rw [wI1] | rw [wI1k (by omega)] | rw [wI1c (by omega)]); rw [eK] at hk ⊢; rw [egp]; unfold ctV; revert hk; (repeat' split) <;> intro hk <;> omega
                              · (repeat first | rw [wI1] | rw [wI1k (by omega)] | rw [wI1c (by omega)]); exact (ifa 28 2 (by omega)).trans g2
                              · (repeat first | rw [wI1] | rw [wI1k (by omega)] | rw [wI1c (by omega)]); exact (ifa 28 3 (by omega)).trans g3
                              · (repeat rw [wIg, if_neg (by omega)]); exact ifa cc k h
                              · exact iJ
                            · skip
                              refine x_aload_n (pc := 321) dX3_advance_321 (List.Mem.head _) ?_
                              refine z_getI (pc := 322) (k := 9) (v := (H.1 21 g)) dX3_advance_322 lf_X3_98 sh_28 rfl (by rw [wI1]) ?_
                              refine z_bipush (pc := 325) dX3_advance_325 bp_41 ?_
                              refine z_icmp_ne (pc := 327) (tgt := 334) dX3_advance_327 (by decide) (by omega) (by omega) (by decide) (by decide) (fun hb13 => ?_) (fun hb13 => ?_)
                              · skip
                                refine z_iconst (pc := 334) dX3_advance_334 ?_
                                refine z_putI (pc := 335) (k := 7) dX3_advance_335 lp_X3_40 sh_28 rfl ?_
                                have ok14 := okI ok6 28 7 (v := 1) (by decide) (by decide)
                                refine x_aload_n (pc := 338) dX3_advance_338 (List.Mem.head _) ?_
                                refine x_dup (pc := 339) dX3_advance_339 rfl ?_
                                refine z_getI (pc := 340) (k := 6) (v := (g : Int)) dX3_advance_340 lf_X3_89 sh_28 rfl (by rw [wI1k (by omega), wI1k (by omega)]; exact i6) ?_
                                refine z_iconst (pc := 343) dX3_advance_343 ?_
                                refine z_iadd (pc := 344) dX3_advance_344 ?_
                                refine z_putI (pc := 345) (k := 6) dX3_advance_345 lp_X3_89 sh_28 rfl ?_
                                have ok15 := okI ok14 28 6 (v := (((g : Int)) + 1)) (by omega) (by omega)
                                refine z_vreturn (pc := 348) dX3_advance_348 rfl ok15 ?_
                                refine ⟨⟨hb, ?_, ?_, TpC_c ?_ htp, ?_, ?_, ?_, fun hk => ?_, ?_, ?_⟩, fun cc k h => ?_, ?_⟩
                                · (repeat first | rw [wI1] | rw [wI1k (by omega)] | rw [wI1c (by omega)]); exact y4
                                · (repeat first | rw [wI1] | rw [wI1k (by omega)] | rw [wI1c (by omega)]); exact i5
                                · (repeat rw [wIf (by omega)]); exact y21
                                · (repeat first | rw [wI1] | rw [wI1k (by omega)] | rw [wI1c (by omega)]); rw [eA]; exact i8
                                · (repeat first | rw [wI1] | rw [wI1k (by omega)] | rw [wI1c (by omega)]); rw [eE]; rw [egp]; omega
                                · (repeat first | rw [wI1] | rw [wI1k (by omega)] | rw [wI1c (by omega)]); rw [eK]; unfold ctK; (repeat' split) <;> omega
                                · (repeat first | rw [wI1] | rw [wI1k (by omega)] | rw [wI1c (by omega)]); rw [eK] at hk ⊢; rw [egp]; unfold ctV; revert hk; (repeat' split) <;> intro hk <;> omega
                                · (repeat first | rw [wI1] | rw [wI1k (by omega)] | rw [wI1c (by omega)]); exact (ifa 28 2 (by omega)).trans g2
                                · (repeat first | rw [wI1] | rw [wI1k (by omega)] | rw [wI1c (by omega)]); exact (ifa 28 3 (by omega)).trans g3
                                · (repeat rw [wIg, if_neg (by omega)]); exact ifa cc k h
                                · exact iJ
                              · skip
                                refine z_iconst (pc := 330) dX3_advance_330 ?_
                                refine x_goto (pc := 331) (tgt := 335) dX3_advance_331 (by decide) ?_
                                refine z_putI (pc := 335) (k := 7) dX3_advance_335 lp_X3_40 sh_28 rfl ?_
                                have ok16 := okI ok6 28 7 (v := 4) (by decide) (by decide)
                                refine x_aload_n (pc := 338) dX3_advance_338 (List.Mem.head _) ?_
                                refine x_dup (pc := 339) dX3_advance_339 rfl ?_
                                refine z_getI (pc := 340) (k := 6) (v := (g : Int)) dX3_advance_340 lf_X3_89 sh_28 rfl (by rw [wI1k (by omega), wI1k (by omega)]; exact i6) ?_
                                refine z_iconst (pc := 343) dX3_advance_343 ?_
                                refine z_iadd (pc := 344) dX3_advance_344 ?_
                                refine z_putI (pc := 345) (k := 6) dX3_advance_345 lp_X3_89 sh_28 rfl ?_
                                have ok17 := okI ok16 28 6 (v := (((g : Int)) + 1)) (by omega) (by omega)
                                refine z_vreturn (pc := 348) dX3_advance_348 rfl ok17 ?_
                                refine ⟨⟨hb, ?_, ?_, TpC_c ?_ htp, ?_, ?_, ?_, fun hk => ?_, ?_, ?_⟩, fun cc k h => ?_, ?_⟩
                                · (repeat first | rw [wI1] | rw [wI1k (by omega)] | rw [wI1c (by omega)]); exact y4
                                · (repeat first | rw [wI1] | rw [wI1k (by omega)] | rw [wI1c (by omega)]); exact i5
                                · (repeat rw [wIf (by omega)]); exact y21
                                · (repeat first | rw [wI1] | rw [wI1k (by omega)] | rw [wI1c (by omega)]); rw [eA]; exact i8
                                · (repeat first | rw [wI1] | rw [wI1k (by omega)] | rw [wI1c (by omega)]); rw [eE]; rw [egp]; omega
                                · (repeat first | rw [wI1] | rw [wI1k (by omega)] | rw [wI1c (by omega)]); rw [eK]; unfold ctK; (repeat' split) <;> omega
                                · (repeat first | rw [wI1] | rw [wI1k (by omega)] | rw [wI1c (by omega)]); rw [eK] at hk ⊢; rw [egp]; unfold ctV; revert hk; (repeat' split) <;> intro hk <;> omega
                                · (repeat first | rw [wI1] | rw [wI1k (by omega)] | rw [wI1c (by omega)]); exact (ifa 28 2 (by omega)).trans g2
                                · (repeat first | rw [wI1] | rw [wI1k (by omega)] | rw [wI1c (by omega)]); exact (ifa 28 3 (by omega)).trans g3
                                · (repeat rw [wIg, if_neg (by omega)]); exact ifa cc k h
                                · exact iJ
                        · skip
                          have eE : tkE T n b = p := by unfold tkE; rw [eA, if_pos (by omega)]
                          have eK : tkK T n b = 34 := by unfold tkK; rw [eA, if_pos (by omega)]
                          refine x_aload_n (pc := 283) dX3_advance_283 (List.Mem.head _) ?_
                          refine z_iconst (pc := 284) dX3_advance_284 ?_
                          refine z_putI (pc := 285) (k := 7) dX3_advance_285 lp_X3_40 sh_28 rfl ?_
                          have ok18 := okI okl195 28 7 (v := 0) (by decide) (by decide)
                          refine z_vreturn (pc := 288) dX3_advance_288 rfl ok18 ?_
                          refine ⟨⟨hb, ?_, ?_, TpC_c ?_ htp, ?_, ?_, ?_, fun hk => ?_, ?_, ?_⟩, fun cc k h => ?_, ?_⟩
                          · (repeat first | rw [wI1] | rw [wI1k (by omega)] | rw [wI1c (by omega)]); exact y4
                          · (repeat first | rw [wI1] | rw [wI1k (by omega)] | rw [wI1c (by omega)]); exact i5
                          · (repeat rw [wIf (by omega)]); exact y21
                          · (repeat first | rw [wI1] | rw [wI1k (by omega)] | rw [wI1c (by omega)]); rw [eA]; exact i8
                          · (repeat first | rw [wI1] | rw [wI1k (by omega)] | rw [wI1c (by omega)]); rw [eE]; rw [i6, egp]
                          · (repeat first | rw [wI1] | rw [wI1k (by omega)] | rw [wI1c (by omega)]); rw [eK]; rfl
                          · (repeat first | rw [wI1] | rw [wI1k (by omega)] | rw [wI1c (by omega)]); rw [eK, i9]; rfl
                          · (repeat first | rw [wI1] | rw [wI1k (by omega)] | rw [wI1c (by omega)]); exact (ifa 28 2 (by omega)).trans g2
                          · (repeat first | rw [wI1] | rw [wI1k (by omega)] | rw [wI1c (by omega)]); exact (ifa 28 3 (by omega)).trans g3
                          · (repeat rw [wIg, if_neg (by omega)]); exact ifa cc k h
                          · exact iJ
                      · skip
                        have ilp := il (by omega)
                        have eE : tkE T n b = g := by unfold tkE; rw [eA, if_neg (by omega), if_pos ilp]; exact eL
                        have eK : tkK T n b = kwF T p g := by unfold tkK; rw [eA, if_neg (show ¬ n ≤ p by omega), if_pos ilp, eE]
                        have kwb := kwF_bd T p g
                        have cwb : -1 ≤ cwd (kwF T p g) ∧ cwd (kwF T p g) ≤ 28 := cwd_bd kwb
                        refine x_aload_n (pc := 258) dX3_advance_258 (List.Mem.head _) ?_
                        refine z_iconst (pc := 259) dX3_advance_259 ?_
                        refine z_putI (pc := 260) (k := 7) dX3_advance_260 lp_X3_40 sh_28 rfl ?_
                        have ok19 := okI okl195 28 7 (v := 2) (by decide) (by decide)
                        refine x_aload_n (pc := 263) dX3_advance_263 (List.Mem.head _) ?_
                        refine x_aload_n (pc := 264) dX3_advance_264 (List.Mem.head _) ?_
                        refine z_callVip (pc := 265) (i := mX3_wordNumber) (S := [.ref 28]) [] dX3_advance_265 ml_X3_158 ok_X3_wordNumber rfl sh_28 rfl (Or.inl rfl) (Nat.le_of_ble_eq_true rfl) (c_X3_wordNumber (d := d) (T := T) (n := n) (a := p) (e := g) (hae := (by omega)) (he := (by omega)) (hn := hn) (ok := ok19) (y4 := (by rw [wI1k (by omega)]; exact y4)) (h8 := (by rw [wI1k (by omega)]; exact i8)) (h6 := (by rw [wI1k (by omega)]; exact i6)) (htp := (TpC_c (by rw [wIf (by omega)]; exact y21) htp))) (fun r20a r20b ok21 => ?_)
                        refine z_putI (pc := 268) (k := 9) dX3_advance_268 lp_X3_98 sh_28 rfl ?_
                        have ok22 := okI ok21 28 9 (v := (cwd (kwF T p g))) (by omega) (by omega)
                        refine z_vreturn (pc := 271) dX3_advance_271 rfl ok22 ?_
                        refine ⟨⟨hb, ?_, ?_, TpC_c ?_ htp, ?_, ?_, ?_, fun hk => ?_, ?_, ?_⟩, fun cc k h => ?_, ?_⟩
                        · (repeat first | rw [wI1] | rw [wI1k (by omega)] | rw [wI1c (by omega)]); exact y4
                        · (repeat first | rw [wI1] | rw [wI1k (by omega)] | rw [wI1c (by omega)]); exact i5
                        · (repeat rw [wIf (by omega)]); exact y21
                        · (repeat first | rw [wI1] | rw [wI1k (by omega)] | rw [wI1c (by omega)]); rw [eA]; exact i8
                        · (repeat first | rw [wI1] | rw [wI1k (by omega)] | rw [wI1c (by omega)]); rw [eE]; exact i6
                        · (repeat first | rw [wI1] | rw [wI1k (by omega)] | rw [wI1c (by omega)]); rw [eK]; unfold ctK; rw [if_neg (by omega), if_neg (by omega), if_pos (by omega)]
                        · (repeat first | rw [wI1] | rw [wI1k (by omega)] | rw [wI1c (by omega)]); rw [eK]; unfold ctV; rw [if_pos (by omega)]
                        · (repeat first | rw [wI1] | rw [wI1k (by omega)] | rw [wI1c (by omega)]); exact (ifa 28 2 (by omega)).trans g2
                        · (repeat first | rw [wI1] | rw [wI1k (by omega)] | rw [wI1c (by omega)]); exact (ifa 28 3 (by omega)).trans g3
                        · (repeat rw [wIg, if_neg (by omega)]); exact ifa cc k h
                        · exact iJ
                    refine z_getI (pc := 196) (k := 6) (v := (g : Int)) dX3_advance_196 lf_X3_89 sh_28 rfl i6 ?_
                    refine x_aload_n (pc := 199) dX3_advance_199 (List.Mem.head _) ?_
                    refine z_getI (pc := 200) (k := 5) (v := (n : Int)) dX3_advance_200 lf_X3_86 sh_28 rfl i5 ?_
                    refine z_icmp_ge (pc := 203) (tgt := 247) dX3_advance_203 (by decide) (by omega) (by omega) (by omega) (by omega) (fun hb23 => ?_) (fun hb23 => ?_)
                    · skip
                      have hz : ¬ (g < n ∧ isL (T g) = true) := fun z => by omega
                      refine x_weaken (L1 := [(0, .ref 28)]) (List.forall_mem_cons.mpr ⟨(List.Mem.head _), (fun _ h => absurd h List.not_mem_nil)⟩) ?_
                      exact jn247  (hz)
                    · skip
                      have tp := htp g (by omega)
                      have rb := ok.1 21 g
                      refine x_aload_n (pc := 206) dX3_advance_206 (List.Mem.head _) ?_
                      refine z_getY (pc := 207) (k := 4) (r := 21) dX3_advance_207 lf_X3_29 sh_28 rfl (by rw [y4]) (by omega) ?_
                      refine x_aload_n (pc := 210) dX3_advance_210 (List.Mem.head _) ?_
                      refine z_getI (pc := 211) (k := 6) (v := (g : Int)) dX3_advance_211 lf_X3_89 sh_28 rfl i6 ?_
                      refine z_bald (pc := 214) (j := g) (v := (H.1 21 g)) dX3_advance_214 sh_21 (by omega) (by omega) (by decide) (congrFun y21 g) ?_
                      refine z_bipush (pc := 215) dX3_advance_215 bp_97 ?_
                      refine z_icmp_lt (pc := 217) (tgt := 247) dX3_advance_217 (by decide) (by omega) (by omega) (by decide) (by decide) (fun hb24 => ?_) (fun hb24 => ?_)
                      · skip
                        have hz : ¬ (g < n ∧ isL (T g) = true) := fun z => by have y := of_decide_eq_true z.2; omega
                        refine x_weaken (L1 := [(0, .ref 28)]) (List.forall_mem_cons.mpr ⟨(List.Mem.head _), (fun _ h => absurd h List.not_mem_nil)⟩) ?_
                        exact jn247  (hz)
                      · skip
                        refine x_aload_n (pc := 220) dX3_advance_220 (List.Mem.head _) ?_
                        refine z_getY (pc := 221) (k := 4) (r := 21) dX3_advance_221 lf_X3_29 sh_28 rfl (by rw [y4]) (by omega) ?_
                        refine x_aload_n (pc := 224) dX3_advance_224 (List.Mem.head _) ?_
                        refine z_getI (pc := 225) (k := 6) (v := (g : Int)) dX3_advance_225 lf_X3_89 sh_28 rfl i6 ?_
                        refine z_bald (pc := 228) (j := g) (v := (H.1 21 g)) dX3_advance_228 sh_21 (by omega) (by omega) (by decide) (congrFun y21 g) ?_
                        refine z_bipush (pc := 229) dX3_advance_229 bp_122 ?_
                        refine z_icmp_gt (pc := 231) (tgt := 247) dX3_advance_231 (by decide) (by omega) (by omega) (by decide) (by decide) (fun hb25 => ?_) (fun hb25 => ?_)
                        · skip
                          have hz : ¬ (g < n ∧ isL (T g) = true) := fun z => by have y := of_decide_eq_true z.2; omega
                          refine x_weaken (L1 := [(0, .ref 28)]) (List.forall_mem_cons.mpr ⟨(List.Mem.head _), (fun _ h => absurd h List.not_mem_nil)⟩) ?_
                          exact jn247  (hz)
                        · skip
                          refine x_aload_n (pc := 234) dX3_advance_234 (List.Mem.head _) ?_
                          refine x_dup (pc := 235) dX3_advance_235 rfl ?_
                          refine z_getI (pc := 236) (k := 6) (v := (g : Int)) dX3_advance_236 lf_X3_89 sh_28 rfl i6 ?_
                          refine z_iconst (pc := 239) dX3_advance_239 ?_
                          refine z_iadd (pc := 240) dX3_advance_240 ?_
                          refine z_putI (pc := 241) (k := 6) dX3_advance_241 lp_X3_89 sh_28 rfl ?_
                          have ok26 := okI okl195 28 6 (v := (((g : Int)) + 1)) (by omega) (by omega)
                          refine x_goto (pc := 244) (tgt := 195) dX3_advance_244 (by decide) ?_
                          refine x_weaken (L1 := [(0, .ref 28)]) (List.forall_mem_cons.mpr ⟨(List.Mem.head _), (fun _ h => absurd h List.not_mem_nil)⟩) ?_
                          exact ih195 ((g + 1)) (wI He 28 6 ((((g : Int)) + 1))) ok26 (by omega) (by rw [wI1]; omega) (fun cc k h => by rw [wIg, if_neg h]; exact iz cc k h) (iJ) (ir.trans (rn_s (by omega) (decide_eq_true (by omega)))) (fun _ => if z : g = p then decide_eq_true (by rw [← z]; omega) else il (by omega)) (by omega)
                refine x_weaken (L1 := [(0, .ref 28)]) (List.forall_mem_cons.mpr ⟨(List.Mem.head _), (fun _ h => absurd h List.not_mem_nil)⟩) ?_
                exact lp195 (n - p + 1) (p) Hb okl65 (by omega) (by rw [b6]; omega) (fun _ _ _ => rfl) (bJ) (rfl) (fun z => absurd z (by omega)) (Nat.lt_succ_self _)
              · skip
                have bd0 := bdig 0 (by omega)
                rw [Nat.add_zero] at bd0
                have nW : ¬ isL (T p) = true := fun z => by have y := of_decide_eq_true z; omega
                have yN : isN (T p) = true := decide_eq_true bd0
                have eE : tkE T n b = e := by unfold tkE; rw [eA, if_neg (by omega), if_neg nW, if_pos yN]; exact eR
                have eN : tkN T n b = Hb.1 28 9 := by unfold tkN tkV; rw [eA, if_neg (by omega), if_neg nW, if_pos yN, eE]; exact b9.symm
                refine x_aload_n (pc := 172) dX3_advance_172 (List.Mem.head _) ?_
                refine x_aload_n (pc := 173) dX3_advance_173 (List.Mem.head _) ?_
                refine z_getI (pc := 174) (k := 6) (v := (e : Int)) dX3_advance_174 lf_X3_89 sh_28 rfl b6 ?_
                refine x_aload_n (pc := 177) dX3_advance_177 (List.Mem.head _) ?_
                refine z_getI (pc := 178) (k := 8) (v := (p : Int)) dX3_advance_178 lf_X3_155 sh_28 rfl b8 ?_
                refine z_isub (pc := 181) dX3_advance_181 ?_
                refine z_iconst (pc := 182) dX3_advance_182 ?_
                refine z_icmp_le (pc := 183) (tgt := 190) dX3_advance_183 (by decide) (by omega) (by omega) (by decide) (by decide) (fun hb27 => ?_) (fun hb27 => ?_)
                · skip
                  have eK : tkK T n b = 30 := by unfold tkK; rw [eA, if_neg (by omega), if_neg nW, if_pos yN, eE, if_pos (by omega)]
                  have hct : (3 : Int) = ctK (tkK T n b) := by rw [eK]; rfl
                  refine z_iconst (pc := 190) dX3_advance_190 ?_
                  refine z_putI (pc := 191) (k := 7) dX3_advance_191 lp_X3_40 sh_28 rfl ?_
                  have ok28 := okI okl65 28 7 (v := 3) (by decide) (by decide)
                  refine z_vreturn (pc := 194) dX3_advance_194 rfl ok28 ?_
                  refine ⟨⟨hb, ?_, ?_, TpC_c ?_ htp, ?_, ?_, ?_, fun hk => ?_, ?_, ?_⟩, fun cc k h => ?_, ?_⟩
                  · (repeat first | rw [wI1] | rw [wI1k (by omega)] | rw [wI1c (by omega)]); exact y4
                  · (repeat first | rw [wI1] | rw [wI1k (by omega)] | rw [wI1c (by omega)]); exact b5
                  · (repeat rw [wIf (by omega)]); exact y21
                  · (repeat first | rw [wI1] | rw [wI1k (by omega)] | rw [wI1c (by omega)]); rw [eA]; exact b8
                  · (repeat first | rw [wI1] | rw [wI1k (by omega)] | rw [wI1c (by omega)]); rw [eE]; exact b6
                  · (repeat first | rw [wI1] | rw [wI1k (by omega)] | rw [wI1c (by omega)]); exact hct
                  · (repeat first | rw [wI1] | rw [wI1k (by omega)] | rw [wI1c (by omega)]); first | (exact absurd eK hk) | (rw [eK]; exact eN.symm)
                  · (repeat first | rw [wI1] | rw [wI1k (by omega)] | rw [wI1c (by omega)]); exact (bfa 28 2 (by omega)).trans g2
                  · (repeat first | rw [wI1] | rw [wI1k (by omega)] | rw [wI1c (by omega)]); exact (bfa 28 3 (by omega)).trans g3
                  · (repeat rw [wIg, if_neg (by omega)]); exact bfa cc k h
                  · exact bJ
                · skip
                  have eK : tkK T n b = 35 := by unfold tkK; rw [eA, if_neg (by omega), if_neg nW, if_pos yN, eE, if_neg (by omega)]
                  have hct : (1 : Int) = ctK (tkK T n b) := by rw [eK]; rfl
                  refine z_iconst (pc := 186) dX3_advance_186 ?_
                  refine x_goto (pc := 187) (tgt := 191) dX3_advance_187 (by decide) ?_
                  refine z_putI (pc := 191) (k := 7) dX3_advance_191 lp_X3_40 sh_28 rfl ?_
                  have ok29 := okI okl65 28 7 (v := 1) (by decide) (by decide)
                  refine z_vreturn (pc := 194) dX3_advance_194 rfl ok29 ?_
                  refine ⟨⟨hb, ?_, ?_, TpC_c ?_ htp, ?_, ?_, ?_, fun hk => ?_, ?_, ?_⟩, fun cc k h => ?_, ?_⟩
                  · (repeat first | rw [wI1] | rw [wI1k (by omega)] | rw [wI1c (by omega)]); exact y4
                  · (repeat first | rw [wI1] | rw [wI1k (by omega)] | rw [wI1c (by omega)]); exact b5
                  · (repeat rw [wIf (by omega)]); exact y21
                  · (repeat first | rw [wI1] | rw [wI1k (by omega)] | rw [wI1c (by omega)]); rw [eA]; exact b8
                  · (repeat first | rw [wI1] | rw [wI1k (by omega)] | rw [wI1c (by omega)]); rw [eE]; exact b6
                  · (repeat first | rw [wI1] | rw [wI1k (by omega)] | rw [wI1c (by omega)]); exact hct
                  · (repeat first | rw [wI1] | rw [wI1k (by omega)] | rw [wI1c (by omega)]); first | (exact absurd eK hk) | (rw [eK]; exact eN.symm)
                  · (repeat first | rw [wI1] | rw [wI1k (by omega)] | rw [wI1c (by omega)]); exact (bfa 28 2 (by omega)).trans g2
                  · (repeat first | rw [wI1] | rw [wI1k (by omega)] | rw [wI1c (by omega)]); exact (bfa 28 3 (by omega)).trans g3
                  · (repeat rw [wIg, if_neg (by omega)]); exact bfa cc k h
                  · exact bJ
            refine z_getI (pc := 66) (k := 6) (v := (e : Int)) dX3_advance_66 lf_X3_89 sh_28 rfl b6 ?_
            refine x_aload_n (pc := 69) dX3_advance_69 (List.Mem.head _) ?_
            refine z_getI (pc := 70) (k := 5) (v := (n : Int)) dX3_advance_70 lf_X3_86 sh_28 rfl b5 ?_
            refine z_icmp_ge (pc := 73) (tgt := 161) dX3_advance_73 (by decide) (by omega) (by omega) (by omega) (by omega) (fun hb30 => ?_) (fun hb30 => ?_)
            · skip
              have hy : ¬ (e < n ∧ isN (T e) = true) := fun z => by omega
              refine x_weaken (L1 := [(0, .ref 28)]) (List.forall_mem_cons.mpr ⟨(List.Mem.head _), (fun _ h => absurd h List.not_mem_nil)⟩) ?_
              exact jn161  (hy)
            · skip
              have tp := htp e (by omega)
              have rb := ok.1 21 e
              refine x_aload_n (pc := 76) dX3_advance_76 (List.Mem.head _) ?_
              refine z_getY (pc := 77) (k := 4) (r := 21) dX3_advance_77 lf_X3_29 sh_28 rfl (by rw [y4]) (by omega) ?_
              refine x_aload_n (pc := 80) dX3_advance_80 (List.Mem.head _) ?_
              refine z_getI (pc := 81) (k := 6) (v := (e : Int)) dX3_advance_81 lf_X3_89 sh_28 rfl b6 ?_
              refine z_bald (pc := 84) (j := e) (v := (H.1 21 e)) dX3_advance_84 sh_21 (by omega) (by omega) (by decide) (congrFun y21 e) ?_
              refine z_bipush (pc := 85) dX3_advance_85 bp_48 ?_
              refine z_icmp_lt (pc := 87) (tgt := 161) dX3_advance_87 (by decide) (by omega) (by omega) (by decide) (by decide) (fun hb31 => ?_) (fun hb31 => ?_)
              · skip
                have hy : ¬ (e < n ∧ isN (T e) = true) := fun z => by have y := of_decide_eq_true z.2; omega
                refine x_weaken (L1 := [(0, .ref 28)]) (List.forall_mem_cons.mpr ⟨(List.Mem.head _), (fun _ h => absurd h List.not_mem_nil)⟩) ?_
                exact jn161  (hy)
              · skip
                refine x_aload_n (pc := 90) dX3_advance_90 (List.Mem.head _) ?_
                refine z_getY (pc := 91) (k := 4) (r := 21) dX3_advance_91 lf_X3_29 sh_28 rfl (by rw [y4]) (by omega) ?_
                refine x_aload_n (pc := 94) dX3_advance_94 (List.Mem.head _) ?_
                refine z_getI (pc := 95) (k := 6) (v := (e : Int)) dX3_advance_95 lf_X3_89 sh_28 rfl b6 ?_
                refine z_bald (pc := 98) (j := e) (v := (H.1 21 e)) dX3_advance_98 sh_21 (by omega) (by omega) (by decide) (congrFun y21 e) ?_
                refine z_bipush (pc := 99) dX3_advance_99 bp_57 ?_
                refine z_icmp_gt (pc := 101) (tgt := 161) dX3_advance_101 (by decide) (by omega) (by omega) (by decide) (by decide) (fun hb32 => ?_) (fun hb32 => ?_)
                · skip
                  have hy : ¬ (e < n ∧ isN (T e) = true) := fun z => by have y := of_decide_eq_true z.2; omega
                  refine x_weaken (L1 := [(0, .ref 28)]) (List.forall_mem_cons.mpr ⟨(List.Mem.head _), (fun _ h => absurd h List.not_mem_nil)⟩) ?_
                  exact jn161  (hy)
                · skip
                  refine x_aload_n (pc := 104) dX3_advance_104 (List.Mem.head _) ?_
                  refine x_aload_n (pc := 105) dX3_advance_105 (List.Mem.head _) ?_
                  refine z_getI (pc := 106) (k := 6) (v := (e : Int)) dX3_advance_106 lf_X3_89 sh_28 rfl b6 ?_
                  refine x_aload_n (pc := 109) dX3_advance_109 (List.Mem.head _) ?_
                  refine z_getI (pc := 110) (k := 8) (v := (p : Int)) dX3_advance_110 lf_X3_155 sh_28 rfl b8 ?_
                  refine z_isub (pc := 113) dX3_advance_113 ?_
                  refine z_iconst (pc := 114) dX3_advance_114 ?_
                  refine z_icmp_ge (pc := 115) (tgt := 141) dX3_advance_115 (by decide) (by omega) (by omega) (by decide) (by decide) (fun hb33 => ?_) (fun hb33 => ?_)
                  · skip
                    refine x_aload_n (pc := 141) dX3_advance_141 (List.Mem.head _) ?_
                    have rd34 := okl65.1 28 9
                    refine z_getI (pc := 142) (k := 9) (v := Hb.1 28 9) dX3_advance_142 lf_X3_98 sh_28 rfl rfl ?_
                    refine z_putI (pc := 145) (k := 9) dX3_advance_145 lp_X3_98 sh_28 rfl ?_
                    have ok35 := okI okl65 28 9 (v := (Hb.1 28 9)) (by omega) (by omega)
                    refine x_aload_n (pc := 148) dX3_advance_148 (List.Mem.head _) ?_
                    refine x_dup (pc := 149) dX3_advance_149 rfl ?_
                    refine z_getI (pc := 150) (k := 6) (v := (e : Int)) dX3_advance_150 lf_X3_89 sh_28 rfl (by rw [wI1k (by omega)]; exact b6) ?_
                    refine z_iconst (pc := 153) dX3_advance_153 ?_
                    refine z_iadd (pc := 154) dX3_advance_154 ?_
                    refine z_putI (pc := 155) (k := 6) dX3_advance_155 lp_X3_89 sh_28 rfl ?_
                    have ok36 := okI ok35 28 6 (v := (((e : Int)) + 1)) (by omega) (by omega)
                    refine x_goto (pc := 158) (tgt := 65) dX3_advance_158 (by decide) ?_
                    refine x_weaken (L1 := [(0, .ref 28)]) (List.forall_mem_cons.mpr ⟨(List.Mem.head _), (fun _ h => absurd h List.not_mem_nil)⟩) ?_
                    exact ih65 ((e + 1)) (wI (wI Hb 28 9 ((Hb.1 28 9))) 28 6 ((((e : Int)) + 1))) ok36 (by omega) (by rw [wI1]; omega) (by first | (rw [wI1k (by omega), wI1, if_pos (show e + 1 - p ≤ 3 by omega), show e + 1 - p = (e - p) + 1 by omega, b9, if_pos (show e - p ≤ 3 by omega)]; show _ = 10 * dgv T p (e - p) + T (p + (e - p)) - 48; rw [show p + (e - p) = e by omega]; omega) | (rw [wI1k (by omega), wI1, if_neg (show ¬ e + 1 - p ≤ 3 by omega), b9]; split <;> first | rfl | rw [show e - p = 3 by omega])) (fun j h => if z : j = e - p then (by rw [z, show p + (e - p) = e by omega]; omega) else bdig j (by omega)) (fun cc k h => by rw [wIg, if_neg (by omega), wIg, if_neg (by omega)]; exact bf cc k h) (bJ) (br.trans (rn_s (by omega) (decide_eq_true (by omega)))) (by omega)
                  · skip
                    refine x_aload_n (pc := 118) dX3_advance_118 (List.Mem.head _) ?_
                    have rd37 := okl65.1 28 9
                    refine z_getI (pc := 119) (k := 9) (v := Hb.1 28 9) dX3_advance_119 lf_X3_98 sh_28 rfl rfl ?_
                    refine z_bipush (pc := 122) dX3_advance_122 bp_10 ?_
                    refine z_imul (pc := 124) dX3_advance_124 ?_
                    refine x_aload_n (pc := 125) dX3_advance_125 (List.Mem.head _) ?_
                    refine z_getY (pc := 126) (k := 4) (r := 21) dX3_advance_126 lf_X3_29 sh_28 rfl (by rw [y4]) (by omega) ?_
                    refine x_aload_n (pc := 129) dX3_advance_129 (List.Mem.head _) ?_
                    refine z_getI (pc := 130) (k := 6) (v := (e : Int)) dX3_advance_130 lf_X3_89 sh_28 rfl b6 ?_
                    refine z_bald (pc := 133) (j := e) (v := (H.1 21 e)) dX3_advance_133 sh_21 (by omega) (by omega) (by decide) (congrFun y21 e) ?_
                    refine z_iadd (pc := 134) dX3_advance_134 ?_
                    refine z_bipush (pc := 135) dX3_advance_135 bp_48 ?_
                    refine z_isub (pc := 137) dX3_advance_137 ?_
                    refine x_goto (pc := 138) (tgt := 145) dX3_advance_138 (by decide) ?_
                    refine z_putI (pc := 145) (k := 9) dX3_advance_145 lp_X3_98 sh_28 rfl ?_
                    have ok38 := okI okl65 28 9 (v := ((((Hb.1 28 9) * 10) + ((H.1 21 e))) - 48)) (by omega) (by omega)
                    refine x_aload_n (pc := 148) dX3_advance_148 (List.Mem.head _) ?_
                    refine x_dup (pc := 149) dX3_advance_149 rfl ?_
                    refine z_getI (pc := 150) (k := 6) (v := (e : Int)) dX3_advance_150 lf_X3_89 sh_28 rfl (by rw [wI1k (by omega)]; exact b6) ?_
                    refine z_iconst (pc := 153) dX3_advance_153 ?_
                    refine z_iadd (pc := 154) dX3_advance_154 ?_
                    refine z_putI (pc := 155) (k := 6) dX3_advance_155 lp_X3_89 sh_28 rfl ?_
                    have ok39 := okI ok38 28 6 (v := (((e : Int)) + 1)) (by omega) (by omega)
                    refine x_goto (pc := 158) (tgt := 65) dX3_advance_158 (by decide) ?_
                    refine x_weaken (L1 := [(0, .ref 28)]) (List.forall_mem_cons.mpr ⟨(List.Mem.head _), (fun _ h => absurd h List.not_mem_nil)⟩) ?_
                    exact ih65 ((e + 1)) (wI (wI Hb 28 9 (((((Hb.1 28 9) * 10) + ((H.1 21 e))) - 48))) 28 6 ((((e : Int)) + 1))) ok39 (by omega) (by rw [wI1]; omega) (by first | (rw [wI1k (by omega), wI1, if_pos (show e + 1 - p ≤ 3 by omega), show e + 1 - p = (e - p) + 1 by omega, b9, if_pos (show e - p ≤ 3 by omega)]; show _ = 10 * dgv T p (e - p) + T (p + (e - p)) - 48; rw [show p + (e - p) = e by omega]; omega) | (rw [wI1k (by omega), wI1, if_neg (show ¬ e + 1 - p ≤ 3 by omega), b9]; split <;> first | rfl | rw [show e - p = 3 by omega])) (fun j h => if z : j = e - p then (by rw [z, show p + (e - p) = e by omega]; omega) else bdig j (by omega)) (fun cc k h => by rw [wIg, if_neg (by omega), wIg, if_neg (by omega)]; exact bf cc k h) (bJ) (br.trans (rn_s (by omega) (decide_eq_true (by omega)))) (by omega)
        refine x_weaken (L1 := [(0, .ref 28)]) (List.forall_mem_cons.mpr ⟨(List.Mem.head _), (fun _ h => absurd h List.not_mem_nil)⟩) ?_
        exact lp65 (n - p + 1) (p) Hc okHc (by omega) (c6) (by rw [c9, if_pos (by omega), show p - p = 0 by omega]; rfl) (fun j h => absurd h (by omega)) (fun _ _ _ => rfl) (cJ) (rfl) (Nat.lt_succ_self _)
      refine z_getI (pc := 1) (k := 6) (v := (p : Int)) dX3_advance_1 lf_X3_89 sh_28 rfl a6 ?_
      refine x_aload_n (pc := 4) dX3_advance_4 (List.Mem.head _) ?_
      refine z_getI (pc := 5) (k := 5) (v := (n : Int)) dX3_advance_5 lf_X3_86 sh_28 rfl a5 ?_
      refine z_icmp_ge (pc := 8) (tgt := 52) dX3_advance_8 (by decide) (by omega) (by omega) (by omega) (by omega) (fun hb40 => ?_) (fun hb40 => ?_)
      · skip
        have hx : ¬ (p < n ∧ isW (T p) = true) := fun z => by omega
        refine x_weaken (L1 := [(0, .ref 28)]) (List.forall_mem_cons.mpr ⟨(List.Mem.head _), (fun _ h => absurd h List.not_mem_nil)⟩) ?_
        exact jn52  (hx)
      · skip
        have tp := htp p (by omega)
        have rb := ok.1 21 p
        refine x_aload_n (pc := 11) dX3_advance_11 (List.Mem.head _) ?_
        refine z_getY (pc := 12) (k := 4) (r := 21) dX3_advance_12 lf_X3_29 sh_28 rfl (by rw [y4]) (by omega) ?_
        refine x_aload_n (pc := 15) dX3_advance_15 (List.Mem.head _) ?_
        refine z_getI (pc := 16) (k := 6) (v := (p : Int)) dX3_advance_16 lf_X3_89 sh_28 rfl a6 ?_
        refine z_bald (pc := 19) (j := p) (v := (H.1 21 p)) dX3_advance_19 sh_21 (by omega) (by omega) (by decide) (congrFun y21 p) ?_
        refine z_bipush (pc := 20) dX3_advance_20 bp_32 ?_
        refine z_icmp_eq (pc := 22) (tgt := 39) dX3_advance_22 (by decide) (by omega) (by omega) (by decide) (by decide) (fun hb41 => ?_) (fun hb41 => ?_)
        · skip
          refine x_aload_n (pc := 39) dX3_advance_39 (List.Mem.head _) ?_
          refine x_dup (pc := 40) dX3_advance_40 rfl ?_
          refine z_getI (pc := 41) (k := 6) (v := (p : Int)) dX3_advance_41 lf_X3_89 sh_28 rfl a6 ?_
          refine z_iconst (pc := 44) dX3_advance_44 ?_
          refine z_iadd (pc := 45) dX3_advance_45 ?_
          refine z_putI (pc := 46) (k := 6) dX3_advance_46 lp_X3_89 sh_28 rfl ?_
          have ok42 := okI okl0 28 6 (v := (((p : Int)) + 1)) (by omega) (by omega)
          refine x_goto (pc := 49) (tgt := 0) dX3_advance_49 (by decide) ?_
          refine x_weaken (L1 := [(0, .ref 28)]) (List.forall_mem_cons.mpr ⟨(List.Mem.head _), (fun _ h => absurd h List.not_mem_nil)⟩) ?_
          exact ih0 ((p + 1)) (wI Ha 28 6 ((((p : Int)) + 1))) ok42 (by omega) (by rw [wI1]; omega) (fun cc k h => by rw [wIg, if_neg h]; exact af cc k h) (aJ) (ar.trans (rn_s (by omega) (decide_eq_true (by omega)))) (by omega)
        · skip
          refine x_aload_n (pc := 25) dX3_advance_25 (List.Mem.head _) ?_
          refine z_getY (pc := 26) (k := 4) (r := 21) dX3_advance_26 lf_X3_29 sh_28 rfl (by rw [y4]) (by omega) ?_
          refine x_aload_n (pc := 29) dX3_advance_29 (List.Mem.head _) ?_
          refine z_getI (pc := 30) (k := 6) (v := (p : Int)) dX3_advance_30 lf_X3_89 sh_28 rfl a6 ?_
          refine z_bald (pc := 33) (j := p) (v := (H.1 21 p)) dX3_advance_33 sh_21 (by omega) (by omega) (by decide) (congrFun y21 p) ?_
          refine z_bipush (pc := 34) dX3_advance_34 bp_10 ?_
          refine z_icmp_ne (pc := 36) (tgt := 52) dX3_advance_36 (by decide) (by omega) (by omega) (by decide) (by decide) (fun hb43 => ?_) (fun hb43 => ?_)
          · skip
            have hx : ¬ (p < n ∧ isW (T p) = true) := fun z => by have y := of_decide_eq_true z.2; omega
            refine x_weaken (L1 := [(0, .ref 28)]) (List.forall_mem_cons.mpr ⟨(List.Mem.head _), (fun _ h => absurd h List.not_mem_nil)⟩) ?_
            exact jn52  (hx)
          · skip
            refine x_aload_n (pc := 39) dX3_advance_39 (List.Mem.head _) ?_
            refine x_dup (pc := 40) dX3_advance_40 rfl ?_
            refine z_getI (pc := 41) (k := 6) (v := (p : Int)) dX3_advance_41 lf_X3_89 sh_28 rfl a6 ?_
            refine z_iconst (pc := 44) dX3_advance_44 ?_
            refine z_iadd (pc := 45) dX3_advance_45 ?_
            refine z_putI (pc := 46) (k := 6) dX3_advance_46 lp_X3_89 sh_28 rfl ?_
            have ok44 := okI okl0 28 6 (v := (((p : Int)) + 1)) (by omega) (by omega)
            refine x_goto (pc := 49) (tgt := 0) dX3_advance_49 (by decide) ?_
            refine x_weaken (L1 := [(0, .ref 28)]) (List.forall_mem_cons.mpr ⟨(List.Mem.head _), (fun _ h => absurd h List.not_mem_nil)⟩) ?_
            exact ih0 ((p + 1)) (wI Ha 28 6 ((((p : Int)) + 1))) ok44 (by omega) (by rw [wI1]; omega) (fun cc k h => by rw [wIg, if_neg h]; exact af cc k h) (aJ) (ar.trans (rn_s (by omega) (decide_eq_true (by omega)))) (by omega)
  refine x_weaken (L1 := [(0, .ref 28)]) (List.forall_mem_cons.mpr ⟨(List.Mem.head _), (fun _ h => absurd h List.not_mem_nil)⟩) ?_
  exact lp0 (n - b + 1) (b) H ok (by omega) (h6) (fun _ _ _ => rfl) (rfl) (rfl) (Nat.lt_succ_self _)
