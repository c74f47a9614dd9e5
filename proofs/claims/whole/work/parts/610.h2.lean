/-! GROUP H2: the reference's words. -/
def kof (n : Nat) : Nat := [1, 7, 11, 14, 19, 24, 28, 33, 38, 42, 46, 51, 56, 62, 67, 71, 77, 83, 88, 91, 94, 98, 102, 107, 112, 117, 123, 130, 137, 140].getD n 0
def kln (n : Nat) : Nat := [5, 3, 2, 4, 4, 3, 4, 4, 3, 3, 4, 4, 5, 4, 3, 5, 5, 4, 2, 2, 3, 3, 4, 4, 4, 5, 6, 6, 2].getD n 0
def kch (j : Nat) : Int := ((msbyt.getD 1 []).getD j 0).toInt
theorem kof_t : ∀ n : Fin 29, kof (n + 1) = kof n + kln n + 1 ∧ kof n + kln n < 140 ∧ 1 ≤ kln n ∧ kln n ≤ 6 := by decide +kernel
theorem kch_t : ∀ n : Fin 29, ∀ i : Fin 7, ((i : Nat) < kln n → 97 ≤ kch (kof n + i) ∧ kch (kof n + i) ≤ 122) ∧ ((i : Nat) = kln n → kch (kof n + i) = 32) := by decide +kernel
theorem kof_s {n : Nat} (h : n < 29) : kof (n + 1) = kof n + kln n + 1 ∧ kof n + kln n < 140 ∧ 1 ≤ kln n ∧ kln n ≤ 6 := kof_t ⟨n, h⟩
theorem kch_s {n i : Nat} (h : n < 29) (hi : i ≤ kln n) : (i < kln n ∧ 97 ≤ kch (kof n + i) ∧ kch (kof n + i) ≤ 122) ∨ (i = kln n ∧ kch (kof n + i) = 32) := by
  have b := kof_s h
  have z := kch_t ⟨n, h⟩ ⟨i, by omega⟩
  by_cases q : i < kln n
  · exact Or.inl ⟨q, z.1 q⟩
  · exact Or.inr ⟨by omega, z.2 (show i = kln n by omega)⟩
theorem kof_0 : kof 0 = 1 ∧ kof 29 = 140 := by decide
/-- word n stands from a to e -/
def kmB (T : Nat → Int) (a e n : Nat) : Bool := decide (kln n = e - a ∧ ∀ j, j < kln n → T (a + j) = kch (kof n + j))
/-- which word stands there; 29: none -/
def kwF (T : Nat → Int) (a e : Nat) : Int := if lea (kmB T a e) 29 = -1 then 29 else lea (kmB T a e) 29
theorem kof_pos {n : Nat} (h : n ≤ 29) : 1 ≤ kof n ∧ kof n ≤ 140 := by
  have z : ∀ n : Fin 30, 1 ≤ kof n ∧ kof n ≤ 140 := by decide
  exact z ⟨n, by omega⟩
theorem kof_lt {n : Nat} (h : n ≤ 29) (h2 : kof n < 140) : n < 29 := by
  rcases Nat.lt_or_ge n 29 with q | q
  · exact q
  · rw [show n = 29 by omega, kof_0.2] at h2; omega
theorem kmB_no {T : Nat → Int} {a e n i : Nat} (h : i < kln n ∧ ((a + i < e ∧ T (a + i) ≠ kch (kof n + i)) ∨ ¬ a + i < e)) : kmB T a e n = false := by
  refine decide_eq_false (fun z => ?_)
  rcases h.2 with q | q
  · exact q.2 (z.2 i h.1)
  · omega
theorem kmB_len {T : Nat → Int} {a e n : Nat} (h : kln n ≠ e - a) : kmB T a e n = false := decide_eq_false (fun z => h z.1)

theorem c_X11_keyAt {d : Nat} {H : ZH} (ok : okZ H) {a e : Nat} (hae : a ≤ e) (he : e ≤ 400) (ha : H.1 0 7 = (a : Int)) (hb : H.1 0 8 = (e : Int)) : EvC zX (d + 1) mX11_keyAt [.ref 0] (eh H) (zPi (fun (rz : Int) (Hz : ZH) => rz = (kwF (H.1 4) a e) ∧ Hz = H)) := by
  show _ ∧ Ev zX mX11_keyAt (EvC zX d) (zPi (fun (rz : Int) (Hz : ZH) => rz = (kwF (H.1 4) a e) ∧ Hz = H)) 0 [(0, .ref 0)] [] (eh H)
  refine ⟨Nat.le_of_ble_eq_true rfl, ?_⟩
  refine z_iconst (pc := 0) dX11_keyAt_0 ?_
  refine x_istore_n (pc := 1) dX11_keyAt_1 (Nat.le_of_ble_eq_true rfl) ?_
  show Ev _ _ _ _ _ [(1, .int (zN (0))), (0, .ref 0)] _ _
  refine z_iconst (pc := 2) dX11_keyAt_2 ?_
  refine x_istore_n (pc := 3) dX11_keyAt_3 (Nat.le_of_ble_eq_true rfl) ?_
  show Ev _ _ _ _ _ [(2, .int (zN (1))), (1, .int (zN (0))), (0, .ref 0)] _ _
  have lp4 : ∀ (nF : Nat) (n : Nat), (n ≤ 29) → (∀ m, m < n → (kmB (H.1 4) a e) m = false) → 29 - n < nF → Ev zX mX11_keyAt (EvC zX d) (zPi (fun (rz : Int) (Hz : ZH) => rz = (kwF (H.1 4) a e) ∧ Hz = H)) 4 [(0, .ref 0), (1, .int (zN ((n : Int)))), (2, .int (zN (((kof n : Nat) : Int))))] [] (eh H) := by
    intro nF
    induction nF with
    | zero => intro n hn hno hm; exact absurd hm (Nat.not_lt_zero _)
    | succ nF ih4 =>
      intro n hn hno hm
      have kp := kof_pos hn
      refine x_iload_n (pc := 4) dX11_keyAt_4 (List.Mem.tail _ (List.Mem.tail _ (List.Mem.head _))) ?_
      refine x_ldcS (pc := 5) (k := 1) dX11_keyAt_5 (Or.inr ⟨rfl, rfl, rfl⟩) ?_
      refine z_slen (pc := 7) (k := 1) dX11_keyAt_7 ml_X11_98 (by decide) (Nat.le_of_ble_eq_true rfl) ?_
      show Ev _ _ _ _ _ _ (.int (zN 140) :: _) _
      refine z_icmp_ge (pc := 10) (tgt := 123) dX11_keyAt_10 (by decide) (by omega) (by omega) (by decide) (by decide) (fun hb1 => ?_) (fun hb1 => ?_)
      · skip
        refine z_bipush (pc := 123) dX11_keyAt_123 bp_29 ?_
        refine z_ireturn (pc := 125) dX11_keyAt_125 rfl (Or.inl rfl) ok (by decide) (by decide) ?_
        refine ⟨?_, rfl⟩
        have hn9 : 29 ≤ n := by
          rcases Nat.lt_or_ge n 29 with z | z
          · have y := kof_s z
            omega
          · exact z
        have hl := lea_no (h := kmB (H.1 4) a e) (n := 29) (fun m hm => hno m (by omega))
        unfold kwF
        rw [if_pos hl]
      · skip
        have hn29 := kof_lt hn (by omega)
        have ks := kof_s hn29
        refine z_iconst (pc := 13) dX11_keyAt_13 ?_
        refine x_istore_n (pc := 14) dX11_keyAt_14 (Nat.le_of_ble_eq_true rfl) ?_
        show Ev _ _ _ _ _ [(3, .int (zN (0))), (0, .ref 0), (1, .int (zN ((n : Int)))), (2, .int (zN (((kof n : Nat) : Int))))] _ _
        have lp15 : ∀ (nF : Nat) (i : Nat), (i ≤ kln n ∧ a + i ≤ e) → (∀ j, j < i → H.1 4 (a + j) = kch (kof n + j)) → kln n - i < nF → Ev zX mX11_keyAt (EvC zX d) (zPi (fun (rz : Int) (Hz : ZH) => rz = (kwF (H.1 4) a e) ∧ Hz = H)) 15 [(0, .ref 0), (1, .int (zN ((n : Int)))), (2, .int (zN (((kof n : Nat) : Int)))), (3, .int (zN ((i : Int))))] [] (eh H) := by
          intro nF
          induction nF with
          | zero => intro i hi hal hm; exact absurd hm (Nat.not_lt_zero _)
          | succ nF ih15 =>
            intro i hi hal hm
            have kc := kch_s hn29 hi.1
            unfold kch at kc
            refine x_ldcS (pc := 15) (k := 1) dX11_keyAt_15 (Or.inr ⟨rfl, rfl, rfl⟩) ?_
            refine x_iload_n (pc := 17) dX11_keyAt_17 (List.Mem.tail _ (List.Mem.tail _ (List.Mem.head _))) ?_
            refine x_iload_n (pc := 18) dX11_keyAt_18 (List.Mem.tail _ (List.Mem.tail _ (List.Mem.tail _ (List.Mem.head _)))) ?_
            refine z_iadd (pc := 19) dX11_keyAt_19 ?_
            refine z_schar (pc := 20) (k := 1) (j := kof n + i) dX11_keyAt_20 ml_X11_104 (by decide) (by omega) (show kof n + i < 140 by omega) (Nat.le_of_ble_eq_true rfl) ?_
            refine z_bipush (pc := 23) dX11_keyAt_23 bp_32 ?_
            refine z_icmp_eq (pc := 25) (tgt := 69) dX11_keyAt_25 (by decide) (by omega) (by omega) (by decide) (by decide) (fun hb2 => ?_) (fun hb2 => ?_)
            · skip
              have hst : i = kln n := by omega
              refine x_ldcS (pc := 69) (k := 1) dX11_keyAt_69 (Or.inr ⟨rfl, rfl, rfl⟩) ?_
              refine x_iload_n (pc := 71) dX11_keyAt_71 (List.Mem.tail _ (List.Mem.tail _ (List.Mem.head _))) ?_
              refine x_iload_n (pc := 72) dX11_keyAt_72 (List.Mem.tail _ (List.Mem.tail _ (List.Mem.tail _ (List.Mem.head _)))) ?_
              refine z_iadd (pc := 73) dX11_keyAt_73 ?_
              refine z_schar (pc := 74) (k := 1) (j := kof n + i) dX11_keyAt_74 ml_X11_104 (by decide) (by omega) (show kof n + i < 140 by omega) (Nat.le_of_ble_eq_true rfl) ?_
              refine z_bipush (pc := 77) dX11_keyAt_77 bp_32 ?_
              refine z_icmp_ne (pc := 79) (tgt := 97) dX11_keyAt_79 (by decide) (by omega) (by omega) (by decide) (by decide) (fun hb3 => ?_) (fun hb3 => ?_)
              · skip
                have hnm : kmB (H.1 4) a e n = false := by first | exact kmB_no hst | (exfalso; omega)
                have lp97 : ∀ (nF : Nat) (m : Nat), (m ≤ kln n) → kln n - m < nF → Ev zX mX11_keyAt (EvC zX d) (zPi (fun (rz : Int) (Hz : ZH) => rz = (kwF (H.1 4) a e) ∧ Hz = H)) 97 [(0, .ref 0), (1, .int (zN ((n : Int)))), (2, .int (zN (((kof n + m : Nat) : Int))))] [] (eh H) := by
                  intro nF
                  induction nF with
                  | zero => intro m hm2 hm; exact absurd hm (Nat.not_lt_zero _)
                  | succ nF ih97 =>
                    intro m hm2 hm
                    have kd := kch_s hn29 hm2
                    unfold kch at kd
                    refine x_ldcS (pc := 97) (k := 1) dX11_keyAt_97 (Or.inr ⟨rfl, rfl, rfl⟩) ?_
                    refine x_iload_n (pc := 99) dX11_keyAt_99 (List.Mem.tail _ (List.Mem.tail _ (List.Mem.head _))) ?_
                    refine z_schar (pc := 100) (k := 1) (j := kof n + m) dX11_keyAt_100 ml_X11_104 (by decide) (by omega) (show kof n + m < 140 by omega) (Nat.le_of_ble_eq_true rfl) ?_
                    refine z_bipush (pc := 103) dX11_keyAt_103 bp_32 ?_
                    refine z_icmp_eq (pc := 105) (tgt := 114) dX11_keyAt_105 (by decide) (by omega) (by omega) (by decide) (by decide) (fun hb4 => ?_) (fun hb4 => ?_)
                    · skip
                      refine z_iinc (pc := 114) dX11_keyAt_114 (List.Mem.tail _ (List.Mem.tail _ (List.Mem.head _))) (Nat.le_of_ble_eq_true rfl) ?_
                      show Ev _ _ _ _ _ [(2, .int (zN (((kof n + m : Nat) : Int) + 1))), (0, .ref 0), (1, .int (zN ((n : Int))))] _ _
                      refine z_iinc (pc := 117) dX11_keyAt_117 (List.Mem.tail _ (List.Mem.tail _ (List.Mem.head _))) (Nat.le_of_ble_eq_true rfl) ?_
                      show Ev _ _ _ _ _ [(1, .int (zN ((n : Int) + 1))), (2, .int (zN (((kof n + m : Nat) : Int) + 1))), (0, .ref 0)] _ _
                      refine x_goto (pc := 120) (tgt := 4) dX11_keyAt_120 (by decide) ?_
                      refine x_weaken (L1 := [(0, .ref 0), (1, .int (zN ((((n + 1) : Nat) : Int)))), (2, .int (zN (((kof (n + 1) : Nat) : Int))))]) (List.forall_mem_cons.mpr ⟨(List.Mem.tail _ (List.Mem.tail _ (List.Mem.head _))), (List.forall_mem_cons.mpr ⟨(mem_ci (by omega) (List.Mem.head _)), (List.forall_mem_cons.mpr ⟨(mem_ci (by omega) (List.Mem.tail _ (List.Mem.head _))), (fun _ h => absurd h List.not_mem_nil)⟩)⟩)⟩) ?_
                      exact ih4 ((n + 1)) (by omega) (fun m h => if z : m = n then (by rw [z]; exact hnm) else hno m (by omega)) (by omega)
                    · skip
                      refine z_iinc (pc := 108) dX11_keyAt_108 (List.Mem.tail _ (List.Mem.tail _ (List.Mem.head _))) (Nat.le_of_ble_eq_true rfl) ?_
                      show Ev _ _ _ _ _ [(2, .int (zN (((kof n + m : Nat) : Int) + 1))), (0, .ref 0), (1, .int (zN ((n : Int))))] _ _
                      refine x_goto (pc := 111) (tgt := 97) dX11_keyAt_111 (by decide) ?_
                      refine x_weaken (L1 := [(0, .ref 0), (1, .int (zN ((n : Int)))), (2, .int (zN (((kof n + (m + 1) : Nat) : Int))))]) (List.forall_mem_cons.mpr ⟨(List.Mem.tail _ (List.Mem.head _)), (List.forall_mem_cons.mpr ⟨(List.Mem.tail _ (List.Mem.tail _ (List.Mem.head _))), (List.forall_mem_cons.mpr ⟨(mem_ci (by omega) (List.Mem.head _)), (fun _ h => absurd h List.not_mem_nil)⟩)⟩)⟩) ?_
                      exact ih97 ((m + 1)) (by omega) (by omega)
                refine x_weaken (L1 := [(0, .ref 0), (1, .int (zN ((n : Int)))), (2, .int (zN (((kof n + 0 : Nat) : Int))))]) (List.forall_mem_cons.mpr ⟨(List.Mem.head _), (List.forall_mem_cons.mpr ⟨(List.Mem.tail _ (List.Mem.head _)), (List.forall_mem_cons.mpr ⟨(mem_ci (rfl) (List.Mem.tail _ (List.Mem.tail _ (List.Mem.head _)))), (fun _ h => absurd h List.not_mem_nil)⟩)⟩)⟩) ?_
                exact lp97 (kln n - 0 + 1) (0) (by omega) (Nat.lt_succ_self _)
              · skip
                refine x_aload_n (pc := 82) dX11_keyAt_82 (List.Mem.head _) ?_
                refine z_getI (pc := 83) (k := 7) (v := (a : Int)) dX11_keyAt_83 lf_X11_108 sh_0 rfl (by rw [ha]) ?_
                refine x_iload_n (pc := 86) dX11_keyAt_86 (List.Mem.tail _ (List.Mem.tail _ (List.Mem.tail _ (List.Mem.head _)))) ?_
                refine z_iadd (pc := 87) dX11_keyAt_87 ?_
                refine x_aload_n (pc := 88) dX11_keyAt_88 (List.Mem.head _) ?_
                refine z_getI (pc := 89) (k := 8) (v := (e : Int)) dX11_keyAt_89 lf_X11_111 sh_0 rfl (by rw [hb]) ?_
                refine z_icmp_ne (pc := 92) (tgt := 97) dX11_keyAt_92 (by decide) (by omega) (by omega) (by omega) (by omega) (fun hb5 => ?_) (fun hb5 => ?_)
                · skip
                  have hnm : kmB (H.1 4) a e n = false := by first | exact kmB_len (by omega) | exact kmB_no hst
                  have lp97 : ∀ (nF : Nat) (m : Nat), (m ≤ kln n) → kln n - m < nF → Ev zX mX11_keyAt (EvC zX d) (zPi (fun (rz : Int) (Hz : ZH) => rz = (kwF (H.1 4) a e) ∧ Hz = H)) 97 [(0, .ref 0), (1, .int (zN ((n : Int)))), (2, .int (zN (((kof n + m : Nat) : Int))))] [] (eh H) := by
                    intro nF
                    induction nF with
                    | zero => intro m hm2 hm; exact absurd hm (Nat.not_lt_zero _)
                    | succ nF ih97 =>
                      intro m hm2 hm
                      have kd := kch_s hn29 hm2
                      unfold kch at kd
                      refine x_ldcS (pc := 97) (k := 1) dX11_keyAt_97 (Or.inr ⟨rfl, rfl, rfl⟩) ?_
                      refine x_iload_n (pc := 99) dX11_keyAt_99 (List.Mem.tail _ (List.Mem.tail _ (List.Mem.head _))) ?_
                      refine z_schar (pc := 100) (k := 1) (j := kof n + m) dX11_keyAt_100 ml_X11_104 (by decide) (by omega) (show kof n + m < 140 by omega) (Nat.le_of_ble_eq_true rfl) ?_
                      refine z_bipush (pc := 103) dX11_keyAt_103 bp_32 ?_
                      refine z_icmp_eq (pc := 105) (tgt := 114) dX11_keyAt_105 (by decide) (by omega) (by omega) (by decide) (by decide) (fun hb6 => ?_) (fun hb6 => ?_)
                      · skip
                        refine z_iinc (pc := 114) dX11_keyAt_114 (List.Mem.tail _ (List.Mem.tail _ (List.Mem.head _))) (Nat.le_of_ble_eq_true rfl) ?_
                        show Ev _ _ _ _ _ [(2, .int (zN (((kof n + m : Nat) : Int) + 1))), (0, .ref 0), (1, .int (zN ((n : Int))))] _ _
                        refine z_iinc (pc := 117) dX11_keyAt_117 (List.Mem.tail _ (List.Mem.tail _ (List.Mem.head _))) (Nat.le_of_ble_eq_true rfl) ?_
                        show Ev _ _ _ _ _ [(1, .int (zN ((n : Int) + 1))), (2, .int (zN (((kof n + m : Nat) : Int) + 1))), (0, .ref 0)] _ _
                        refine x_goto (pc := 120) (tgt := 4) dX11_keyAt_120 (by decide) ?_
                        refine x_weaken (L1 := [(0, .ref 0), (1, .int (zN ((((n + 1) : Nat) : Int)))), (2, .int (zN (((kof (n + 1) : Nat) : Int))))]) (List.forall_mem_cons.mpr ⟨(List.Mem.tail _ (List.Mem.tail _ (List.Mem.head _))), (List.forall_mem_cons.mpr ⟨(mem_ci (by omega) (List.Mem.head _)), (List.forall_mem_cons.mpr ⟨(mem_ci (by omega) (List.Mem.tail _ (List.Mem.head _))), (fun _ h => absurd h List.not_mem_nil)⟩)⟩)⟩) ?_
                        exact ih4 ((n + 1)) (by omega) (fun m h => if z : m = n then (by rw [z]; exact hnm) else hno m (by omega)) (by omega)
                      · skip
                        refine z_iinc (pc := 108) dX11_keyAt_108 (List.Mem.tail _ (List.Mem.tail _ (List.Mem.head _))) (Nat.le_of_ble_eq_true rfl) ?_
                        show Ev _ _ _ _ _ [(2, .int (zN (((kof n + m : Nat) : Int) + 1))), (0, .ref 0), (1, .int (zN ((n : Int))))] _ _
                        refine x_goto (pc := 111) (tgt := 97) dX11_keyAt_111 (by decide) ?_
                        refine x_weaken (L1 := [(0, .ref 0), (1, .int (zN ((n : Int)))), (2, .int (zN (((kof n + (m + 1) : Nat) : Int))))]) (List.forall_mem_cons.mpr ⟨(List.Mem.tail _ (List.Mem.head _)), (List.forall_mem_cons.mpr ⟨(List.Mem.tail _ (List.Mem.tail _ (List.Mem.head _))), (List.forall_mem_cons.mpr ⟨(mem_ci (by omega) (List.Mem.head _)), (fun _ h => absurd h List.not_mem_nil)⟩)⟩)⟩) ?_
                        exact ih97 ((m + 1)) (by omega) (by omega)
                  refine x_weaken (L1 := [(0, .ref 0), (1, .int (zN ((n : Int)))), (2, .int (zN (((kof n + 0 : Nat) : Int))))]) (List.forall_mem_cons.mpr ⟨(List.Mem.head _), (List.forall_mem_cons.mpr ⟨(List.Mem.tail _ (List.Mem.head _)), (List.forall_mem_cons.mpr ⟨(mem_ci (rfl) (List.Mem.tail _ (List.Mem.tail _ (List.Mem.head _)))), (fun _ h => absurd h List.not_mem_nil)⟩)⟩)⟩) ?_
                  exact lp97 (kln n - 0 + 1) (0) (by omega) (Nat.lt_succ_self _)
                · skip
                  refine x_iload_n (pc := 95) dX11_keyAt_95 (List.Mem.tail _ (List.Mem.head _)) ?_
                  refine z_ireturn (pc := 96) dX11_keyAt_96 rfl (Or.inl rfl) ok (by omega) (by omega) ?_
                  refine ⟨?_, rfl⟩
                  have hy : kmB (H.1 4) a e n = true := decide_eq_true ⟨by omega, fun j hj => hal j (by omega)⟩
                  have hl := lea_is (h := kmB (H.1 4) a e) (n := 29) hn29 hy hno
                  unfold kwF
                  rw [hl, if_neg (by omega)]
            · skip
              refine x_aload_n (pc := 28) dX11_keyAt_28 (List.Mem.head _) ?_
              refine z_getI (pc := 29) (k := 7) (v := (a : Int)) dX11_keyAt_29 lf_X11_108 sh_0 rfl (by rw [ha]) ?_
              refine x_iload_n (pc := 32) dX11_keyAt_32 (List.Mem.tail _ (List.Mem.tail _ (List.Mem.tail _ (List.Mem.head _)))) ?_
              refine z_iadd (pc := 33) dX11_keyAt_33 ?_
              refine x_aload_n (pc := 34) dX11_keyAt_34 (List.Mem.head _) ?_
              refine z_getI (pc := 35) (k := 8) (v := (e : Int)) dX11_keyAt_35 lf_X11_111 sh_0 rfl (by rw [hb]) ?_
              refine z_icmp_ge (pc := 38) (tgt := 69) dX11_keyAt_38 (by decide) (by omega) (by omega) (by omega) (by omega) (fun hb7 => ?_) (fun hb7 => ?_)
              · skip
                have hst : i < kln n ∧ ((a + i < e ∧ H.1 4 (a + i) ≠ kch (kof n + i)) ∨ ¬ a + i < e) := ⟨by omega, Or.inr (by omega)⟩
                refine x_ldcS (pc := 69) (k := 1) dX11_keyAt_69 (Or.inr ⟨rfl, rfl, rfl⟩) ?_
                refine x_iload_n (pc := 71) dX11_keyAt_71 (List.Mem.tail _ (List.Mem.tail _ (List.Mem.head _))) ?_
                refine x_iload_n (pc := 72) dX11_keyAt_72 (List.Mem.tail _ (List.Mem.tail _ (List.Mem.tail _ (List.Mem.head _)))) ?_
                refine z_iadd (pc := 73) dX11_keyAt_73 ?_
                refine z_schar (pc := 74) (k := 1) (j := kof n + i) dX11_keyAt_74 ml_X11_104 (by decide) (by omega) (show kof n + i < 140 by omega) (Nat.le_of_ble_eq_true rfl) ?_
                refine z_bipush (pc := 77) dX11_keyAt_77 bp_32 ?_
                refine z_icmp_ne (pc := 79) (tgt := 97) dX11_keyAt_79 (by decide) (by omega) (by omega) (by decide) (by decide) (fun hb8 => ?_) (fun hb8 => ?_)
                · skip
                  have hnm : kmB (H.1 4) a e n = false := by first | exact kmB_no hst | (exfalso; omega)
                  have lp97 : ∀ (nF : Nat) (m : Nat), (m ≤ kln n) → kln n - m < nF → Ev zX mX11_keyAt (EvC zX d) (zPi (fun (rz : Int) (Hz : ZH) => rz = (kwF (H.1 4) a e) ∧ Hz = H)) 97 [(0, .ref 0), (1, .int (zN ((n : Int)))), (2, .int (zN (((kof n + m : Nat) : Int))))] [] (eh H) := by
                    intro nF
                    induction nF with
                    | zero => intro m hm2 hm; exact absurd hm (Nat.not_lt_zero _)
                    | succ nF ih97 =>
                      intro m hm2 hm
                      have kd := kch_s hn29 hm2
                      unfold kch at kd
                      refine x_ldcS (pc := 97) (k := 1) dX11_keyAt_97 (Or.inr ⟨rfl, rfl, rfl⟩) ?_
                      refine x_iload_n (pc := 99) dX11_keyAt_99 (List.Mem.tail _ (List.Mem.tail _ (List.Mem.head _))) ?_
                      refine z_schar (pc := 100) (k := 1) (j := kof n + m) dX11_keyAt_100 ml_X11_104 (by decide) (by omega) (show kof n + m < 140 by omega) (Nat.le_of_ble_eq_true rfl) ?_
                      refine z_bipush (pc := 103) dX11_keyAt_103 bp_32 ?_
                      refine z_icmp_eq (pc := 105) (tgt := 114) dX11_keyAt_105 (by decide) (by omega) (by omega) (by decide) (by decide) (fun hb9 => ?_) (fun hb9 => ?_)
                      · skip
                        refine z_iinc (pc := 114) dX11_keyAt_114 (List.Mem.tail _ (List.Mem.tail _ (List.Mem.head _))) (Nat.le_of_ble_eq_true rfl) ?_
                        show Ev _ _ _ _ _ [(2, .int (zN (((kof n + m : Nat) : Int) + 1))), (0, .ref 0), (1, .int (zN ((n : Int))))] _ _
                        refine z_iinc (pc := 117) dX11_keyAt_117 (List.Mem.tail _ (List.Mem.tail _ (List.Mem.head _))) (Nat.le_of_ble_eq_true rfl) ?_
                        show Ev _ _ _ _ _ [(1, .int (zN ((n : Int) + 1))), (2, .int (zN (((kof n + m : Nat) : Int) + 1))), (0, .ref 0)] _ _
                        refine x_goto (pc := 120) (tgt := 4) dX11_keyAt_120 (by decide) ?_
                        refine x_weaken (L1 := [(0, .ref 0), (1, .int (zN ((((n + 1) : Nat) : Int)))), (2, .int (zN (((kof (n + 1) : Nat) : Int))))]) (List.forall_mem_cons.mpr ⟨(List.Mem.tail _ (List.Mem.tail _ (List.Mem.head _))), (List.forall_mem_cons.mpr ⟨(mem_ci (by omega) (List.Mem.head _)), (List.forall_mem_cons.mpr ⟨(mem_ci (by omega) (List.Mem.tail _ (List.Mem.head _))), (fun _ h => absurd h List.not_mem_nil)⟩)⟩)⟩) ?_
                        exact ih4 ((n + 1)) (by omega) (fun m h => if z : m = n then (by rw [z]; exact hnm) else hno m (by omega)) (by omega)
                      · skip
                        refine z_iinc (pc := 108) dX11_keyAt_108 (List.Mem.tail _ (List.Mem.tail _ (List.Mem.head _))) (Nat.le_of_ble_eq_true rfl) ?_
                        show Ev _ _ _ _ _ [(2, .int (zN (((kof n + m : Nat) : Int) + 1))), (0, .ref 0), (1, .int (zN ((n : Int))))] _ _
                        refine x_goto (pc := 111) (tgt := 97) dX11_keyAt_111 (by decide) ?_
                        refine x_weaken (L1 := [(0, .ref 0), (1, .int (zN ((n : Int)))), (2, .int (zN (((kof n + (m + 1) : Nat) : Int))))]) (List.forall_mem_cons.mpr ⟨(List.Mem.tail _ (List.Mem.head _)), (List.forall_mem_cons.mpr ⟨(List.Mem.tail _ (List.Mem.tail _ (List.Mem.head _))), (List.forall_mem_cons.mpr ⟨(mem_ci (by omega) (List.Mem.head _)), (fun _ h => absurd h List.not_mem_nil)⟩)⟩)⟩) ?_
                        exact ih97 ((m + 1)) (by omega) (by omega)
                  refine x_weaken (L1 := [(0, .ref 0), (1, .int (zN ((n : Int)))), (2, .int (zN (((kof n + 0 : Nat) : Int))))]) (List.forall_mem_cons.mpr ⟨(List.Mem.head _), (List.forall_mem_cons.mpr ⟨(List.Mem.tail _ (List.Mem.head _)), (List.forall_mem_cons.mpr ⟨(mem_ci (rfl) (List.Mem.tail _ (List.Mem.tail _ (List.Mem.head _)))), (fun _ h => absurd h List.not_mem_nil)⟩)⟩)⟩) ?_
                  exact lp97 (kln n - 0 + 1) (0) (by omega) (Nat.lt_succ_self _)
                · skip
                  refine x_aload_n (pc := 82) dX11_keyAt_82 (List.Mem.head _) ?_
                  refine z_getI (pc := 83) (k := 7) (v := (a : Int)) dX11_keyAt_83 lf_X11_108 sh_0 rfl (by rw [ha]) ?_
                  refine x_iload_n (pc := 86) dX11_keyAt_86 (List.Mem.tail _ (List.Mem.tail _ (List.Mem.tail _ (List.Mem.head _)))) ?_
                  refine z_iadd (pc := 87) dX11_keyAt_87 ?_
                  refine x_aload_n (pc := 88) dX11_keyAt_88 (List.Mem.head _) ?_
                  refine z_getI (pc := 89) (k := 8) (v := (e : Int)) dX11_keyAt_89 lf_X11_111 sh_0 rfl (by rw [hb]) ?_
                  refine z_icmp_ne (pc := 92) (tgt := 97) dX11_keyAt_92 (by decide) (by omega) (by omega) (by omega) (by omega) (fun hb10 => ?_) (fun hb10 => ?_)
                  · skip
                    have hnm : kmB (H.1 4) a e n = false := by first | exact kmB_len (by omega) | exact kmB_no hst
                    have lp97 : ∀ (nF : Nat) (m : Nat), (m ≤ kln n) → kln n - m < nF → Ev zX mX11_keyAt (EvC zX d) (zPi (fun (rz : Int) (Hz : ZH) => rz = (kwF (H.1 4) a e) ∧ Hz = H)) 97 [(0, .ref 0), (1, .int (zN ((n : Int)))), (2, .int (zN (((kof n + m : Nat) : Int))))] [] (eh H) := by
                      intro nF
                      induction nF with
                      | zero => intro m hm2 hm; exact absurd hm (Nat.not_lt_zero _)
                      | succ nF ih97 =>
                        intro m hm2 hm
                        have kd := kch_s hn29 hm2
                        unfold kch at kd
                        refine x_ldcS (pc := 97) (k := 1) dX11_keyAt_97 (Or.inr ⟨rfl, rfl, rfl⟩) ?_
                        refine x_iload_n (pc := 99) dX11_keyAt_99 (List.Mem.tail _ (List.Mem.tail _ (List.Mem.head _))) ?_
                        refine z_schar (pc := 100) (k := 1) (j := kof n + m) dX11_keyAt_100 ml_X11_104 (by decide) (by omega) (show kof n + m < 140 by omega) (Nat.le_of_ble_eq_true rfl) ?_
                        refine z_bipush (pc := 103) dX11_keyAt_103 bp_32 ?_
                        refine z_icmp_eq (pc := 105) (tgt := 114) dX11_keyAt_105 (by decide) (by omega) (by omega) (by decide) (by decide) (fun hb11 => ?_) (fun hb11 => ?_)
                        · skip
                          refine z_iinc (pc := 114) dX11_keyAt_114 (List.Mem.tail _ (List.Mem.tail _ (List.Mem.head _))) (Nat.le_of_ble_eq_true rfl) ?_
                          show Ev _ _ _ _ _ [(2, .int (zN (((kof n + m : Nat) : Int) + 1))), (0, .ref 0), (1, .int (zN ((n : Int))))] _ _
                          refine z_iinc (pc := 117) dX11_keyAt_117 (List.Mem.tail _ (List.Mem.tail _ (List.Mem.head _))) (Nat.le_of_ble_eq_true rfl) ?_
                          show Ev _ _ _ _ _ [(1, .int (zN ((n : Int) + 1))), (2, .int (zN (((kof n + m : Nat) : Int) + 1))), (0, .ref 0)] _ _
                          refine x_goto (pc := 120) (tgt := 4) dX11_keyAt_120 (by decide) ?_
                          refine x_weaken (L1 := [(0, .ref 0), (1, .int (zN ((((n + 1) : Nat) : Int)))), (2, .int (zN (((kof (n + 1) : Nat) : Int))))]) (List.forall_mem_cons.mpr ⟨(List.Mem.tail _ (List.Mem.tail _ (List.Mem.head _))), (List.forall_mem_cons.mpr ⟨(mem_ci (by omega) (List.Mem.head _)), (List.forall_mem_cons.mpr ⟨(mem_ci (by omega) (List.Mem.tail _ (List.Mem.head _))), (fun _ h => absurd h List.not_mem_nil)⟩)⟩)⟩) ?_
                          exact ih4 ((n + 1)) (by omega) (fun m h => if z : m = n then (by rw [z]; exact hnm) else hno m (by omega)) (by omega)
                        · skip
                          refine z_iinc (pc := 108) dX11_keyAt_108 (List.Mem.tail _ (List.Mem.tail _ (List.Mem.head _))) (Nat.le_of_ble_eq_true rfl) ?_
                          show Ev _ _ _ _ _ [(2, .int (zN (((kof n + m : Nat) : Int) + 1))), (0, .ref 0), (1, .int (zN ((n : Int))))] _ _
                          refine x_goto (pc := 111) (tgt := 97) dX11_keyAt_111 (by decide) ?_
                          refine x_weaken (L1 := [(0, .ref 0), (1, .int (zN ((n : Int)))), (2, .int (zN (((kof n + (m + 1) : Nat) : Int))))]) (List.forall_mem_cons.mpr ⟨(List.Mem.tail _ (List.Mem.head _)), (List.forall_mem_cons.mpr ⟨(List.Mem.tail _ (List.Mem.tail _ (List.Mem.head _))), (List.forall_mem_cons.mpr ⟨(mem_ci (by omega) (List.Mem.head _)), (fun _ h => absurd h List.not_mem_nil)⟩)⟩)⟩) ?_
                          exact ih97 ((m + 1)) (by omega) (by omega)
                    refine x_weaken (L1 := [(0, .ref 0), (1, .int (zN ((n : Int)))), (2, .int (zN (((kof n + 0 : Nat) : Int))))]) (List.forall_mem_cons.mpr ⟨(List.Mem.head _), (List.forall_mem_cons.mpr ⟨(List.Mem.tail _ (List.Mem.head _)), (List.forall_mem_cons.mpr ⟨(mem_ci (rfl) (List.Mem.tail _ (List.Mem.tail _ (List.Mem.head _)))), (fun _ h => absurd h List.not_mem_nil)⟩)⟩)⟩) ?_
                    exact lp97 (kln n - 0 + 1) (0) (by omega) (Nat.lt_succ_self _)
                  · skip
                    refine x_iload_n (pc := 95) dX11_keyAt_95 (List.Mem.tail _ (List.Mem.head _)) ?_
                    refine z_ireturn (pc := 96) dX11_keyAt_96 rfl (Or.inl rfl) ok (by omega) (by omega) ?_
                    refine ⟨?_, rfl⟩
                    have hy : kmB (H.1 4) a e n = true := decide_eq_true ⟨by omega, fun j hj => hal j (by omega)⟩
                    have hl := lea_is (h := kmB (H.1 4) a e) (n := 29) hn29 hy hno
                    unfold kwF
                    rw [hl, if_neg (by omega)]
              · skip
                refine x_aload_n (pc := 41) dX11_keyAt_41 (List.Mem.head _) ?_
                refine z_getR (pc := 42) (k := 4) (r := 4) dX11_keyAt_42 lf_X11_24 sh_0 rfl rf_0_4 ?_
                refine x_aload_n (pc := 45) dX11_keyAt_45 (List.Mem.head _) ?_
                refine z_getI (pc := 46) (k := 7) (v := (a : Int)) dX11_keyAt_46 lf_X11_108 sh_0 rfl (by rw [ha]) ?_
                refine x_iload_n (pc := 49) dX11_keyAt_49 (List.Mem.tail _ (List.Mem.tail _ (List.Mem.tail _ (List.Mem.head _)))) ?_
                refine z_iadd (pc := 50) dX11_keyAt_50 ?_
                have rd12 := ok.1 4 (a + i)
                refine z_iald (pc := 51) (j := a + i) (v := H.1 4 (a + i)) dX11_keyAt_51 sh_4 (by omega) (by omega) (by decide) rfl ?_
                refine x_ldcS (pc := 52) (k := 1) dX11_keyAt_52 (Or.inr ⟨rfl, rfl, rfl⟩) ?_
                refine x_iload_n (pc := 54) dX11_keyAt_54 (List.Mem.tail _ (List.Mem.tail _ (List.Mem.head _))) ?_
                refine x_iload_n (pc := 55) dX11_keyAt_55 (List.Mem.tail _ (List.Mem.tail _ (List.Mem.tail _ (List.Mem.head _)))) ?_
                refine z_iadd (pc := 56) dX11_keyAt_56 ?_
                refine z_schar (pc := 57) (k := 1) (j := kof n + i) dX11_keyAt_57 ml_X11_104 (by decide) (by omega) (show kof n + i < 140 by omega) (Nat.le_of_ble_eq_true rfl) ?_
                refine z_icmp_ne (pc := 60) (tgt := 69) dX11_keyAt_60 (by decide) (by omega) (by omega) (by omega) (by omega) (fun hb13 => ?_) (fun hb13 => ?_)
                · skip
                  have hst : i < kln n ∧ ((a + i < e ∧ H.1 4 (a + i) ≠ kch (kof n + i)) ∨ ¬ a + i < e) := ⟨by omega, Or.inl ⟨by omega, by unfold kch; omega⟩⟩
                  refine x_ldcS (pc := 69) (k := 1) dX11_keyAt_69 (Or.inr ⟨rfl, rfl, rfl⟩) ?_
                  refine x_iload_n (pc := 71) dX11_keyAt_71 (List.Mem.tail _ (List.Mem.tail _ (List.Mem.head _))) ?_
                  refine x_iload_n (pc := 72) dX11_keyAt_72 (List.Mem.tail _ (List.Mem.tail _ (List.Mem.tail _ (List.Mem.head _)))) ?_
                  refine z_iadd (pc := 73) dX11_keyAt_73 ?_
                  refine z_schar (pc := 74) (k := 1) (j := kof n + i) dX11_keyAt_74 ml_X11_104 (by decide) (by omega) (show kof n + i < 140 by omega) (Nat.le_of_ble_eq_true rfl) ?_
                  refine z_bipush (pc := 77) dX11_keyAt_77 bp_32 ?_
                  refine z_icmp_ne (pc := 79) (tgt := 97) dX11_keyAt_79 (by decide) (by omega) (by omega) (by decide) (by decide) (fun hb14 => ?_) (fun hb14 => ?_)
                  · skip
                    have hnm : kmB (H.1 4) a e n = false := by first | exact kmB_no hst | (exfalso; omega)
                    have lp97 : ∀ (nF : Nat) (m : Nat), (m ≤ kln n) → kln n - m < nF → Ev zX mX11_keyAt (EvC zX d) (zPi (fun (rz : Int) (Hz : ZH) => rz = (kwF (H.1 4) a e) ∧ Hz = H)) 97 [(0, .ref 0), (1, .int (zN ((n : Int)))), (2, .int (zN (((kof n + m : Nat) : Int))))] [] (eh H) := by
                      intro nF
                      induction nF with
                      | zero => intro m hm2 hm; exact absurd hm (Nat.not_lt_zero _)
                      | succ nF ih97 =>
                        intro m hm2 hm
                        have kd := kch_s hn29 hm2
                        unfold kch at kd
                        refine x_ldcS (pc := 97) (k := 1) dX11_keyAt_97 (Or.inr ⟨rfl, rfl, rfl⟩) ?_
                        refine x_iload_n (pc := 99) dX11_keyAt_99 (List.Mem.tail _ (List.Mem.tail _ (List.Mem.head _))) ?_
                        refine z_schar (pc := 100) (k := 1) (j := kof n + m) dX11_keyAt_100 ml_X11_104 (by decide) (by omega) (show kof n + m < 140 by omega) (Nat.le_of_ble_eq_true rfl) ?_
                        refine z_bipush (pc := 103) dX11_keyAt_103 bp_32 ?_
                        refine z_icmp_eq (pc := 105) (tgt := 114) dX11_keyAt_105 (by decide) (by omega) (by omega) (by decide) (by decide) (fun hb15 => ?_) (fun hb15 => ?_)
                        · skip
                          refine z_iinc (pc := 114) dX11_keyAt_114 (List.Mem.tail _ (List.Mem.tail _ (List.Mem.head _))) (Nat.le_of_ble_eq_true rfl) ?_
                          show Ev _ _ _ _ _ [(2, .int (zN (((kof n + m : Nat) : Int) + 1))), (0, .ref 0), (1, .int (zN ((n : Int))))] _ _
                          refine z_iinc (pc := 117) dX11_keyAt_117 (List.Mem.tail _ (List.Mem.tail _ (List.Mem.head _))) (Nat.le_of_ble_eq_true rfl) ?_
                          show Ev _ _ _ _ _ [(1, .int (zN ((n : Int) + 1))), (2, .int (zN (((kof n + m : Nat) : Int) + 1))), (0, .ref 0)] _ _
                          refine x_goto (pc := 120) (tgt := 4) dX11_keyAt_120 (by decide) ?_
                          refine x_weaken (L1 := [(0, .ref 0), (1, .int (zN ((((n + 1) : Nat) : Int)))), (2, .int (zN (((kof (n + 1) : Nat) : Int))))]) (List.forall_mem_cons.mpr ⟨(List.Mem.tail _ (List.Mem.tail _ (List.Mem.head _))), (List.forall_mem_cons.mpr ⟨(mem_ci (by omega) (List.Mem.head _)), (List.forall_mem_cons.mpr ⟨(mem_ci (by omega) (List.Mem.tail _ (List.Mem.head _))), (fun _ h => absurd h List.not_mem_nil)⟩)⟩)⟩) ?_
                          exact ih4 ((n + 1)) (by omega) (fun m h => if z : m = n then (by rw [z]; exact hnm) else hno m (by omega)) (by omega)
                        · skip
                          refine z_iinc (pc := 108) dX11_keyAt_108 (List.Mem.tail _ (List.Mem.tail _ (List.Mem.head _))) (Nat.le_of_ble_eq_true rfl) ?_
                          show Ev _ _ _ _ _ [(2, .int (zN (((kof n + m : Nat) : Int) + 1))), (0, .ref 0), (1, .int (zN ((n : Int))))] _ _
                          refine x_goto (pc := 111) (tgt := 97) dX11_keyAt_111 (by decide) ?_
                          refine x_weaken (L1 := [(0, .ref 0), (1, .int (zN ((n : Int)))), (2, .int (zN (((kof n + (m + 1) : Nat) : Int))))]) (List.forall_mem_cons.mpr ⟨(List.Mem.tail _ (List.Mem.head _)), (List.forall_mem_cons.mpr ⟨(List.Mem.tail _ (List.Mem.tail _ (List.Mem.head _))), (List.forall_mem_cons.mpr ⟨(mem_ci (by omega) (List.Mem.head _)), (fun _ h => absurd h List.not_mem_nil)⟩)⟩)⟩) ?_
                          exact ih97 ((m + 1)) (by omega) (by omega)
                    refine x_weaken (L1 := [(0, .ref 0), (1, .int (zN ((n : Int)))), (2, .int (zN (((kof n + 0 : Nat) : Int))))]) (List.forall_mem_cons.mpr ⟨(List.Mem.head _), (List.forall_mem_cons.mpr ⟨(List.Mem.tail _ (List.Mem.head _)), (List.forall_mem_cons.mpr ⟨(mem_ci (rfl) (List.Mem.tail _ (List.Mem.tail _ (List.Mem.head _)))), (fun _ h => absurd h List.not_mem_nil)⟩)⟩)⟩) ?_
                    exact lp97 (kln n - 0 + 1) (0) (by omega) (Nat.lt_succ_self _)
                  · skip
                    refine x_aload_n (pc := 82) dX11_keyAt_82 (List.Mem.head _) ?_
                    refine z_getI (pc := 83) (k := 7) (v := (a : Int)) dX11_keyAt_83 lf_X11_108 sh_0 rfl (by rw [ha]) ?_
                    refine x_iload_n (pc := 86) dX11_keyAt_86 (List.Mem.tail _ (List.Mem.tail _ (List.Mem.tail _ (List.Mem.head _)))) ?_
                    refine z_iadd (pc := 87) dX11_keyAt_87 ?_
                    refine x_aload_n (pc := 88) dX11_keyAt_88 (List.Mem.head _) ?_
                    refine z_getI (pc := 89) (k := 8) (v := (e : Int)) dX11_keyAt_89 lf_X11_111 sh_0 rfl (by rw [hb]) ?_
                    refine z_icmp_ne (pc := 92) (tgt := 97) dX11_keyAt_92 (by decide) (by omega) (by omega) (by omega) (by omega) (fun hb16 => ?_) (fun hb16 => ?_)
                    · skip
                      have hnm : kmB (H.1 4) a e n = false := by first | exact kmB_len (by omega) | exact kmB_no hst
                      have lp97 : ∀ (nF : Nat) (m : Nat), (m ≤ kln n) → kln n - m < nF → Ev zX mX11_keyAt (EvC zX d) (zPi (fun (rz : Int) (Hz : ZH) => rz = (kwF (H.1 4) a e) ∧ Hz = H)) 97 [(0, .ref 0), (1, .int (zN ((n : Int)))), (2, .int (zN (((kof n + m : Nat) : Int))))] [] (eh H) := by
                        intro nF
                        induction nF with
                        | zero => intro m hm2 hm; exact absurd hm (Nat.not_lt_zero _)
                        | succ nF ih97 =>
                          intro m hm2 hm
                          have kd := kch_s hn29 hm2
                          unfold kch at kd
                          refine x_ldcS (pc := 97) (k := 1) dX11_keyAt_97 (Or.inr ⟨rfl, rfl, rfl⟩) ?_
                          refine x_iload_n (pc := 99) dX11_keyAt_99 (List.Mem.tail _ (List.Mem.tail _ (List.Mem.head _))) ?_
                          refine z_schar (pc := 100) (k := 1) (j := kof n + m) dX11_keyAt_100 ml_X11_104 (by decide) (by omega) (show kof n + m < 140 by omega) (Nat.le_of_ble_eq_true rfl) ?_
                          refine z_bipush (pc := 103) dX11_keyAt_103 bp_32 ?_
                          refine z_icmp_eq (pc := 105) (tgt := 114) dX11_keyAt_105 (by decide) (by omega) (by omega) (by decide) (by decide) (fun hb17 => ?_) (fun hb17 => ?_)
                          · skip
                            refine z_iinc (pc := 114) dX11_keyAt_114 (List.Mem.tail _ (List.Mem.tail _ (List.Mem.head _))) (Nat.le_of_ble_eq_true rfl) ?_
                            show Ev _ _ _ _ _ [(2, .int (zN (((kof n + m : Nat) : Int) + 1))), (0, .ref 0), (1, .int (zN ((n : Int))))] _ _
                            refine z_iinc (pc := 117) dX11_keyAt_117 (List.Mem.tail _ (List.Mem.tail _ (List.Mem.head _))) (Nat.le_of_ble_eq_true rfl) ?_
                            show Ev _ _ _ _ _ [(1, .int (zN ((n : Int) + 1))), (2, .int (zN (((kof n + m : Nat) : Int) + 1))), (0, .ref 0)] _ _
                            refine x_goto (pc := 120) (tgt := 4) dX11_keyAt_120 (by decide) ?_
                            refine x_weaken (L1 := [(0, .ref 0), (1, .int (zN ((((n + 1) : Nat) : Int)))), (2, .int (zN (((kof (n + 1) : Nat) : Int))))]) (List.forall_mem_cons.mpr ⟨(List.Mem.tail _ (List.Mem.tail _ (List.Mem.head _))), (List.forall_mem_cons.mpr ⟨(mem_ci (by omega) (List.Mem.head _)), (List.forall_mem_cons.mpr ⟨(mem_ci (by omega) (List.Mem.tail _ (List.Mem.head _))), (fun _ h => absurd h List.not_mem_nil)⟩)⟩)⟩) ?_
                            exact ih4 ((n + 1)) (by omega) (fun m h => if z : m = n then (by rw [z]; exact hnm) else hno m (by omega)) (by omega)
                          · skip
                            refine z_iinc (pc := 108) dX11_keyAt_108 (List.Mem.tail _ (List.Mem.tail _ (List.Mem.head _))) (Nat.le_of_ble_eq_true rfl) ?_
                            show Ev _ _ _ _ _ [(2, .int (zN (((kof n + m : Nat) : Int) + 1))), (0, .ref 0), (1, .int (zN ((n : Int))))] _ _
                            refine x_goto (pc := 111) (tgt := 97) dX11_keyAt_111 (by decide) ?_
                            refine x_weaken (L1 := [(0, .ref 0), (1, .int (zN ((n : Int)))), (2, .int (zN (((kof n + (m + 1) : Nat) : Int))))]) (List.forall_mem_cons.mpr ⟨(List.Mem.tail _ (List.Mem.head _)), (List.forall_mem_cons.mpr ⟨(List.Mem.tail _ (List.Mem.tail _ (List.Mem.head _))), (List.forall_mem_cons.mpr ⟨(mem_ci (by omega) (List.Mem.head _)), (fun _ h => absurd h List.not_mem_nil)⟩)⟩)⟩) ?_
                            exact ih97 ((m + 1)) (by omega) (by omega)
                      refine x_weaken (L1 := [(0, .ref 0), (1, .int (zN ((n : Int)))), (2, .int (zN (((kof n + 0 : Nat) : Int))))]) (List.forall_mem_cons.mpr ⟨(List.Mem.head _), (List.forall_mem_cons.mpr ⟨(List.Mem.tail _ (List.Mem.head _)), (List.forall_mem_cons.mpr ⟨(mem_ci (rfl) (List.Mem.tail _ (List.Mem.tail _ (List.Mem.head _)))), (fun _ h => absurd h List.not_mem_nil)⟩)⟩)⟩) ?_
                      exact lp97 (kln n - 0 + 1) (0) (by omega) (Nat.lt_succ_self _)
                    · skip
                      refine x_iload_n (pc := 95) dX11_keyAt_95 (List.Mem.tail _ (List.Mem.head _)) ?_
                      refine z_ireturn (pc := 96) dX11_keyAt_96 rfl (Or.inl rfl) ok (by omega) (by omega) ?_
                      refine ⟨?_, rfl⟩
                      have hy : kmB (H.1 4) a e n = true := decide_eq_true ⟨by omega, fun j hj => hal j (by omega)⟩
                      have hl := lea_is (h := kmB (H.1 4) a e) (n := 29) hn29 hy hno
                      unfold kwF
                      rw [hl, if_neg (by omega)]
                · skip
                  have heq : H.1 4 (a + i) = kch (kof n + i) := by unfold kch; omega
                  refine z_iinc (pc := 63) dX11_keyAt_63 (List.Mem.tail _ (List.Mem.tail _ (List.Mem.tail _ (List.Mem.head _)))) (Nat.le_of_ble_eq_true rfl) ?_
                  show Ev _ _ _ _ _ [(3, .int (zN ((i : Int) + 1))), (0, .ref 0), (1, .int (zN ((n : Int)))), (2, .int (zN (((kof n : Nat) : Int))))] _ _
                  refine x_goto (pc := 66) (tgt := 15) dX11_keyAt_66 (by decide) ?_
                  refine x_weaken (L1 := [(0, .ref 0), (1, .int (zN ((n : Int)))), (2, .int (zN (((kof n : Nat) : Int)))), (3, .int (zN ((((i + 1) : Nat) : Int))))]) (List.forall_mem_cons.mpr ⟨(List.Mem.tail _ (List.Mem.head _)), (List.forall_mem_cons.mpr ⟨(List.Mem.tail _ (List.Mem.tail _ (List.Mem.head _))), (List.forall_mem_cons.mpr ⟨(List.Mem.tail _ (List.Mem.tail _ (List.Mem.tail _ (List.Mem.head _)))), (List.forall_mem_cons.mpr ⟨(mem_ci (by omega) (List.Mem.head _)), (fun _ h => absurd h List.not_mem_nil)⟩)⟩)⟩)⟩) ?_
                  exact ih15 ((i + 1)) (by omega) (fun j h => if z : j = i then (by rw [z]; exact heq) else hal j (by omega)) (by omega)
        refine x_weaken (L1 := [(0, .ref 0), (1, .int (zN ((n : Int)))), (2, .int (zN (((kof n : Nat) : Int)))), (3, .int (zN (((0 : Nat) : Int))))]) (List.forall_mem_cons.mpr ⟨(List.Mem.tail _ (List.Mem.head _)), (List.forall_mem_cons.mpr ⟨(List.Mem.tail _ (List.Mem.tail _ (List.Mem.head _))), (List.forall_mem_cons.mpr ⟨(List.Mem.tail _ (List.Mem.tail _ (List.Mem.tail _ (List.Mem.head _)))), (List.forall_mem_cons.mpr ⟨(mem_ci (by omega) (List.Mem.head _)), (fun _ h => absurd h List.not_mem_nil)⟩)⟩)⟩)⟩) ?_
        exact lp15 (kln n - 0 + 1) (0) (by omega) (fun m h => absurd h (Nat.not_lt_zero _)) (Nat.lt_succ_self _)
  refine x_weaken (L1 := [(0, .ref 0), (1, .int (zN (((0 : Nat) : Int)))), (2, .int (zN (((kof 0 : Nat) : Int))))]) (List.forall_mem_cons.mpr ⟨(List.Mem.tail _ (List.Mem.tail _ (List.Mem.head _))), (List.forall_mem_cons.mpr ⟨(mem_ci (by omega) (List.Mem.tail _ (List.Mem.head _))), (List.forall_mem_cons.mpr ⟨(mem_ci (rfl) (List.Mem.head _)), (fun _ h => absurd h List.not_mem_nil)⟩)⟩)⟩) ?_
  exact lp4 (29 - 0 + 1) (0) (by omega) (fun m h => absurd h (Nat.not_lt_zero _)) (Nat.lt_succ_self _)
