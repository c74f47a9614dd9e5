/-! GROUP H1: small pieces of the readers. -/
def plA (j : Nat) : Int := if j = 0 then 1 else if j = 36 then 3 else if j = 37 then 20 else if j = 38 then 40 else 0
/-- the least number of lanes that the cars want -/
def lnd (f : Nat → Int) : Nat → Int
  | 0 => 1
  | k + 1 => if lnd f k < f k + 1 then f k + 1 else lnd f k
theorem lnd_bd {f : Nat → Int} (k : Nat) (h : ∀ j, j < k → f j ≤ 3) : 1 ≤ lnd f k ∧ lnd f k ≤ 4 := by
  induction k with
  | zero => show (1 : Int) ≤ 1 ∧ (1 : Int) ≤ 4; decide
  | succ k ih =>
    have i := ih (fun j hj => h j (by omega))
    have z := h k (by omega)
    show 1 ≤ (if lnd f k < f k + 1 then f k + 1 else lnd f k) ∧ (if lnd f k < f k + 1 then f k + 1 else lnd f k) ≤ 4
    split <;> omega

theorem c_X11_plain_5 {d : Nat} {H : ZH} (ok : okZ H)  : EvC zX (d + 1) mX11_plain [.ref 5] (eh H) (zPv (fun (Hz : ZH) => Hz = wA H 5 (fun j => if j < 477 then plA j else H.1 5 j))) := by
  show _ ∧ Ev zX mX11_plain (EvC zX d) (zPv (fun (Hz : ZH) => Hz = wA H 5 (fun j => if j < 477 then plA j else H.1 5 j))) 0 [(0, .ref 5)] [] (eh H)
  refine ⟨Nat.le_of_ble_eq_true rfl, ?_⟩
  refine z_iconst (pc := 0) dX11_plain_0 ?_
  refine x_istore_n (pc := 1) dX11_plain_1 (Nat.le_of_ble_eq_true rfl) ?_
  show Ev _ _ _ _ _ [(1, .int (zN (0))), (0, .ref 5)] _ _
  have lp2 : ∀ (nF : Nat) (k : Nat), okZ (wA H 5 (fun j => if j < k then plA j else H.1 5 j)) → (k ≤ 477) → 477 - k < nF → Ev zX mX11_plain (EvC zX d) (zPv (fun (Hz : ZH) => Hz = wA H 5 (fun j => if j < 477 then plA j else H.1 5 j))) 2 [(0, .ref 5), (1, .int (zN ((k : Int))))] [] (eh (wA H 5 (fun j => if j < k then plA j else H.1 5 j))) := by
    intro nF
    induction nF with
    | zero => intro k okl2 hk hm; exact absurd hm (Nat.not_lt_zero _)
    | succ nF ih2 =>
      intro k okl2 hk hm
      refine x_iload_n (pc := 2) dX11_plain_2 (List.Mem.tail _ (List.Mem.head _)) ?_
      refine z_sipush (pc := 3) dX11_plain_3 sp_477 ?_
      refine z_icmp_ge (pc := 6) (tgt := 59) dX11_plain_6 (by decide) (by omega) (by omega) (by decide) (by decide) (fun hb1 => ?_) (fun hb1 => ?_)
      · skip
        refine z_vreturn (pc := 59) dX11_plain_59 rfl okl2 ?_
        rw [show k = 477 by omega]
      · skip
        refine x_aload_n (pc := 9) dX11_plain_9 (List.Mem.head _) ?_
        refine x_iload_n (pc := 10) dX11_plain_10 (List.Mem.tail _ (List.Mem.head _)) ?_
        refine x_iload_n (pc := 11) dX11_plain_11 (List.Mem.tail _ (List.Mem.head _)) ?_
        refine z_if_ne (pc := 12) (tgt := 19) dX11_plain_12 (by decide) (by omega) (by omega) (fun hb2 => ?_) (fun hb2 => ?_)
        · skip
          refine x_iload_n (pc := 19) dX11_plain_19 (List.Mem.tail _ (List.Mem.head _)) ?_
          refine z_bipush (pc := 20) dX11_plain_20 bp_36 ?_
          refine z_icmp_ne (pc := 22) (tgt := 29) dX11_plain_22 (by decide) (by omega) (by omega) (by decide) (by decide) (fun hb3 => ?_) (fun hb3 => ?_)
          · skip
            refine x_iload_n (pc := 29) dX11_plain_29 (List.Mem.tail _ (List.Mem.head _)) ?_
            refine z_bipush (pc := 30) dX11_plain_30 bp_37 ?_
            refine z_icmp_ne (pc := 32) (tgt := 40) dX11_plain_32 (by decide) (by omega) (by omega) (by decide) (by decide) (fun hb4 => ?_) (fun hb4 => ?_)
            · skip
              refine x_iload_n (pc := 40) dX11_plain_40 (List.Mem.tail _ (List.Mem.head _)) ?_
              refine z_bipush (pc := 41) dX11_plain_41 bp_38 ?_
              refine z_icmp_ne (pc := 43) (tgt := 51) dX11_plain_43 (by decide) (by omega) (by omega) (by decide) (by decide) (fun hb5 => ?_) (fun hb5 => ?_)
              · skip
                refine z_iconst (pc := 51) dX11_plain_51 ?_
                refine z_iast (pc := 52) (j := k) (v := 0) dX11_plain_52 sh_5 rfl (by omega) (by decide) ?_
                have ok6 := okI okl2 5 k (v := 0) (by decide) (by decide)
                refine z_iinc (pc := 53) dX11_plain_53 (List.Mem.tail _ (List.Mem.head _)) (Nat.le_of_ble_eq_true rfl) ?_
                show Ev _ _ _ _ _ [(1, .int (zN ((k : Int) + 1))), (0, .ref 5)] _ _
                refine x_goto (pc := 56) (tgt := 2) dX11_plain_56 (by decide) ?_
                refine x_weaken (L1 := [(0, .ref 5), (1, .int (zN ((((k + 1) : Nat) : Int))))]) (List.forall_mem_cons.mpr ⟨(List.Mem.tail _ (List.Mem.head _)), (List.forall_mem_cons.mpr ⟨(mem_ci (by omega) (List.Mem.head _)), (fun _ h => absurd h List.not_mem_nil)⟩)⟩) ?_
                have he7 : (wI (wA H 5 (fun j => if j < k then plA j else H.1 5 j)) 5 k (0)) = (wA H 5 (fun j => if j < (k + 1) then plA j else H.1 5 j)) := wA_step H 5 plA k _ (by unfold plA; first | (rw [if_pos (by omega)]; done) | (rw [if_neg (by omega), if_pos (by omega)]; done) | (rw [if_neg (by omega), if_neg (by omega), if_pos (by omega)]; done) | (rw [if_neg (by omega), if_neg (by omega), if_neg (by omega), if_pos (by omega)]; done) | (rw [if_neg (by omega), if_neg (by omega), if_neg (by omega), if_neg (by omega)]; done))
                refine Ev_heq he7 ?_
                have ok8 : okZ (wA H 5 (fun j => if j < (k + 1) then plA j else H.1 5 j)) := by rw [← he7]; exact ok6
                exact ih2 ((k + 1)) ok8 (by omega) (by omega)
              · skip
                refine z_bipush (pc := 46) dX11_plain_46 bp_40 ?_
                refine x_goto (pc := 48) (tgt := 52) dX11_plain_48 (by decide) ?_
                refine z_iast (pc := 52) (j := k) (v := 40) dX11_plain_52 sh_5 rfl (by omega) (by decide) ?_
                have ok9 := okI okl2 5 k (v := 40) (by decide) (by decide)
                refine z_iinc (pc := 53) dX11_plain_53 (List.Mem.tail _ (List.Mem.head _)) (Nat.le_of_ble_eq_true rfl) ?_
                show Ev _ _ _ _ _ [(1, .int (zN ((k : Int) + 1))), (0, .ref 5)] _ _
                refine x_goto (pc := 56) (tgt := 2) dX11_plain_56 (by decide) ?_
                refine x_weaken (L1 := [(0, .ref 5), (1, .int (zN ((((k + 1) : Nat) : Int))))]) (List.forall_mem_cons.mpr ⟨(List.Mem.tail _ (List.Mem.head _)), (List.forall_mem_cons.mpr ⟨(mem_ci (by omega) (List.Mem.head _)), (fun _ h => absurd h List.not_mem_nil)⟩)⟩) ?_
                have he10 : (wI (wA H 5 (fun j => if j < k then plA j else H.1 5 j)) 5 k (40)) = (wA H 5 (fun j => if j < (k + 1) then plA j else H.1 5 j)) := wA_step H 5 plA k _ (by unfold plA; first | (rw [if_pos (by omega)]; done) | (rw [if_neg (by omega), if_pos (by omega)]; done) | (rw [if_neg (by omega), if_neg (by omega), if_pos (by omega)]; done) | (rw [if_neg (by omega), if_neg (by omega), if_neg (by omega), if_pos (by omega)]; done) | (rw [if_neg (by omega), if_neg (by omega), if_neg (by omega), if_neg (by omega)]; done))
                refine Ev_heq he10 ?_
                have ok11 : okZ (wA H 5 (fun j => if j < (k + 1) then plA j else H.1 5 j)) := by rw [← he10]; exact ok9
                exact ih2 ((k + 1)) ok11 (by omega) (by omega)
            · skip
              refine z_bipush (pc := 35) dX11_plain_35 bp_20 ?_
              refine x_goto (pc := 37) (tgt := 52) dX11_plain_37 (by decide) ?_
              refine z_iast (pc := 52) (j := k) (v := 20) dX11_plain_52 sh_5 rfl (by omega) (by decide) ?_
              have ok12 := okI okl2 5 k (v := 20) (by decide) (by decide)
              refine z_iinc (pc := 53) dX11_plain_53 (List.Mem.tail _ (List.Mem.head _)) (Nat.le_of_ble_eq_true rfl) ?_
              show Ev _ _ _ _ _ [(1, .int (zN ((k : Int) + 1))), (0, .ref 5)] _ _
              refine x_goto (pc := 56) (tgt := 2) dX11_plain_56 (by decide) ?_
              refine x_weaken (L1 := [(0, .ref 5), (1, .int (zN ((((k + 1) : Nat) : Int))))]) (List.forall_mem_cons.mpr ⟨(List.Mem.tail _ (List.Mem.head _)), (List.forall_mem_cons.mpr ⟨(mem_ci (by omega) (List.Mem.head _)), (fun _ h => absurd h List.not_mem_nil)⟩)⟩) ?_
              have he13 : (wI (wA H 5 (fun j => if j < k then plA j else H.1 5 j)) 5 k (20)) = (wA H 5 (fun j => if j < (k + 1) then plA j else H.1 5 j)) := wA_step H 5 plA k _ (by unfold plA; first | (rw [if_pos (by omega)]; done) | (rw [if_neg (by omega), if_pos (by omega)]; done) | (rw [if_neg (by omega), if_neg (by omega), if_pos (by omega)]; done) | (rw [if_neg (by omega), if_neg (by omega), if_neg (by omega), if_pos (by omega)]; done) | (rw [if_neg (by omega), if_neg (by omega), if_neg (by omega), if_neg (by omega)]; done))
              refine Ev_heq he13 ?_
              have ok14 : okZ (wA H 5 (fun j => if j < (k + 1) then plA j else H.1 5 j)) := by rw [← he13]; exact ok12
              exact ih2 ((k + 1)) ok14 (by omega) (by omega)
          · skip
            refine z_iconst (pc := 25) dX11_plain_25 ?_
            refine x_goto (pc := 26) (tgt := 52) dX11_plain_26 (by decide) ?_
            refine z_iast (pc := 52) (j := k) (v := 3) dX11_plain_52 sh_5 rfl (by omega) (by decide) ?_
            have ok15 := okI okl2 5 k (v := 3) (by decide) (by decide)
            refine z_iinc (pc := 53) dX11_plain_53 (List.Mem.tail _ (List.Mem.head _)) (Nat.le_of_ble_eq_true rfl) ?_
            show Ev _ _ _ _ _ [(1, .int (zN ((k : Int) + 1))), (0, .ref 5)] _ _
            refine x_goto (pc := 56) (tgt := 2) dX11_plain_56 (by decide) ?_
            refine x_weaken (L1 := [(0, .ref 5), (1, .int (zN ((((k + 1) : Nat) : Int))))]) (List.forall_mem_cons.mpr ⟨(List.Mem.tail _ (List.Mem.head _)), (List.forall_mem_cons.mpr ⟨(mem_ci (by omega) (List.Mem.head _)), (fun _ h => absurd h List.not_mem_nil)⟩)⟩) ?_
            have he16 : (wI (wA H 5 (fun j => if j < k then plA j else H.1 5 j)) 5 k (3)) = (wA H 5 (fun j => if j < (k + 1) then plA j else H.1 5 j)) := wA_step H 5 plA k _ (by unfold plA; first | (rw [if_pos (by omega)]; done) | (rw [if_neg (by omega), if_pos (by omega)]; done) | (rw [if_neg (by omega), if_neg (by omega), if_pos (by omega)]; done) | (rw [if_neg (by omega), if_neg (by omega), if_neg (by omega), if_pos (by omega)]; done) | (rw [if_neg (by omega), if_neg (by omega), if_neg (by omega), if_neg (by omega)]; done))
            refine Ev_heq he16 ?_
            have ok17 : okZ (wA H 5 (fun j => if j < (k + 1) then plA j else H.1 5 j)) := by rw [← he16]; exact ok15
            exact ih2 ((k + 1)) ok17 (by omega) (by omega)
        · skip
          refine z_iconst (pc := 15) dX11_plain_15 ?_
          refine x_goto (pc := 16) (tgt := 52) dX11_plain_16 (by decide) ?_
          refine z_iast (pc := 52) (j := k) (v := 1) dX11_plain_52 sh_5 rfl (by omega) (by decide) ?_
          have ok18 := okI okl2 5 k (v := 1) (by decide) (by decide)
          refine z_iinc (pc := 53) dX11_plain_53 (List.Mem.tail _ (List.Mem.head _)) (Nat.le_of_ble_eq_true rfl) ?_
          show Ev _ _ _ _ _ [(1, .int (zN ((k : Int) + 1))), (0, .ref 5)] _ _
          refine x_goto (pc := 56) (tgt := 2) dX11_plain_56 (by decide) ?_
          refine x_weaken (L1 := [(0, .ref 5), (1, .int (zN ((((k + 1) : Nat) : Int))))]) (List.forall_mem_cons.mpr ⟨(List.Mem.tail _ (List.Mem.head _)), (List.forall_mem_cons.mpr ⟨(mem_ci (by omega) (List.Mem.head _)), (fun _ h => absurd h List.not_mem_nil)⟩)⟩) ?_
          have he19 : (wI (wA H 5 (fun j => if j < k then plA j else H.1 5 j)) 5 k (1)) = (wA H 5 (fun j => if j < (k + 1) then plA j else H.1 5 j)) := wA_step H 5 plA k _ (by unfold plA; first | (rw [if_pos (by omega)]; done) | (rw [if_neg (by omega), if_pos (by omega)]; done) | (rw [if_neg (by omega), if_neg (by omega), if_pos (by omega)]; done) | (rw [if_neg (by omega), if_neg (by omega), if_neg (by omega), if_pos (by omega)]; done) | (rw [if_neg (by omega), if_neg (by omega), if_neg (by omega), if_neg (by omega)]; done))
          refine Ev_heq he19 ?_
          have ok20 : okZ (wA H 5 (fun j => if j < (k + 1) then plA j else H.1 5 j)) := by rw [← he19]; exact ok18
          exact ih2 ((k + 1)) ok20 (by omega) (by omega)
  refine x_weaken (L1 := [(0, .ref 5), (1, .int (zN (((0 : Nat) : Int))))]) (List.forall_mem_cons.mpr ⟨(List.Mem.tail _ (List.Mem.head _)), (List.forall_mem_cons.mpr ⟨(mem_ci (by omega) (List.Mem.head _)), (fun _ h => absurd h List.not_mem_nil)⟩)⟩) ?_
  have he21 : H = (wA H 5 (fun j => if j < 0 then plA j else H.1 5 j)) := wA_zero H 5 plA
  refine Ev_heq he21 ?_
  have ok22 : okZ (wA H 5 (fun j => if j < 0 then plA j else H.1 5 j)) := by rw [← he21]; exact ok
  exact lp2 (477 - 0 + 1) (0) ok22 (by omega) (Nat.lt_succ_self _)

theorem c_X11_see {d : Nat} {H : ZH} (ok : okZ H) {k : Nat} (hk : k ≤ 400) (hsz : H.1 0 9 ≤ 400) : EvC zX (d + 1) mX11_see [.ref 0, .int (zN ((k : Int)))] (eh H) (zPi (fun (rz : Int) (Hz : ZH) => rz = (if (k : Int) < H.1 0 9 then H.1 4 k else -1) ∧ Hz = H)) := by
  show _ ∧ Ev zX mX11_see (EvC zX d) (zPi (fun (rz : Int) (Hz : ZH) => rz = (if (k : Int) < H.1 0 9 then H.1 4 k else -1) ∧ Hz = H)) 0 [(0, .ref 0), (1, .int (zN ((k : Int))))] [] (eh H)
  refine ⟨Nat.le_of_ble_eq_true rfl, ?_⟩
  refine x_iload_n (pc := 0) dX11_see_0 (List.Mem.tail _ (List.Mem.head _)) ?_
  refine x_aload_n (pc := 1) dX11_see_1 (List.Mem.head _) ?_
  have rd1 := ok.1 0 9
  refine z_getI (pc := 2) (k := 9) (v := H.1 0 9) dX11_see_2 lf_X11_93 sh_0 rfl rfl ?_
  refine z_icmp_ge (pc := 5) (tgt := 17) dX11_see_5 (by decide) (by omega) (by omega) (by omega) (by omega) (fun hb2 => ?_) (fun hb2 => ?_)
  · skip
    refine z_iconst (pc := 17) dX11_see_17 ?_
    refine z_ireturn (pc := 18) dX11_see_18 rfl (Or.inl rfl) ok (by decide) (by decide) ?_
    refine ⟨?_, rfl⟩
    first | (rw [if_pos (by omega)]; done) | (rw [if_neg (by omega)]; done)
  · skip
    refine x_aload_n (pc := 8) dX11_see_8 (List.Mem.head _) ?_
    refine z_getR (pc := 9) (k := 4) (r := 4) dX11_see_9 lf_X11_24 sh_0 rfl rf_0_4 ?_
    refine x_iload_n (pc := 12) dX11_see_12 (List.Mem.tail _ (List.Mem.head _)) ?_
    have rd3 := ok.1 4 k
    refine z_iald (pc := 13) (j := k) (v := H.1 4 k) dX11_see_13 sh_4 rfl (by omega) (by decide) rfl ?_
    refine x_goto (pc := 14) (tgt := 18) dX11_see_14 (by decide) ?_
    refine z_ireturn (pc := 18) dX11_see_18 rfl (Or.inl rfl) ok (by omega) (by omega) ?_
    refine ⟨?_, rfl⟩
    first | (rw [if_pos (by omega)]; done) | (rw [if_neg (by omega)]; done)

theorem c_X11_isSmall {d : Nat} {H : ZH} (ok : okZ H) {a : Int} (a1 : -2147483648 ≤ a) (a2 : a ≤ 2147483647) : EvC zX (d + 1) mX11_isSmall [.int (zN (a))] (eh H) (zPi (fun (rz : Int) (Hz : ZH) => rz = (if 97 ≤ a ∧ a ≤ 122 then 1 else 0) ∧ Hz = H)) := by
  show _ ∧ Ev zX mX11_isSmall (EvC zX d) (zPi (fun (rz : Int) (Hz : ZH) => rz = (if 97 ≤ a ∧ a ≤ 122 then 1 else 0) ∧ Hz = H)) 0 [(0, .int (zN (a)))] [] (eh H)
  refine ⟨Nat.le_of_ble_eq_true rfl, ?_⟩
  refine x_iload_n (pc := 0) dX11_isSmall_0 (List.Mem.head _) ?_
  refine z_bipush (pc := 1) dX11_isSmall_1 bp_97 ?_
  refine z_icmp_lt (pc := 3) (tgt := 16) dX11_isSmall_3 (by decide) (by omega) (by omega) (by decide) (by decide) (fun hb1 => ?_) (fun hb1 => ?_)
  · skip
    refine z_iconst (pc := 16) dX11_isSmall_16 ?_
    refine z_ireturn (pc := 17) dX11_isSmall_17 rfl (Or.inr ⟨rfl, by omega⟩) ok (by decide) (by decide) ?_
    refine ⟨?_, rfl⟩
    first | (rw [if_pos (by omega)]; done) | (rw [if_neg (by omega)]; done)
  · skip
    refine x_iload_n (pc := 6) dX11_isSmall_6 (List.Mem.head _) ?_
    refine z_bipush (pc := 7) dX11_isSmall_7 bp_122 ?_
    refine z_icmp_gt (pc := 9) (tgt := 16) dX11_isSmall_9 (by decide) (by omega) (by omega) (by decide) (by decide) (fun hb2 => ?_) (fun hb2 => ?_)
    · skip
      refine z_iconst (pc := 16) dX11_isSmall_16 ?_
      refine z_ireturn (pc := 17) dX11_isSmall_17 rfl (Or.inr ⟨rfl, by omega⟩) ok (by decide) (by decide) ?_
      refine ⟨?_, rfl⟩
      first | (rw [if_pos (by omega)]; done) | (rw [if_neg (by omega)]; done)
    · skip
      refine z_iconst (pc := 12) dX11_isSmall_12 ?_
      refine x_goto (pc := 13) (tgt := 17) dX11_isSmall_13 (by decide) ?_
      refine z_ireturn (pc := 17) dX11_isSmall_17 rfl (Or.inr ⟨rfl, by omega⟩) ok (by decide) (by decide) ?_
      refine ⟨?_, rfl⟩
      first | (rw [if_pos (by omega)]; done) | (rw [if_neg (by omega)]; done)

theorem c_X11_isDigit {d : Nat} {H : ZH} (ok : okZ H) {a : Int} (a1 : -2147483648 ≤ a) (a2 : a ≤ 2147483647) : EvC zX (d + 1) mX11_isDigit [.int (zN (a))] (eh H) (zPi (fun (rz : Int) (Hz : ZH) => rz = (if 48 ≤ a ∧ a ≤ 57 then 1 else 0) ∧ Hz = H)) := by
  show _ ∧ Ev zX mX11_isDigit (EvC zX d) (zPi (fun (rz : Int) (Hz : ZH) => rz = (if 48 ≤ a ∧ a ≤ 57 then 1 else 0) ∧ Hz = H)) 0 [(0, .int (zN (a)))] [] (eh H)
  refine ⟨Nat.le_of_ble_eq_true rfl, ?_⟩
  refine x_iload_n (pc := 0) dX11_isDigit_0 (List.Mem.head _) ?_
  refine z_bipush (pc := 1) dX11_isDigit_1 bp_48 ?_
  refine z_icmp_lt (pc := 3) (tgt := 16) dX11_isDigit_3 (by decide) (by omega) (by omega) (by decide) (by decide) (fun hb1 => ?_) (fun hb1 => ?_)
  · skip
    refine z_iconst (pc := 16) dX11_isDigit_16 ?_
    refine z_ireturn (pc := 17) dX11_isDigit_17 rfl (Or.inr ⟨rfl, by omega⟩) ok (by decide) (by decide) ?_
    refine ⟨?_, rfl⟩
    first | (rw [if_pos (by omega)]; done) | (rw [if_neg (by omega)]; done)
  · skip
    refine x_iload_n (pc := 6) dX11_isDigit_6 (List.Mem.head _) ?_
    refine z_bipush (pc := 7) dX11_isDigit_7 bp_57 ?_
    refine z_icmp_gt (pc := 9) (tgt := 16) dX11_isDigit_9 (by decide) (by omega) (by omega) (by decide) (by decide) (fun hb2 => ?_) (fun hb2 => ?_)
    · skip
      refine z_iconst (pc := 16) dX11_isDigit_16 ?_
      refine z_ireturn (pc := 17) dX11_isDigit_17 rfl (Or.inr ⟨rfl, by omega⟩) ok (by decide) (by decide) ?_
      refine ⟨?_, rfl⟩
      first | (rw [if_pos (by omega)]; done) | (rw [if_neg (by omega)]; done)
    · skip
      refine z_iconst (pc := 12) dX11_isDigit_12 ?_
      refine x_goto (pc := 13) (tgt := 17) dX11_isDigit_13 (by decide) ?_
      refine z_ireturn (pc := 17) dX11_isDigit_17 rfl (Or.inr ⟨rfl, by omega⟩) ok (by decide) (by decide) ?_
      refine ⟨?_, rfl⟩
      first | (rw [if_pos (by omega)]; done) | (rw [if_neg (by omega)]; done)

theorem c_X11_fails {d : Nat} {H : ZH} (ok : okZ H) {a : Int} (a1 : -2147483648 ≤ a) (a2 : a ≤ 2147483647) : EvC zX (d + 1) mX11_fails [.ref 0, .int (zN (a))] (eh H) (zPv (fun (H1 : ZH) => H1 = if H.1 0 12 = 0 then wI (wI H 0 12 (if H.1 0 10 = 35 then 1 else a)) 0 13 (H.1 0 7) else H)) := by
  show _ ∧ Ev zX mX11_fails (EvC zX d) (zPv (fun (H1 : ZH) => H1 = if H.1 0 12 = 0 then wI (wI H 0 12 (if H.1 0 10 = 35 then 1 else a)) 0 13 (H.1 0 7) else H)) 0 [(0, .ref 0), (1, .int (zN (a)))] [] (eh H)
  refine ⟨Nat.le_of_ble_eq_true rfl, ?_⟩
  refine x_aload_n (pc := 0) dX11_fails_0 (List.Mem.head _) ?_
  have rd1 := ok.1 0 12
  refine z_getI (pc := 1) (k := 12) (v := H.1 0 12) dX11_fails_1 lf_X11_133 sh_0 rfl rfl ?_
  refine z_if_eq (pc := 4) (tgt := 8) dX11_fails_4 (by decide) (by omega) (by omega) (fun hb2 => ?_) (fun hb2 => ?_)
  · skip
    refine x_aload_n (pc := 8) dX11_fails_8 (List.Mem.head _) ?_
    refine x_aload_n (pc := 9) dX11_fails_9 (List.Mem.head _) ?_
    have rd3 := ok.1 0 10
    refine z_getI (pc := 10) (k := 10) (v := H.1 0 10) dX11_fails_10 lf_X11_117 sh_0 rfl rfl ?_
    refine z_bipush (pc := 13) dX11_fails_13 bp_35 ?_
    refine z_icmp_ne (pc := 15) (tgt := 22) dX11_fails_15 (by decide) (by omega) (by omega) (by decide) (by decide) (fun hb4 => ?_) (fun hb4 => ?_)
    · skip
      refine x_iload_n (pc := 22) dX11_fails_22 (List.Mem.tail _ (List.Mem.head _)) ?_
      refine z_putI (pc := 23) (k := 12) dX11_fails_23 lp_X11_133 sh_0 rfl ?_
      have ok5 := okI ok 0 12 (v := a) (by omega) (by omega)
      refine x_aload_n (pc := 26) dX11_fails_26 (List.Mem.head _) ?_
      refine x_aload_n (pc := 27) dX11_fails_27 (List.Mem.head _) ?_
      have rd6 := ok.1 0 7
      refine z_getI (pc := 28) (k := 7) (v := H.1 0 7) dX11_fails_28 lf_X11_108 sh_0 rfl (by rw [wI1k (by omega)]) ?_
      refine z_putI (pc := 31) (k := 13) dX11_fails_31 lp_X11_136 sh_0 rfl ?_
      have ok7 := okI ok5 0 13 (v := (H.1 0 7)) (by omega) (by omega)
      refine z_vreturn (pc := 34) dX11_fails_34 rfl ok7 ?_
      first | (rw [if_pos (by omega), if_pos (by omega)]; done) | (rw [if_pos (by omega), if_neg (by omega)]; done) | (rw [if_neg (by omega)]; done)
    · skip
      refine z_iconst (pc := 18) dX11_fails_18 ?_
      refine x_goto (pc := 19) (tgt := 23) dX11_fails_19 (by decide) ?_
      refine z_putI (pc := 23) (k := 12) dX11_fails_23 lp_X11_133 sh_0 rfl ?_
      have ok8 := okI ok 0 12 (v := 1) (by decide) (by decide)
      refine x_aload_n (pc := 26) dX11_fails_26 (List.Mem.head _) ?_
      refine x_aload_n (pc := 27) dX11_fails_27 (List.Mem.head _) ?_
      have rd9 := ok.1 0 7
      refine z_getI (pc := 28) (k := 7) (v := H.1 0 7) dX11_fails_28 lf_X11_108 sh_0 rfl (by rw [wI1k (by omega)]) ?_
      refine z_putI (pc := 31) (k := 13) dX11_fails_31 lp_X11_136 sh_0 rfl ?_
      have ok10 := okI ok8 0 13 (v := (H.1 0 7)) (by omega) (by omega)
      refine z_vreturn (pc := 34) dX11_fails_34 rfl ok10 ?_
      first | (rw [if_pos (by omega), if_pos (by omega)]; done) | (rw [if_pos (by omega), if_neg (by omega)]; done) | (rw [if_neg (by omega)]; done)
  · skip
    refine z_vreturn (pc := 7) dX11_fails_7 rfl ok ?_
    first | (rw [if_pos (by omega), if_pos (by omega)]; done) | (rw [if_pos (by omega), if_neg (by omega)]; done) | (rw [if_neg (by omega)]; done)

theorem c_X11_is {d : Nat} {H : ZH} (ok : okZ H) {a : Int} (a1 : -2147483648 ≤ a) (a2 : a ≤ 2147483647) : EvC zX (d + 1) mX11_is [.ref 0, .int (zN (a))] (eh H) (zPi (fun (rz : Int) (Hz : ZH) => rz = (if H.1 0 12 = 0 ∧ H.1 0 10 = a then 1 else 0) ∧ Hz = H)) := by
  show _ ∧ Ev zX mX11_is (EvC zX d) (zPi (fun (rz : Int) (Hz : ZH) => rz = (if H.1 0 12 = 0 ∧ H.1 0 10 = a then 1 else 0) ∧ Hz = H)) 0 [(0, .ref 0), (1, .int (zN (a)))] [] (eh H)
  refine ⟨Nat.le_of_ble_eq_true rfl, ?_⟩
  refine x_aload_n (pc := 0) dX11_is_0 (List.Mem.head _) ?_
  have rd1 := ok.1 0 12
  refine z_getI (pc := 1) (k := 12) (v := H.1 0 12) dX11_is_1 lf_X11_133 sh_0 rfl rfl ?_
  refine z_if_ne (pc := 4) (tgt := 19) dX11_is_4 (by decide) (by omega) (by omega) (fun hb2 => ?_) (fun hb2 => ?_)
  · skip
    refine z_iconst (pc := 19) dX11_is_19 ?_
    refine z_ireturn (pc := 20) dX11_is_20 rfl (Or.inr ⟨rfl, by omega⟩) ok (by decide) (by decide) ?_
    refine ⟨?_, rfl⟩
    first | (rw [if_pos (by omega)]; done) | (rw [if_neg (by omega)]; done)
  · skip
    refine x_aload_n (pc := 7) dX11_is_7 (List.Mem.head _) ?_
    have rd3 := ok.1 0 10
    refine z_getI (pc := 8) (k := 10) (v := H.1 0 10) dX11_is_8 lf_X11_117 sh_0 rfl rfl ?_
    refine x_iload_n (pc := 11) dX11_is_11 (List.Mem.tail _ (List.Mem.head _)) ?_
    refine z_icmp_ne (pc := 12) (tgt := 19) dX11_is_12 (by decide) (by omega) (by omega) (by omega) (by omega) (fun hb4 => ?_) (fun hb4 => ?_)
    · skip
      refine z_iconst (pc := 19) dX11_is_19 ?_
      refine z_ireturn (pc := 20) dX11_is_20 rfl (Or.inr ⟨rfl, by omega⟩) ok (by decide) (by decide) ?_
      refine ⟨?_, rfl⟩
      first | (rw [if_pos (by omega)]; done) | (rw [if_neg (by omega)]; done)
    · skip
      refine z_iconst (pc := 15) dX11_is_15 ?_
      refine x_goto (pc := 16) (tgt := 20) dX11_is_16 (by decide) ?_
      refine z_ireturn (pc := 20) dX11_is_20 rfl (Or.inr ⟨rfl, by omega⟩) ok (by decide) (by decide) ?_
      refine ⟨?_, rfl⟩
      first | (rw [if_pos (by omega)]; done) | (rw [if_neg (by omega)]; done)

theorem c_X11_lanesNeeded {d : Nat} {H : ZH} (ok : okZ H)  (hn8 : 0 ≤ H.1 5 1 ∧ H.1 5 1 ≤ 8) (hl : ∀ j : Nat, (j : Int) < H.1 5 1 → 0 ≤ H.1 5 (2 + j) ∧ H.1 5 (2 + j) ≤ 3) : EvC zX (d + 1) mX11_lanesNeeded [.ref 0] (eh H) (zPi (fun (rz : Int) (Hz : ZH) => rz = (lnd (fun j => H.1 5 (2 + j)) (H.1 5 1).toNat) ∧ Hz = H)) := by
  show _ ∧ Ev zX mX11_lanesNeeded (EvC zX d) (zPi (fun (rz : Int) (Hz : ZH) => rz = (lnd (fun j => H.1 5 (2 + j)) (H.1 5 1).toNat) ∧ Hz = H)) 0 [(0, .ref 0)] [] (eh H)
  refine ⟨Nat.le_of_ble_eq_true rfl, ?_⟩
  refine z_iconst (pc := 0) dX11_lanesNeeded_0 ?_
  refine x_istore_n (pc := 1) dX11_lanesNeeded_1 (Nat.le_of_ble_eq_true rfl) ?_
  show Ev _ _ _ _ _ [(1, .int (zN (1))), (0, .ref 0)] _ _
  refine z_iconst (pc := 2) dX11_lanesNeeded_2 ?_
  refine x_istore_n (pc := 3) dX11_lanesNeeded_3 (Nat.le_of_ble_eq_true rfl) ?_
  show Ev _ _ _ _ _ [(2, .int (zN (0))), (1, .int (zN (1))), (0, .ref 0)] _ _
  have lp4 : ∀ (nF : Nat) (k : Nat), ((k : Int) ≤ H.1 5 1) → (H.1 5 1).toNat - k < nF → Ev zX mX11_lanesNeeded (EvC zX d) (zPi (fun (rz : Int) (Hz : ZH) => rz = (lnd (fun j => H.1 5 (2 + j)) (H.1 5 1).toNat) ∧ Hz = H)) 4 [(0, .ref 0), (1, .int (zN ((lnd (fun j => H.1 5 (2 + j)) k)))), (2, .int (zN ((k : Int))))] [] (eh H) := by
    intro nF
    induction nF with
    | zero => intro k hk hm; exact absurd hm (Nat.not_lt_zero _)
    | succ nF ih4 =>
      intro k hk hm
      have lb := lnd_bd (f := fun j => H.1 5 (2 + j)) k (fun j hj => (hl j (by omega)).2)
      refine x_iload_n (pc := 4) dX11_lanesNeeded_4 (List.Mem.tail _ (List.Mem.tail _ (List.Mem.head _))) ?_
      refine x_aload_n (pc := 5) dX11_lanesNeeded_5 (List.Mem.head _) ?_
      refine z_getR (pc := 6) (k := 5) (r := 5) dX11_lanesNeeded_6 lf_X11_27 sh_0 rfl rf_0_5 ?_
      refine z_iconst (pc := 9) dX11_lanesNeeded_9 ?_
      have rd1 := ok.1 5 1
      refine z_iald (pc := 10) (j := 1) (v := H.1 5 1) dX11_lanesNeeded_10 sh_5 rfl (Nat.le_of_ble_eq_true rfl) (by decide) rfl ?_
      refine z_icmp_ge (pc := 11) (tgt := 49) dX11_lanesNeeded_11 (by decide) (by omega) (by omega) (by omega) (by omega) (fun hb2 => ?_) (fun hb2 => ?_)
      · skip
        refine x_iload_n (pc := 49) dX11_lanesNeeded_49 (List.Mem.tail _ (List.Mem.head _)) ?_
        refine z_ireturn (pc := 50) dX11_lanesNeeded_50 rfl (Or.inl rfl) ok (by omega) (by omega) ?_
        exact ⟨by rw [show (H.1 5 1).toNat = k by omega], rfl⟩
      · skip
        have hlk := hl k (by omega)
        refine x_aload_n (pc := 14) dX11_lanesNeeded_14 (List.Mem.head _) ?_
        refine z_getR (pc := 15) (k := 5) (r := 5) dX11_lanesNeeded_15 lf_X11_27 sh_0 rfl rf_0_5 ?_
        refine z_iconst (pc := 18) dX11_lanesNeeded_18 ?_
        refine x_iload_n (pc := 19) dX11_lanesNeeded_19 (List.Mem.tail _ (List.Mem.tail _ (List.Mem.head _))) ?_
        refine z_iadd (pc := 20) dX11_lanesNeeded_20 ?_
        have rd3 := ok.1 5 (2 + k)
        refine z_iald (pc := 21) (j := 2 + k) (v := H.1 5 (2 + k)) dX11_lanesNeeded_21 sh_5 (by omega) (by omega) (by decide) rfl ?_
        refine z_iconst (pc := 22) dX11_lanesNeeded_22 ?_
        refine z_iadd (pc := 23) dX11_lanesNeeded_23 ?_
        refine x_iload_n (pc := 24) dX11_lanesNeeded_24 (List.Mem.tail _ (List.Mem.head _)) ?_
        refine z_icmp_le (pc := 25) (tgt := 41) dX11_lanesNeeded_25 (by decide) (by omega) (by omega) (by omega) (by omega) (fun hb4 => ?_) (fun hb4 => ?_)
        · skip
          refine x_iload_n (pc := 41) dX11_lanesNeeded_41 (List.Mem.tail _ (List.Mem.head _)) ?_
          refine x_istore_n (pc := 42) dX11_lanesNeeded_42 (Nat.le_of_ble_eq_true rfl) ?_
          show Ev _ _ _ _ _ [(1, .int (zN ((lnd (fun j => H.1 5 (2 + j)) k)))), (0, .ref 0), (2, .int (zN ((k : Int))))] _ _
          refine z_iinc (pc := 43) dX11_lanesNeeded_43 (List.Mem.tail _ (List.Mem.tail _ (List.Mem.head _))) (Nat.le_of_ble_eq_true rfl) ?_
          show Ev _ _ _ _ _ [(2, .int (zN ((k : Int) + 1))), (1, .int (zN ((lnd (fun j => H.1 5 (2 + j)) k)))), (0, .ref 0)] _ _
          refine x_goto (pc := 46) (tgt := 4) dX11_lanesNeeded_46 (by decide) ?_
          refine x_weaken (L1 := [(0, .ref 0), (1, .int (zN ((lnd (fun j => H.1 5 (2 + j)) (k + 1))))), (2, .int (zN ((((k + 1) : Nat) : Int))))]) (List.forall_mem_cons.mpr ⟨(List.Mem.tail _ (List.Mem.tail _ (List.Mem.head _))), (List.forall_mem_cons.mpr ⟨(mem_ci (by show (if (lnd (fun j => H.1 5 (2 + j)) k) < H.1 5 (2 + k) + 1 then H.1 5 (2 + k) + 1 else (lnd (fun j => H.1 5 (2 + j)) k)) = _; first | (rw [if_pos (by omega)]; done) | (rw [if_neg (by omega)]; done)) (List.Mem.tail _ (List.Mem.head _))), (List.forall_mem_cons.mpr ⟨(mem_ci (by omega) (List.Mem.head _)), (fun _ h => absurd h List.not_mem_nil)⟩)⟩)⟩) ?_
          exact ih4 ((k + 1)) (by first | assumption | omega) (by omega)
        · skip
          refine x_aload_n (pc := 28) dX11_lanesNeeded_28 (List.Mem.head _) ?_
          refine z_getR (pc := 29) (k := 5) (r := 5) dX11_lanesNeeded_29 lf_X11_27 sh_0 rfl rf_0_5 ?_
          refine z_iconst (pc := 32) dX11_lanesNeeded_32 ?_
          refine x_iload_n (pc := 33) dX11_lanesNeeded_33 (List.Mem.tail _ (List.Mem.tail _ (List.Mem.head _))) ?_
          refine z_iadd (pc := 34) dX11_lanesNeeded_34 ?_
          have rd5 := ok.1 5 (2 + k)
          refine z_iald (pc := 35) (j := 2 + k) (v := H.1 5 (2 + k)) dX11_lanesNeeded_35 sh_5 (by omega) (by omega) (by decide) rfl ?_
          refine z_iconst (pc := 36) dX11_lanesNeeded_36 ?_
          refine z_iadd (pc := 37) dX11_lanesNeeded_37 ?_
          refine x_goto (pc := 38) (tgt := 42) dX11_lanesNeeded_38 (by decide) ?_
          refine x_istore_n (pc := 42) dX11_lanesNeeded_42 (Nat.le_of_ble_eq_true rfl) ?_
          show Ev _ _ _ _ _ [(1, .int (zN (((H.1 5 (2 + k)) + 1)))), (0, .ref 0), (2, .int (zN ((k : Int))))] _ _
          refine z_iinc (pc := 43) dX11_lanesNeeded_43 (List.Mem.tail _ (List.Mem.tail _ (List.Mem.head _))) (Nat.le_of_ble_eq_true rfl) ?_
          show Ev _ _ _ _ _ [(2, .int (zN ((k : Int) + 1))), (1, .int (zN (((H.1 5 (2 + k)) + 1)))), (0, .ref 0)] _ _
          refine x_goto (pc := 46) (tgt := 4) dX11_lanesNeeded_46 (by decide) ?_
          refine x_weaken (L1 := [(0, .ref 0), (1, .int (zN ((lnd (fun j => H.1 5 (2 + j)) (k + 1))))), (2, .int (zN ((((k + 1) : Nat) : Int))))]) (List.forall_mem_cons.mpr ⟨(List.Mem.tail _ (List.Mem.tail _ (List.Mem.head _))), (List.forall_mem_cons.mpr ⟨(mem_ci (by show (if (lnd (fun j => H.1 5 (2 + j)) k) < H.1 5 (2 + k) + 1 then H.1 5 (2 + k) + 1 else (lnd (fun j => H.1 5 (2 + j)) k)) = _; first | (rw [if_pos (by omega)]; done) | (rw [if_neg (by omega)]; done)) (List.Mem.tail _ (List.Mem.head _))), (List.forall_mem_cons.mpr ⟨(mem_ci (by omega) (List.Mem.head _)), (fun _ h => absurd h List.not_mem_nil)⟩)⟩)⟩) ?_
          exact ih4 ((k + 1)) (by first | assumption | omega) (by omega)
  refine x_weaken (L1 := [(0, .ref 0), (1, .int (zN ((lnd (fun j => H.1 5 (2 + j)) 0)))), (2, .int (zN (((0 : Nat) : Int))))]) (List.forall_mem_cons.mpr ⟨(List.Mem.tail _ (List.Mem.tail _ (List.Mem.head _))), (List.forall_mem_cons.mpr ⟨(mem_ci (rfl) (List.Mem.tail _ (List.Mem.head _))), (List.forall_mem_cons.mpr ⟨(mem_ci (by omega) (List.Mem.head _)), (fun _ h => absurd h List.not_mem_nil)⟩)⟩)⟩) ?_
  exact lp4 ((H.1 5 1).toNat - 0 + 1) (0) (by first | assumption | omega) (Nat.lt_succ_self _)

theorem c_X6_lanesNeeded {d : Nat} {H : ZH} (ok : okZ H) {n : Int} (hn8 : 0 ≤ n ∧ n ≤ 8) (h1 : H.1 30 1 = n) (hl : ∀ j : Nat, (j : Int) < n → 0 ≤ H.1 31 j ∧ H.1 31 j ≤ 3) : EvC zX (d + 1) mX6_lanesNeeded [.ref 30] (eh H) (zPi (fun (rz : Int) (Hz : ZH) => rz = (lnd (H.1 31) n.toNat) ∧ Hz = H)) := by
  show _ ∧ Ev zX mX6_lanesNeeded (EvC zX d) (zPi (fun (rz : Int) (Hz : ZH) => rz = (lnd (H.1 31) n.toNat) ∧ Hz = H)) 0 [(0, .ref 30)] [] (eh H)
  refine ⟨Nat.le_of_ble_eq_true rfl, ?_⟩
  refine z_iconst (pc := 0) dX6_lanesNeeded_0 ?_
  refine x_istore_n (pc := 1) dX6_lanesNeeded_1 (Nat.le_of_ble_eq_true rfl) ?_
  show Ev _ _ _ _ _ [(1, .int (zN (1))), (0, .ref 30)] _ _
  refine z_iconst (pc := 2) dX6_lanesNeeded_2 ?_
  refine x_istore_n (pc := 3) dX6_lanesNeeded_3 (Nat.le_of_ble_eq_true rfl) ?_
  show Ev _ _ _ _ _ [(2, .int (zN (0))), (1, .int (zN (1))), (0, .ref 30)] _ _
  have lp4 : ∀ (nF : Nat) (k : Nat), ((k : Int) ≤ n) → n.toNat - k < nF → Ev zX mX6_lanesNeeded (EvC zX d) (zPi (fun (rz : Int) (Hz : ZH) => rz = (lnd (H.1 31) n.toNat) ∧ Hz = H)) 4 [(0, .ref 30), (1, .int (zN ((lnd (H.1 31) k)))), (2, .int (zN ((k : Int))))] [] (eh H) := by
    intro nF
    induction nF with
    | zero => intro k hk hm; exact absurd hm (Nat.not_lt_zero _)
    | succ nF ih4 =>
      intro k hk hm
      have lb := lnd_bd (f := H.1 31) k (fun j hj => (hl j (by omega)).2)
      refine x_iload_n (pc := 4) dX6_lanesNeeded_4 (List.Mem.tail _ (List.Mem.tail _ (List.Mem.head _))) ?_
      refine x_aload_n (pc := 5) dX6_lanesNeeded_5 (List.Mem.head _) ?_
      refine z_getI (pc := 6) (k := 1) (v := n) dX6_lanesNeeded_6 lf_X6_37 sh_30 rfl (by rw [h1]) ?_
      refine z_icmp_ge (pc := 9) (tgt := 31) dX6_lanesNeeded_9 (by decide) (by omega) (by omega) (by omega) (by omega) (fun hb1 => ?_) (fun hb1 => ?_)
      · skip
        refine x_iload_n (pc := 31) dX6_lanesNeeded_31 (List.Mem.tail _ (List.Mem.head _)) ?_
        refine z_ireturn (pc := 32) dX6_lanesNeeded_32 rfl (Or.inl rfl) ok (by omega) (by omega) ?_
        exact ⟨by rw [show n.toNat = k by omega], rfl⟩
      · skip
        have hlk := hl k (by omega)
        refine x_iload_n (pc := 12) dX6_lanesNeeded_12 (List.Mem.tail _ (List.Mem.head _)) ?_
        refine x_aload_n (pc := 13) dX6_lanesNeeded_13 (List.Mem.head _) ?_
        refine z_getR (pc := 14) (k := 2) (r := 31) dX6_lanesNeeded_14 lf_X6_15 sh_30 rfl rf_30_2 ?_
        refine x_iload_n (pc := 17) dX6_lanesNeeded_17 (List.Mem.tail _ (List.Mem.tail _ (List.Mem.head _))) ?_
        have rd2 := ok.1 31 k
        refine z_iald (pc := 18) (j := k) (v := H.1 31 k) dX6_lanesNeeded_18 sh_31 rfl (by omega) (by decide) rfl ?_
        refine z_iconst (pc := 19) dX6_lanesNeeded_19 ?_
        refine z_iadd (pc := 20) dX6_lanesNeeded_20 ?_
        refine z_mmax (pc := 21) dX6_lanesNeeded_21 ml_X6_55 (Nat.le_of_ble_eq_true rfl) (by omega) (by omega) (by omega) (by omega) ?_
        refine x_istore_n (pc := 24) dX6_lanesNeeded_24 (Nat.le_of_ble_eq_true rfl) ?_
        show Ev _ _ _ _ _ [(1, .int (zN ((if (lnd (H.1 31) k) < ((H.1 31 k) + 1) then ((H.1 31 k) + 1) else (lnd (H.1 31) k))))), (0, .ref 30), (2, .int (zN ((k : Int))))] _ _
        refine z_iinc (pc := 25) dX6_lanesNeeded_25 (List.Mem.tail _ (List.Mem.tail _ (List.Mem.head _))) (Nat.le_of_ble_eq_true rfl) ?_
        show Ev _ _ _ _ _ [(2, .int (zN ((k : Int) + 1))), (1, .int (zN ((if (lnd (H.1 31) k) < ((H.1 31 k) + 1) then ((H.1 31 k) + 1) else (lnd (H.1 31) k))))), (0, .ref 30)] _ _
        refine x_goto (pc := 28) (tgt := 4) dX6_lanesNeeded_28 (by decide) ?_
        refine x_weaken (L1 := [(0, .ref 30), (1, .int (zN ((lnd (H.1 31) (k + 1))))), (2, .int (zN ((((k + 1) : Nat) : Int))))]) (List.forall_mem_cons.mpr ⟨(List.Mem.tail _ (List.Mem.tail _ (List.Mem.head _))), (List.forall_mem_cons.mpr ⟨(mem_ci (rfl) (List.Mem.tail _ (List.Mem.head _))), (List.forall_mem_cons.mpr ⟨(mem_ci (by omega) (List.Mem.head _)), (fun _ h => absurd h List.not_mem_nil)⟩)⟩)⟩) ?_
        exact ih4 ((k + 1)) (by first | assumption | omega) (by omega)
  refine x_weaken (L1 := [(0, .ref 30), (1, .int (zN ((lnd (H.1 31) 0)))), (2, .int (zN (((0 : Nat) : Int))))]) (List.forall_mem_cons.mpr ⟨(List.Mem.tail _ (List.Mem.tail _ (List.Mem.head _))), (List.forall_mem_cons.mpr ⟨(mem_ci (rfl) (List.Mem.tail _ (List.Mem.head _))), (List.forall_mem_cons.mpr ⟨(mem_ci (by omega) (List.Mem.head _)), (fun _ h => absurd h List.not_mem_nil)⟩)⟩)⟩) ?_
  exact lp4 (n.toNat - 0 + 1) (0) (by first | assumption | omega) (Nat.lt_succ_self _)

theorem c_X6_clear {d : Nat} {H : ZH} (ok : okZ H)  : EvC zX (d + 1) mX6_clear [.ref 30] (eh H) (zPv (fun (Hz : ZH) => Hz = wI (wI (wI (wI (wI (wI (wI (wI H 30 0 1) 30 1 0) 30 6 0) 30 7 0) 30 8 3) 30 9 20) 30 10 40) 30 11 0)) := by
  show _ ∧ Ev zX mX6_clear (EvC zX d) (zPv (fun (Hz : ZH) => Hz = wI (wI (wI (wI (wI (wI (wI (wI H 30 0 1) 30 1 0) 30 6 0) 30 7 0) 30 8 3) 30 9 20) 30 10 40) 30 11 0)) 0 [(0, .ref 30)] [] (eh H)
  refine ⟨Nat.le_of_ble_eq_true rfl, ?_⟩
  refine x_aload_n (pc := 0) dX6_clear_0 (List.Mem.head _) ?_
  refine z_iconst (pc := 1) dX6_clear_1 ?_
  refine z_putI (pc := 2) (k := 0) dX6_clear_2 lp_X6_9 sh_30 rfl ?_
  have ok1 := okI ok 30 0 (v := 1) (by decide) (by decide)
  refine x_aload_n (pc := 5) dX6_clear_5 (List.Mem.head _) ?_
  refine z_iconst (pc := 6) dX6_clear_6 ?_
  refine z_putI (pc := 7) (k := 1) dX6_clear_7 lp_X6_37 sh_30 rfl ?_
  have ok2 := okI ok1 30 1 (v := 0) (by decide) (by decide)
  refine x_aload_n (pc := 10) dX6_clear_10 (List.Mem.head _) ?_
  refine z_iconst (pc := 11) dX6_clear_11 ?_
  refine z_putI (pc := 12) (k := 6) dX6_clear_12 lp_X6_40 sh_30 rfl ?_
  have ok3 := okI ok2 30 6 (v := 0) (by decide) (by decide)
  refine x_aload_n (pc := 15) dX6_clear_15 (List.Mem.head _) ?_
  refine z_iconst (pc := 16) dX6_clear_16 ?_
  refine z_putI (pc := 17) (k := 7) dX6_clear_17 lp_X6_43 sh_30 rfl ?_
  have ok4 := okI ok3 30 7 (v := 0) (by decide) (by decide)
  refine x_aload_n (pc := 20) dX6_clear_20 (List.Mem.head _) ?_
  refine z_iconst (pc := 21) dX6_clear_21 ?_
  refine z_putI (pc := 22) (k := 8) dX6_clear_22 lp_X6_28 sh_30 rfl ?_
  have ok5 := okI ok4 30 8 (v := 3) (by decide) (by decide)
  refine x_aload_n (pc := 25) dX6_clear_25 (List.Mem.head _) ?_
  refine z_bipush (pc := 26) dX6_clear_26 bp_20 ?_
  refine z_putI (pc := 28) (k := 9) dX6_clear_28 lp_X6_31 sh_30 rfl ?_
  have ok6 := okI ok5 30 9 (v := 20) (by decide) (by decide)
  refine x_aload_n (pc := 31) dX6_clear_31 (List.Mem.head _) ?_
  refine z_bipush (pc := 32) dX6_clear_32 bp_40 ?_
  refine z_putI (pc := 34) (k := 10) dX6_clear_34 lp_X6_34 sh_30 rfl ?_
  have ok7 := okI ok6 30 10 (v := 40) (by decide) (by decide)
  refine x_aload_n (pc := 37) dX6_clear_37 (List.Mem.head _) ?_
  refine z_iconst (pc := 38) dX6_clear_38 ?_
  refine z_putI (pc := 39) (k := 11) dX6_clear_39 lp_X6_46 sh_30 rfl ?_
  have ok8 := okI ok7 30 11 (v := 0) (by decide) (by decide)
  refine z_vreturn (pc := 42) dX6_clear_42 rfl ok8 ?_
  rfl

theorem c_X1_clear {d : Nat} {H : ZH} (ok : okZ H)  : EvC zX (d + 1) mX1_clear [.ref 55] (eh H) (zPv (fun (Hz : ZH) => Hz = wI (wI H 55 0 0) 55 4 0)) := by
  show _ ∧ Ev zX mX1_clear (EvC zX d) (zPv (fun (Hz : ZH) => Hz = wI (wI H 55 0 0) 55 4 0)) 0 [(0, .ref 55)] [] (eh H)
  refine ⟨Nat.le_of_ble_eq_true rfl, ?_⟩
  refine x_aload_n (pc := 0) dX1_clear_0 (List.Mem.head _) ?_
  refine z_iconst (pc := 1) dX1_clear_1 ?_
  refine z_putI (pc := 2) (k := 0) dX1_clear_2 lp_X1_21 sh_55 rfl ?_
  have ok1 := okI ok 55 0 (v := 0) (by decide) (by decide)
  refine x_aload_n (pc := 5) dX1_clear_5 (List.Mem.head _) ?_
  refine z_iconst (pc := 6) dX1_clear_6 ?_
  refine z_putI (pc := 7) (k := 4) dX1_clear_7 lp_X1_25 sh_55 rfl ?_
  have ok2 := okI ok1 55 4 (v := 0) (by decide) (by decide)
  refine z_vreturn (pc := 10) dX1_clear_10 rfl ok2 ?_
  rfl

theorem c_X1_addStep {d : Nat} {H : ZH} (ok : okZ H) {w v : Int} (hw : 0 ≤ w ∧ w ≤ 18) (hv : 0 ≤ v ∧ v ≤ 999) (hz : 0 ≤ H.1 55 4 ∧ H.1 55 4 < 400) : EvC zX (d + 1) mX1_addStep [.ref 55, .int (zN (w)), .int (zN (v))] (eh H) (zPi (fun (r : Int) (H1 : ZH) => r = 1 ∧ H1 = wI (wI H 58 (H.1 55 4).toNat (w * 1000 + v)) 55 4 (H.1 55 4 + 1))) := by
  show _ ∧ Ev zX mX1_addStep (EvC zX d) (zPi (fun (r : Int) (H1 : ZH) => r = 1 ∧ H1 = wI (wI H 58 (H.1 55 4).toNat (w * 1000 + v)) 55 4 (H.1 55 4 + 1))) 0 [(0, .ref 55), (1, .int (zN (w))), (2, .int (zN (v)))] [] (eh H)
  refine ⟨Nat.le_of_ble_eq_true rfl, ?_⟩
  refine x_aload_n (pc := 0) dX1_addStep_0 (List.Mem.head _) ?_
  have rd1 := ok.1 55 4
  refine z_getI (pc := 1) (k := 4) (v := H.1 55 4) dX1_addStep_1 lf_X1_25 sh_55 rfl rfl ?_
  refine z_sipush (pc := 4) dX1_addStep_4 sp_400 ?_
  refine z_icmp_ge (pc := 7) (tgt := 36) dX1_addStep_7 (by decide) (by omega) (by omega) (by decide) (by decide) (fun hb2 => ?_) (fun hb2 => ?_)
  · skip
    exact absurd hb2 (by omega)
  · skip
    refine x_aload_n (pc := 10) dX1_addStep_10 (List.Mem.head _) ?_
    refine z_getR (pc := 11) (k := 3) (r := 58) dX1_addStep_11 lf_X1_18 sh_55 rfl rf_55_3 ?_
    refine x_aload_n (pc := 14) dX1_addStep_14 (List.Mem.head _) ?_
    have rd3 := ok.1 55 4
    refine z_getI (pc := 15) (k := 4) (v := H.1 55 4) dX1_addStep_15 lf_X1_25 sh_55 rfl rfl ?_
    refine x_iload_n (pc := 18) dX1_addStep_18 (List.Mem.tail _ (List.Mem.head _)) ?_
    refine z_sipush (pc := 19) dX1_addStep_19 sp_1000 ?_
    refine z_imul (pc := 22) dX1_addStep_22 ?_
    refine x_iload_n (pc := 23) dX1_addStep_23 (List.Mem.tail _ (List.Mem.tail _ (List.Mem.head _))) ?_
    refine z_iadd (pc := 24) dX1_addStep_24 ?_
    refine z_iast (pc := 25) (j := (H.1 55 4).toNat) (v := ((w * 1000) + v)) dX1_addStep_25 sh_58 (by omega) (by omega) (by decide) ?_
    have ok4 := okI ok 58 ((H.1 55 4).toNat) (v := ((w * 1000) + v)) (by omega) (by omega)
    refine x_aload_n (pc := 26) dX1_addStep_26 (List.Mem.head _) ?_
    refine x_dup (pc := 27) dX1_addStep_27 rfl ?_
    have rd5 := ok.1 55 4
    refine z_getI (pc := 28) (k := 4) (v := H.1 55 4) dX1_addStep_28 lf_X1_25 sh_55 rfl (by rw [wI1c (by omega)]) ?_
    refine z_iconst (pc := 31) dX1_addStep_31 ?_
    refine z_iadd (pc := 32) dX1_addStep_32 ?_
    refine z_putI (pc := 33) (k := 4) dX1_addStep_33 lp_X1_25 sh_55 rfl ?_
    have ok6 := okI ok4 55 4 (v := ((H.1 55 4) + 1)) (by omega) (by omega)
    refine z_iconst (pc := 36) dX1_addStep_36 ?_
    refine z_ireturn (pc := 37) dX1_addStep_37 rfl (Or.inr ⟨rfl, by omega⟩) ok6 (by decide) (by decide) ?_
    exact ⟨rfl, rfl⟩

theorem c_X1_endLine {d : Nat} {H : ZH} (ok : okZ H) {p : Int} (hp : 0 ≤ p ∧ p ≤ 100) (hl : 0 ≤ H.1 55 0 ∧ H.1 55 0 < 12) (hz : 0 ≤ H.1 55 4 ∧ H.1 55 4 ≤ 400) : EvC zX (d + 1) mX1_endLine [.ref 55, .int (zN (p))] (eh H) (zPv (fun (H1 : ZH) => H1 = wI (wI (wI H 56 (H.1 55 0).toNat p) 57 (H.1 55 0).toNat (H.1 55 4)) 55 0 (H.1 55 0 + 1))) := by
  show _ ∧ Ev zX mX1_endLine (EvC zX d) (zPv (fun (H1 : ZH) => H1 = wI (wI (wI H 56 (H.1 55 0).toNat p) 57 (H.1 55 0).toNat (H.1 55 4)) 55 0 (H.1 55 0 + 1))) 0 [(0, .ref 55), (1, .int (zN (p)))] [] (eh H)
  refine ⟨Nat.le_of_ble_eq_true rfl, ?_⟩
  refine x_aload_n (pc := 0) dX1_endLine_0 (List.Mem.head _) ?_
  have rd1 := ok.1 55 0
  refine z_getI (pc := 1) (k := 0) (v := H.1 55 0) dX1_endLine_1 lf_X1_21 sh_55 rfl rfl ?_
  refine z_bipush (pc := 4) dX1_endLine_4 bp_12 ?_
  refine z_icmp_ge (pc := 6) (tgt := 42) dX1_endLine_6 (by decide) (by omega) (by omega) (by decide) (by decide) (fun hb2 => ?_) (fun hb2 => ?_)
  · skip
    exact absurd hb2 (by omega)
  · skip
    refine x_aload_n (pc := 9) dX1_endLine_9 (List.Mem.head _) ?_
    refine z_getR (pc := 10) (k := 1) (r := 56) dX1_endLine_10 lf_X1_9 sh_55 rfl rf_55_1 ?_
    refine x_aload_n (pc := 13) dX1_endLine_13 (List.Mem.head _) ?_
    have rd3 := ok.1 55 0
    refine z_getI (pc := 14) (k := 0) (v := H.1 55 0) dX1_endLine_14 lf_X1_21 sh_55 rfl rfl ?_
    refine x_iload_n (pc := 17) dX1_endLine_17 (List.Mem.tail _ (List.Mem.head _)) ?_
    refine z_iast (pc := 18) (j := (H.1 55 0).toNat) (v := p) dX1_endLine_18 sh_56 (by omega) (by omega) (by decide) ?_
    have ok4 := okI ok 56 ((H.1 55 0).toNat) (v := p) (by omega) (by omega)
    refine x_aload_n (pc := 19) dX1_endLine_19 (List.Mem.head _) ?_
    refine z_getR (pc := 20) (k := 2) (r := 57) dX1_endLine_20 lf_X1_15 sh_55 rfl rf_55_2 ?_
    refine x_aload_n (pc := 23) dX1_endLine_23 (List.Mem.head _) ?_
    have rd5 := ok.1 55 0
    refine z_getI (pc := 24) (k := 0) (v := H.1 55 0) dX1_endLine_24 lf_X1_21 sh_55 rfl (by rw [wI1c (by omega)]) ?_
    refine x_aload_n (pc := 27) dX1_endLine_27 (List.Mem.head _) ?_
    have rd6 := ok.1 55 4
    refine z_getI (pc := 28) (k := 4) (v := H.1 55 4) dX1_endLine_28 lf_X1_25 sh_55 rfl (by rw [wI1c (by omega)]) ?_
    refine z_iast (pc := 31) (j := (H.1 55 0).toNat) (v := (H.1 55 4)) dX1_endLine_31 sh_57 (by omega) (by omega) (by decide) ?_
    have ok7 := okI ok4 57 ((H.1 55 0).toNat) (v := (H.1 55 4)) (by omega) (by omega)
    refine x_aload_n (pc := 32) dX1_endLine_32 (List.Mem.head _) ?_
    refine x_dup (pc := 33) dX1_endLine_33 rfl ?_
    have rd8 := ok.1 55 0
    refine z_getI (pc := 34) (k := 0) (v := H.1 55 0) dX1_endLine_34 lf_X1_21 sh_55 rfl (by rw [wI1c (by omega), wI1c (by omega)]) ?_
    refine z_iconst (pc := 37) dX1_endLine_37 ?_
    refine z_iadd (pc := 38) dX1_endLine_38 ?_
    refine z_putI (pc := 39) (k := 0) dX1_endLine_39 lp_X1_21 sh_55 rfl ?_
    have ok9 := okI ok7 55 0 (v := ((H.1 55 0) + 1)) (by omega) (by omega)
    refine z_vreturn (pc := 42) dX1_endLine_42 rfl ok9 ?_
    rfl
