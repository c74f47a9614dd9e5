/-! GROUP G20: the class's calls of drawn runs. -/
/-- the road stands as N says -/
def RoadIs (H : ZH) (s : Nat) (q N : Nat → Int) : Prop := RepRd H q N ∧ H.1 104 1 = (s : Int) ∧ H.1 104 3 = -1 ∧ Perm8 (H.1 109) (q 1).toNat ∧ H.1 111 0 = 1 ∧ H.1 111 1 = N 40
theorem mnl_in {A N : Nat → Int} {v : Int} (k : Nat) (hp : ∀ c : Nat, c < k → A (2 + c) = N 32 → 0 < N c → True) (hv : -1 ≤ v) : mnl A N v k = (if mnl A N (-1) k ≠ -1 ∧ (v = -1 ∨ mnl A N (-1) k < v) then mnl A N (-1) k else v) ∧ (mnl A N (-1) k = -1 ∨ 0 < mnl A N (-1) k) := by
  induction k with
  | zero => exact ⟨(if_neg (fun z => z.1 rfl)).symm, Or.inl rfl⟩
  | succ k ih =>
    obtain ⟨i1, i2⟩ := ih (fun _ _ _ _ => trivial)
    have e1 : mnl A N v (k + 1) = if A (2 + k) = N 32 ∧ 0 < N k ∧ (mnl A N v k = -1 ∨ N k < mnl A N v k) then N k else mnl A N v k := rfl
    have e2 : mnl A N (-1) (k + 1) = if A (2 + k) = N 32 ∧ 0 < N k ∧ (mnl A N (-1) k = -1 ∨ N k < mnl A N (-1) k) then N k else mnl A N (-1) k := rfl
    rw [e1, e2]
    generalize hx : mnl A N (-1) k = x at i1 i2 ⊢
    generalize hy : mnl A N v k = y at i1 ⊢
    by_cases c1 : A (2 + k) = N 32 ∧ 0 < N k
    · by_cases c2 : x ≠ -1 ∧ (v = -1 ∨ x < v)
      · rw [if_pos c2] at i1
        subst i1
        by_cases c3 : y = -1 ∨ N k < y
        · rw [if_pos ⟨c1.1, c1.2, c3⟩, if_pos (by omega)]
          exact ⟨rfl, Or.inr c1.2⟩
        · rw [if_neg (fun z => c3 z.2.2), if_pos c2]
          exact ⟨rfl, i2⟩
      · rw [if_neg c2] at i1
        subst i1
        by_cases c3 : x = -1 ∨ N k < x
        · rw [if_pos (show A (2 + k) = N 32 ∧ 0 < N k ∧ (x = -1 ∨ N k < x) from ⟨c1.1, c1.2, c3⟩)]
          by_cases c4 : y = -1 ∨ N k < y
          · rw [if_pos (show A (2 + k) = N 32 ∧ 0 < N k ∧ (y = -1 ∨ N k < y) from ⟨c1.1, c1.2, c4⟩), if_pos (by omega)]
            exact ⟨rfl, Or.inr c1.2⟩
          · rw [if_neg (fun z => c4 z.2.2), if_neg (by omega)]
            exact ⟨rfl, Or.inr c1.2⟩
        · rw [if_neg (show ¬ (A (2 + k) = N 32 ∧ 0 < N k ∧ (x = -1 ∨ N k < x)) from fun z => c3 z.2.2), if_neg (show ¬ (A (2 + k) = N 32 ∧ 0 < N k ∧ (y = -1 ∨ N k < y)) by omega), if_neg c2]
          exact ⟨rfl, i2⟩
    · rw [if_neg (show ¬ (A (2 + k) = N 32 ∧ 0 < N k ∧ (x = -1 ∨ N k < x)) from fun z => c1 ⟨z.1, z.2.1⟩), if_neg (show ¬ (A (2 + k) = N 32 ∧ 0 < N k ∧ (y = -1 ∨ N k < y)) from fun z => c1 ⟨z.1, z.2.1⟩)]
      exact ⟨i1, i2⟩

theorem c_X4_stopping {d : Nat} {H : ZH} (ok : okZ H) {s : Nat} {q N : Nat → Int} (hs : isSc s) (hsc : H.1 104 1 = (s : Int)) (ws : WFS q) (rs : RepSc H s q) (wn : WFN q N) (rd : RepRd H q N) : EvC zX (d + 1) mX4_stopping [.ref 104] (eh H) (zPi (fun (rz : Int) (Hz : ZH) => rz = ((stB N (q 1).toNat : Int)) ∧ Hz = H)) := by
  show _ ∧ Ev zX mX4_stopping (EvC zX d) (zPi (fun (rz : Int) (Hz : ZH) => rz = ((stB N (q 1).toNat : Int)) ∧ Hz = H)) 0 [(0, .ref 104)] [] (eh H)
  refine ⟨Nat.le_of_ble_eq_true rfl, ?_⟩
  have hsr := isSc_r hs
  have wsx := ws
  obtain ⟨ws0, ws1, wsC, ws34, ws35, ws36, ws37, ws38, ws39⟩ := wsx
  have rsx := rs
  obtain ⟨rs0, rs1, rsC, rs34, rs35, rs36, rs37, rs38, rs39⟩ := rsx
  have wnx := wn
  obtain ⟨wnC, wn32, wn33, wn34, wn35, wn36, wn37, wn38, wn39⟩ := wnx
  have rdx := rd
  obtain ⟨rdC, rd10, rd11, rd12, rd13, rd14, rd15, rd16, rd17⟩ := rdx
  refine z_iconst (pc := 0) dX4_stopping_0 ?_
  refine x_istore_n (pc := 1) dX4_stopping_1 (Nat.le_of_ble_eq_true rfl) ?_
  show Ev _ _ _ _ _ [(1, .int (zN (0))), (0, .ref 104)] _ _
  refine z_iconst (pc := 2) dX4_stopping_2 ?_
  refine x_istore_n (pc := 3) dX4_stopping_3 (Nat.le_of_ble_eq_true rfl) ?_
  show Ev _ _ _ _ _ [(2, .int (zN (0))), (1, .int (zN (0))), (0, .ref 104)] _ _
  have lp4 : ∀ (nF : Nat) (k : Nat), ((k : Int) ≤ q 1) → (q 1).toNat - k < nF → Ev zX mX4_stopping (EvC zX d) (zPi (fun (rz : Int) (Hz : ZH) => rz = ((stB N (q 1).toNat : Int)) ∧ Hz = H)) 4 [(0, .ref 104), (1, .int (zN (((stB N k : Nat) : Int)))), (2, .int (zN ((k : Int))))] [] (eh H) := by
    intro nF
    induction nF with
    | zero => intro k hk hm; exact absurd hm (Nat.not_lt_zero _)
    | succ nF ih4 =>
      intro k hk hm
      have sb := stB_bd N k (by omega)
      refine x_iload_n (pc := 4) dX4_stopping_4 (List.Mem.tail _ (List.Mem.tail _ (List.Mem.head _))) ?_
      refine x_aload_n (pc := 5) dX4_stopping_5 (List.Mem.head _) ?_
      refine z_getY (pc := 6) (k := 1) (r := s) dX4_stopping_6 lf_X4_42 sh_104 rfl (by rw [hsc]) (by omega) ?_
      have rd1 := ok.1 s 1
      refine z_getI (pc := 9) (k := 1) (v := H.1 s 1) dX4_stopping_9 lf_X4_56 (sh_Sc0 hs) rfl rfl ?_
      refine z_icmp_ge (pc := 12) (tgt := 41) dX4_stopping_12 (by decide) (by omega) (by omega) (by omega) (by omega) (fun hb2 => ?_) (fun hb2 => ?_)
      · skip
        refine x_iload_n (pc := 41) dX4_stopping_41 (List.Mem.tail _ (List.Mem.head _)) ?_
        refine z_ireturn (pc := 42) dX4_stopping_42 rfl (Or.inl rfl) ok (by omega) (by omega) ?_
        exact ⟨by rw [show (q 1).toNat = k by omega], rfl⟩
      · skip
        have wk_k := wsC k (by omega)
        have vk_k := wnC k (by omega)
        have sk_k := rsC k (by omega)
        have dk_k := rdC k (by omega)
        refine x_iload_n (pc := 15) dX4_stopping_15 (List.Mem.tail _ (List.Mem.head _)) ?_
        refine x_aload_n (pc := 16) dX4_stopping_16 (List.Mem.head _) ?_
        refine z_getR (pc := 17) (k := 6) (r := 107) dX4_stopping_17 lf_X4_29 sh_104 rfl rf_104_6 ?_
        refine x_iload_n (pc := 20) dX4_stopping_20 (List.Mem.tail _ (List.Mem.tail _ (List.Mem.head _))) ?_
        have rd3 := ok.1 107 k
        refine z_iald (pc := 21) (j := k) (v := H.1 107 k) dX4_stopping_21 sh_107 rfl (by omega) (by decide) rfl ?_
        refine z_iconst (pc := 22) dX4_stopping_22 ?_
        refine z_icmp_ne (pc := 23) (tgt := 32) dX4_stopping_23 (by decide) (by omega) (by omega) (by decide) (by decide) (fun hb4 => ?_) (fun hb4 => ?_)
        · skip
          have hS : stB N (k + 1) = stB N k ||| 0 := by show stB N k ||| (if N (16 + k) = 2 then 2 ^ k else 0) = _; rw [if_neg (by omega)]
          refine z_iconst (pc := 32) dX4_stopping_32 ?_
          refine z_ior (pc := 33) (m := (stB N k)) (n := 0) dX4_stopping_33 (by omega) rfl ?_
          refine x_istore_n (pc := 34) dX4_stopping_34 (Nat.le_of_ble_eq_true rfl) ?_
          show Ev _ _ _ _ _ [(1, .int (zN (((((stB N k)) ||| (0) : Nat) : Int)))), (0, .ref 104), (2, .int (zN ((k : Int))))] _ _
          refine z_iinc (pc := 35) dX4_stopping_35 (List.Mem.tail _ (List.Mem.tail _ (List.Mem.head _))) (Nat.le_of_ble_eq_true rfl) ?_
          show Ev _ _ _ _ _ [(2, .int (zN ((k : Int) + 1))), (1, .int (zN (((((stB N k)) ||| (0) : Nat) : Int)))), (0, .ref 104)] _ _
          refine x_goto (pc := 38) (tgt := 4) dX4_stopping_38 (by decide) ?_
          refine x_weaken (L1 := [(0, .ref 104), (1, .int (zN (((stB N (k + 1) : Nat) : Int)))), (2, .int (zN ((((k + 1) : Nat) : Int))))]) (List.forall_mem_cons.mpr ⟨(List.Mem.tail _ (List.Mem.tail _ (List.Mem.head _))), (List.forall_mem_cons.mpr ⟨(mem_ci (congrArg (fun x : Nat => (x : Int)) hS) (List.Mem.tail _ (List.Mem.head _))), (List.forall_mem_cons.mpr ⟨(mem_ci (by omega) (List.Mem.head _)), (fun _ h => absurd h List.not_mem_nil)⟩)⟩)⟩) ?_
          exact ih4 ((k + 1)) (by first | assumption | omega) (by omega)
        · skip
          have hS : stB N (k + 1) = stB N k ||| 2 ^ k := by show stB N k ||| (if N (16 + k) = 2 then 2 ^ k else 0) = _; rw [if_pos (by omega)]
          refine z_iconst (pc := 26) dX4_stopping_26 ?_
          refine x_iload_n (pc := 27) dX4_stopping_27 (List.Mem.tail _ (List.Mem.tail _ (List.Mem.head _))) ?_
          refine z_ishl1 (pc := 28) (k := k) dX4_stopping_28 rfl (by omega) ?_
          refine x_goto (pc := 29) (tgt := 33) dX4_stopping_29 (by decide) ?_
          refine z_ior (pc := 33) (m := (stB N k)) (n := (2 ^ k)) dX4_stopping_33 (by omega) (by omega) ?_
          refine x_istore_n (pc := 34) dX4_stopping_34 (Nat.le_of_ble_eq_true rfl) ?_
          show Ev _ _ _ _ _ [(1, .int (zN (((((stB N k)) ||| ((2 ^ k)) : Nat) : Int)))), (0, .ref 104), (2, .int (zN ((k : Int))))] _ _
          refine z_iinc (pc := 35) dX4_stopping_35 (List.Mem.tail _ (List.Mem.tail _ (List.Mem.head _))) (Nat.le_of_ble_eq_true rfl) ?_
          show Ev _ _ _ _ _ [(2, .int (zN ((k : Int) + 1))), (1, .int (zN (((((stB N k)) ||| ((2 ^ k)) : Nat) : Int)))), (0, .ref 104)] _ _
          refine x_goto (pc := 38) (tgt := 4) dX4_stopping_38 (by decide) ?_
          refine x_weaken (L1 := [(0, .ref 104), (1, .int (zN (((stB N (k + 1) : Nat) : Int)))), (2, .int (zN ((((k + 1) : Nat) : Int))))]) (List.forall_mem_cons.mpr ⟨(List.Mem.tail _ (List.Mem.tail _ (List.Mem.head _))), (List.forall_mem_cons.mpr ⟨(mem_ci (congrArg (fun x : Nat => (x : Int)) hS) (List.Mem.tail _ (List.Mem.head _))), (List.forall_mem_cons.mpr ⟨(mem_ci (by omega) (List.Mem.head _)), (fun _ h => absurd h List.not_mem_nil)⟩)⟩)⟩) ?_
          exact ih4 ((k + 1)) (by first | assumption | omega) (by omega)
  refine x_weaken (L1 := [(0, .ref 104), (1, .int (zN (((stB N 0 : Nat) : Int)))), (2, .int (zN (((0 : Nat) : Int))))]) (List.forall_mem_cons.mpr ⟨(List.Mem.tail _ (List.Mem.tail _ (List.Mem.head _))), (List.forall_mem_cons.mpr ⟨(mem_ci (rfl) (List.Mem.tail _ (List.Mem.head _))), (List.forall_mem_cons.mpr ⟨(mem_ci (by omega) (List.Mem.head _)), (fun _ h => absurd h List.not_mem_nil)⟩)⟩)⟩) ?_
  exact lp4 ((q 1).toNat - 0 + 1) (0) (by first | assumption | omega) (Nat.lt_succ_self _)

theorem c_X4_nearestInHerLane {d : Nat} {H : ZH} (ok : okZ H) {s : Nat} {q N : Nat → Int} (hs : isSc s) (hsc : H.1 104 1 = (s : Int)) (ws : WFS q) (rs : RepSc H s q) (wn : WFN q N) (rd : RepRd H q N) : EvC zX (d + 1) mX4_nearestInHerLane [.ref 104] (eh H) (zPi (fun (rz : Int) (Hz : ZH) => rz = (if N 33 = 1 then mnl q N (-1) (q 1).toNat else -1) ∧ Hz = H)) := by
  show _ ∧ Ev zX mX4_nearestInHerLane (EvC zX d) (zPi (fun (rz : Int) (Hz : ZH) => rz = (if N 33 = 1 then mnl q N (-1) (q 1).toNat else -1) ∧ Hz = H)) 0 [(0, .ref 104)] [] (eh H)
  refine ⟨Nat.le_of_ble_eq_true rfl, ?_⟩
  have hsr := isSc_r hs
  have wsx := ws
  obtain ⟨ws0, ws1, wsC, ws34, ws35, ws36, ws37, ws38, ws39⟩ := wsx
  have rsx := rs
  obtain ⟨rs0, rs1, rsC, rs34, rs35, rs36, rs37, rs38, rs39⟩ := rsx
  have wnx := wn
  obtain ⟨wnC, wn32, wn33, wn34, wn35, wn36, wn37, wn38, wn39⟩ := wnx
  have rdx := rd
  obtain ⟨rdC, rd10, rd11, rd12, rd13, rd14, rd15, rd16, rd17⟩ := rdx
  refine z_iconst (pc := 0) dX4_nearestInHerLane_0 ?_
  refine x_istore_n (pc := 1) dX4_nearestInHerLane_1 (Nat.le_of_ble_eq_true rfl) ?_
  show Ev _ _ _ _ _ [(1, .int (zN ((-1)))), (0, .ref 104)] _ _
  refine z_iconst (pc := 2) dX4_nearestInHerLane_2 ?_
  refine x_istore_n (pc := 3) dX4_nearestInHerLane_3 (Nat.le_of_ble_eq_true rfl) ?_
  show Ev _ _ _ _ _ [(2, .int (zN (0))), (1, .int (zN ((-1)))), (0, .ref 104)] _ _
  have lp4 : ∀ (nF : Nat) (k : Nat), ((k : Int) ≤ q 1) → (q 1).toNat - k < nF → Ev zX mX4_nearestInHerLane (EvC zX d) (zPi (fun (rz : Int) (Hz : ZH) => rz = (if N 33 = 1 then mnl q N (-1) (q 1).toNat else -1) ∧ Hz = H)) 4 [(0, .ref 104), (1, .int (zN ((if N 33 = 1 then (mnl q N (-1) k) else -1)))), (2, .int (zN ((k : Int))))] [] (eh H) := by
    intro nF
    induction nF with
    | zero => intro k hk hm; exact absurd hm (Nat.not_lt_zero _)
    | succ nF ih4 =>
      intro k hk hm
      have mb := mnl_bd (A := q) (v := -1) (fun c hc => (wnC c hc).1.2) (by decide) k hk
      have hif : (N 33 = 1 ∧ (if N 33 = 1 then (mnl q N (-1) k) else -1) = (mnl q N (-1) k)) ∨ (¬ N 33 = 1 ∧ (if N 33 = 1 then (mnl q N (-1) k) else -1) = -1) := by
        by_cases z : N 33 = 1
        · exact Or.inl ⟨z, if_pos z⟩
        · exact Or.inr ⟨z, if_neg z⟩
      refine x_iload_n (pc := 4) dX4_nearestInHerLane_4 (List.Mem.tail _ (List.Mem.tail _ (List.Mem.head _))) ?_
      refine x_aload_n (pc := 5) dX4_nearestInHerLane_5 (List.Mem.head _) ?_
      refine z_getY (pc := 6) (k := 1) (r := s) dX4_nearestInHerLane_6 lf_X4_42 sh_104 rfl (by rw [hsc]) (by omega) ?_
      have rd1 := ok.1 s 1
      refine z_getI (pc := 9) (k := 1) (v := H.1 s 1) dX4_nearestInHerLane_9 lf_X4_56 (sh_Sc0 hs) rfl rfl ?_
      refine z_icmp_ge (pc := 12) (tgt := 75) dX4_nearestInHerLane_12 (by decide) (by omega) (by omega) (by omega) (by omega) (fun hb2 => ?_) (fun hb2 => ?_)
      · skip
        refine x_iload_n (pc := 75) dX4_nearestInHerLane_75 (List.Mem.tail _ (List.Mem.head _)) ?_
        refine z_ireturn (pc := 76) dX4_nearestInHerLane_76 rfl (Or.inl rfl) ok (by omega) (by omega) ?_
        first | exact ⟨by rw [show (q 1).toNat = k by omega], rfl⟩ | exact ⟨by rw [if_neg (show ¬ N 33 = 1 by omega), if_neg (show ¬ N 33 = 1 by omega)], rfl⟩
      · skip
        have wk_k := wsC k (by omega)
        have vk_k := wnC k (by omega)
        have sk_k := rsC k (by omega)
        have dk_k := rdC k (by omega)
        refine x_aload_n (pc := 15) dX4_nearestInHerLane_15 (List.Mem.head _) ?_
        have rd3 := ok.1 104 11
        refine z_getI (pc := 16) (k := 11) (v := H.1 104 11) dX4_nearestInHerLane_16 lf_X4_64 sh_104 rfl rfl ?_
        refine z_if_eq (pc := 19) (tgt := 75) dX4_nearestInHerLane_19 (by decide) (by omega) (by omega) (fun hb4 => ?_) (fun hb4 => ?_)
        · skip
          refine x_iload_n (pc := 75) dX4_nearestInHerLane_75 (List.Mem.tail _ (List.Mem.head _)) ?_
          refine z_ireturn (pc := 76) dX4_nearestInHerLane_76 rfl (Or.inl rfl) ok (by omega) (by omega) ?_
          first | exact ⟨by rw [show (q 1).toNat = k by omega], rfl⟩ | exact ⟨by rw [if_neg (show ¬ N 33 = 1 by omega), if_neg (show ¬ N 33 = 1 by omega)], rfl⟩
        · skip
          have hI : N 33 = 1 := by omega
          have eI : (if N 33 = 1 then (mnl q N (-1) k) else -1) = (mnl q N (-1) k) := if_pos hI
          refine x_aload_n (pc := 22) dX4_nearestInHerLane_22 (List.Mem.head _) ?_
          refine z_getY (pc := 23) (k := 1) (r := s) dX4_nearestInHerLane_23 lf_X4_42 sh_104 rfl (by rw [hsc]) (by omega) ?_
          refine z_getR (pc := 26) (k := 2) (r := (s + 1)) dX4_nearestInHerLane_26 lf_X4_143 (sh_Sc0 hs) rfl (rf_Sc_2 hs) ?_
          refine x_iload_n (pc := 29) dX4_nearestInHerLane_29 (List.Mem.tail _ (List.Mem.tail _ (List.Mem.head _))) ?_
          refine z_iald (pc := 30) (j := k) (v := (q (2 + k))) dX4_nearestInHerLane_30 (sh_Sc1 hs) rfl (by omega) (by decide) (by rw [sk_k.1]) ?_
          refine x_aload_n (pc := 31) dX4_nearestInHerLane_31 (List.Mem.head _) ?_
          refine z_getI (pc := 32) (k := 10) (v := (N 32)) dX4_nearestInHerLane_32 lf_X4_61 sh_104 rfl (by rw [rd10]) ?_
          refine z_icmp_ne (pc := 35) (tgt := 69) dX4_nearestInHerLane_35 (by decide) (by omega) (by omega) (by omega) (by omega) (fun hb5 => ?_) (fun hb5 => ?_)
          · skip
            refine z_iinc (pc := 69) dX4_nearestInHerLane_69 (List.Mem.tail _ (List.Mem.tail _ (List.Mem.head _))) (Nat.le_of_ble_eq_true rfl) ?_
            show Ev _ _ _ _ _ [(2, .int (zN ((k : Int) + 1))), (0, .ref 104), (1, .int (zN ((if N 33 = 1 then (mnl q N (-1) k) else -1))))] _ _
            refine x_goto (pc := 72) (tgt := 4) dX4_nearestInHerLane_72 (by decide) ?_
            refine x_weaken (L1 := [(0, .ref 104), (1, .int (zN ((if N 33 = 1 then (mnl q N (-1) (k + 1)) else -1)))), (2, .int (zN ((((k + 1) : Nat) : Int))))]) (List.forall_mem_cons.mpr ⟨(List.Mem.tail _ (List.Mem.head _)), (List.forall_mem_cons.mpr ⟨(mem_ci ((if_pos hI).trans (by show (if q (2 + k) = N 32 ∧ 0 < N k ∧ ((mnl q N (-1) k) = -1 ∨ N k < (mnl q N (-1) k)) then N k else (mnl q N (-1) k)) = _; first | (rw [if_pos (by omega)]; done) | (rw [if_neg (by omega), eI]; done))) (List.Mem.tail _ (List.Mem.tail _ (List.Mem.head _)))), (List.forall_mem_cons.mpr ⟨(mem_ci (by omega) (List.Mem.head _)), (fun _ h => absurd h List.not_mem_nil)⟩)⟩)⟩) ?_
            exact ih4 ((k + 1)) (by first | assumption | omega) (by omega)
          · skip
            refine x_aload_n (pc := 38) dX4_nearestInHerLane_38 (List.Mem.head _) ?_
            refine z_getR (pc := 39) (k := 4) (r := 105) dX4_nearestInHerLane_39 lf_X4_22 sh_104 rfl rf_104_4 ?_
            refine x_iload_n (pc := 42) dX4_nearestInHerLane_42 (List.Mem.tail _ (List.Mem.tail _ (List.Mem.head _))) ?_
            refine z_iald (pc := 43) (j := k) (v := (N k)) dX4_nearestInHerLane_43 sh_105 rfl (by omega) (by decide) (by rw [dk_k.1]) ?_
            refine z_if_le (pc := 44) (tgt := 69) dX4_nearestInHerLane_44 (by decide) (by omega) (by omega) (fun hb6 => ?_) (fun hb6 => ?_)
            · skip
              refine z_iinc (pc := 69) dX4_nearestInHerLane_69 (List.Mem.tail _ (List.Mem.tail _ (List.Mem.head _))) (Nat.le_of_ble_eq_true rfl) ?_
              show Ev _ _ _ _ _ [(2, .int (zN ((k : Int) + 1))), (0, .ref 104), (1, .int (zN ((if N 33 = 1 then (mnl q N (-1) k) else -1))))] _ _
              refine x_goto (pc := 72) (tgt := 4) dX4_nearestInHerLane_72 (by decide) ?_
              refine x_weaken (L1 := [(0, .ref 104), (1, .int (zN ((if N 33 = 1 then (mnl q N (-1) (k + 1)) else -1)))), (2, .int (zN ((((k + 1) : Nat) : Int))))]) (List.forall_mem_cons.mpr ⟨(List.Mem.tail _ (List.Mem.head _)), (List.forall_mem_cons.mpr ⟨(mem_ci ((if_pos hI).trans (by show (if q (2 + k) = N 32 ∧ 0 < N k ∧ ((mnl q N (-1) k) = -1 ∨ N k < (mnl q N (-1) k)) then N k else (mnl q N (-1) k)) = _; first | (rw [if_pos (by omega)]; done) | (rw [if_neg (by omega), eI]; done))) (List.Mem.tail _ (List.Mem.tail _ (List.Mem.head _)))), (List.forall_mem_cons.mpr ⟨(mem_ci (by omega) (List.Mem.head _)), (fun _ h => absurd h List.not_mem_nil)⟩)⟩)⟩) ?_
              exact ih4 ((k + 1)) (by first | assumption | omega) (by omega)
            · skip
              refine x_iload_n (pc := 47) dX4_nearestInHerLane_47 (List.Mem.tail _ (List.Mem.head _)) ?_
              refine z_iconst (pc := 48) dX4_nearestInHerLane_48 ?_
              refine z_icmp_eq (pc := 49) (tgt := 62) dX4_nearestInHerLane_49 (by decide) (by omega) (by omega) (by decide) (by decide) (fun hb7 => ?_) (fun hb7 => ?_)
              · skip
                refine x_aload_n (pc := 62) dX4_nearestInHerLane_62 (List.Mem.head _) ?_
                refine z_getR (pc := 63) (k := 4) (r := 105) dX4_nearestInHerLane_63 lf_X4_22 sh_104 rfl rf_104_4 ?_
                refine x_iload_n (pc := 66) dX4_nearestInHerLane_66 (List.Mem.tail _ (List.Mem.tail _ (List.Mem.head _))) ?_
                refine z_iald (pc := 67) (j := k) (v := (N k)) dX4_nearestInHerLane_67 sh_105 rfl (by omega) (by decide) (by rw [dk_k.1]) ?_
                refine x_istore_n (pc := 68) dX4_nearestInHerLane_68 (Nat.le_of_ble_eq_true rfl) ?_
                show Ev _ _ _ _ _ [(1, .int (zN (((N k))))), (0, .ref 104), (2, .int (zN ((k : Int))))] _ _
                refine z_iinc (pc := 69) dX4_nearestInHerLane_69 (List.Mem.tail _ (List.Mem.tail _ (List.Mem.head _))) (Nat.le_of_ble_eq_true rfl) ?_
                show Ev _ _ _ _ _ [(2, .int (zN ((k : Int) + 1))), (1, .int (zN (((N k))))), (0, .ref 104)] _ _
                refine x_goto (pc := 72) (tgt := 4) dX4_nearestInHerLane_72 (by decide) ?_
                refine x_weaken (L1 := [(0, .ref 104), (1, .int (zN ((if N 33 = 1 then (mnl q N (-1) (k + 1)) else -1)))), (2, .int (zN ((((k + 1) : Nat) : Int))))]) (List.forall_mem_cons.mpr ⟨(List.Mem.tail _ (List.Mem.tail _ (List.Mem.head _))), (List.forall_mem_cons.mpr ⟨(mem_ci ((if_pos hI).trans (by show (if q (2 + k) = N 32 ∧ 0 < N k ∧ ((mnl q N (-1) k) = -1 ∨ N k < (mnl q N (-1) k)) then N k else (mnl q N (-1) k)) = _; first | (rw [if_pos (by omega)]; done) | (rw [if_neg (by omega), eI]; done))) (List.Mem.tail _ (List.Mem.head _))), (List.forall_mem_cons.mpr ⟨(mem_ci (by omega) (List.Mem.head _)), (fun _ h => absurd h List.not_mem_nil)⟩)⟩)⟩) ?_
                exact ih4 ((k + 1)) (by first | assumption | omega) (by omega)
              · skip
                refine x_aload_n (pc := 52) dX4_nearestInHerLane_52 (List.Mem.head _) ?_
                refine z_getR (pc := 53) (k := 4) (r := 105) dX4_nearestInHerLane_53 lf_X4_22 sh_104 rfl rf_104_4 ?_
                refine x_iload_n (pc := 56) dX4_nearestInHerLane_56 (List.Mem.tail _ (List.Mem.tail _ (List.Mem.head _))) ?_
                refine z_iald (pc := 57) (j := k) (v := (N k)) dX4_nearestInHerLane_57 sh_105 rfl (by omega) (by decide) (by rw [dk_k.1]) ?_
                refine x_iload_n (pc := 58) dX4_nearestInHerLane_58 (List.Mem.tail _ (List.Mem.head _)) ?_
                refine z_icmp_ge (pc := 59) (tgt := 69) dX4_nearestInHerLane_59 (by decide) (by omega) (by omega) (by omega) (by omega) (fun hb8 => ?_) (fun hb8 => ?_)
                · skip
                  refine z_iinc (pc := 69) dX4_nearestInHerLane_69 (List.Mem.tail _ (List.Mem.tail _ (List.Mem.head _))) (Nat.le_of_ble_eq_true rfl) ?_
                  show Ev _ _ _ _ _ [(2, .int (zN ((k : Int) + 1))), (0, .ref 104), (1, .int (zN ((if N 33 = 1 then (mnl q N (-1) k) else -1))))] _ _
                  refine x_goto (pc := 72) (tgt := 4) dX4_nearestInHerLane_72 (by decide) ?_
                  refine x_weaken (L1 := [(0, .ref 104), (1, .int (zN ((if N 33 = 1 then (mnl q N (-1) (k + 1)) else -1)))), (2, .int (zN ((((k + 1) : Nat) : Int))))]) (List.forall_mem_cons.mpr ⟨(List.Mem.tail _ (List.Mem.head _)), (List.forall_mem_cons.mpr ⟨(mem_ci ((if_pos hI).trans (by show (if q (2 + k) = N 32 ∧ 0 < N k ∧ ((mnl q N (-1) k) = -1 ∨ N k < (mnl q N (-1) k)) then N k else (mnl q N (-1) k)) = _; first | (rw [if_pos (by omega)]; done) | (rw [if_neg (by omega), eI]; done))) (List.Mem.tail _ (List.Mem.tail _ (List.Mem.head _)))), (List.forall_mem_cons.mpr ⟨(mem_ci (by omega) (List.Mem.head _)), (fun _ h => absurd h List.not_mem_nil)⟩)⟩)⟩) ?_
                  exact ih4 ((k + 1)) (by first | assumption | omega) (by omega)
                · skip
                  refine x_aload_n (pc := 62) dX4_nearestInHerLane_62 (List.Mem.head _) ?_
                  refine z_getR (pc := 63) (k := 4) (r := 105) dX4_nearestInHerLane_63 lf_X4_22 sh_104 rfl rf_104_4 ?_
                  refine x_iload_n (pc := 66) dX4_nearestInHerLane_66 (List.Mem.tail _ (List.Mem.tail _ (List.Mem.head _))) ?_
                  refine z_iald (pc := 67) (j := k) (v := (N k)) dX4_nearestInHerLane_67 sh_105 rfl (by omega) (by decide) (by rw [dk_k.1]) ?_
                  refine x_istore_n (pc := 68) dX4_nearestInHerLane_68 (Nat.le_of_ble_eq_true rfl) ?_
                  show Ev _ _ _ _ _ [(1, .int (zN (((N k))))), (0, .ref 104), (2, .int (zN ((k : Int))))] _ _
                  refine z_iinc (pc := 69) dX4_nearestInHerLane_69 (List.Mem.tail _ (List.Mem.tail _ (List.Mem.head _))) (Nat.le_of_ble_eq_true rfl) ?_
                  show Ev _ _ _ _ _ [(2, .int (zN ((k : Int) + 1))), (1, .int (zN (((N k))))), (0, .ref 104)] _ _
                  refine x_goto (pc := 72) (tgt := 4) dX4_nearestInHerLane_72 (by decide) ?_
                  refine x_weaken (L1 := [(0, .ref 104), (1, .int (zN ((if N 33 = 1 then (mnl q N (-1) (k + 1)) else -1)))), (2, .int (zN ((((k + 1) : Nat) : Int))))]) (List.forall_mem_cons.mpr ⟨(List.Mem.tail _ (List.Mem.tail _ (List.Mem.head _))), (List.forall_mem_cons.mpr ⟨(mem_ci ((if_pos hI).trans (by show (if q (2 + k) = N 32 ∧ 0 < N k ∧ ((mnl q N (-1) k) = -1 ∨ N k < (mnl q N (-1) k)) then N k else (mnl q N (-1) k)) = _; first | (rw [if_pos (by omega)]; done) | (rw [if_neg (by omega), eI]; done))) (List.Mem.tail _ (List.Mem.head _))), (List.forall_mem_cons.mpr ⟨(mem_ci (by omega) (List.Mem.head _)), (fun _ h => absurd h List.not_mem_nil)⟩)⟩)⟩) ?_
                  exact ih4 ((k + 1)) (by first | assumption | omega) (by omega)
  refine x_weaken (L1 := [(0, .ref 104), (1, .int (zN ((if N 33 = 1 then (mnl q N (-1) 0) else -1)))), (2, .int (zN (((0 : Nat) : Int))))]) (List.forall_mem_cons.mpr ⟨(List.Mem.tail _ (List.Mem.tail _ (List.Mem.head _))), (List.forall_mem_cons.mpr ⟨(mem_ci (by first | (split <;> rfl)) (List.Mem.tail _ (List.Mem.head _))), (List.forall_mem_cons.mpr ⟨(mem_ci (by omega) (List.Mem.head _)), (fun _ h => absurd h List.not_mem_nil)⟩)⟩)⟩) ?_
  exact lp4 ((q 1).toNat - 0 + 1) (0) (by first | assumption | omega) (Nat.lt_succ_self _)

theorem c_X10_play {d : Nat} {H : ZH} (ok : okZ H) {sd most : Int} (sd1 : -2147483648 ≤ sd) (sd2 : sd ≤ 2147483647) (hmost : 0 ≤ most ∧ most ≤ 99) (ws : WFS (H.1 2)) (rs : RepSc H 35 (H.1 2)) (rl : RepLw H (H.1 2)) (wl : WFL (H.1 2)) : EvC zX (d + 6) mX10_play [.ref 20, .int (zN (sd)), .int (zN (most))] (eh H) (zPv (fun (H1 : ZH) => FrK H H1 ∧ RoadIs H1 35 (H.1 2) (rnF (H.1 2) (-1) (bgn (H.1 2) Z0 (-1) sd) most.toNat))) := by
  show _ ∧ Ev zX mX10_play (EvC zX (d + 5)) (zPv (fun (H1 : ZH) => FrK H H1 ∧ RoadIs H1 35 (H.1 2) (rnF (H.1 2) (-1) (bgn (H.1 2) Z0 (-1) sd) most.toNat))) 0 [(0, .ref 20), (1, .int (zN (sd))), (2, .int (zN (most)))] [] (eh H)
  refine ⟨Nat.le_of_ble_eq_true rfl, ?_⟩
  have wsx := ws
  obtain ⟨ws0, ws1, wsC, ws34, ws35, ws36, ws37, ws38, ws39⟩ := wsx
  have hb0 := bgn_rn (o := Z0) (wc := -1) (sd := sd) ws
  refine x_aload_n (pc := 0) dX10_play_0 (List.Mem.head _) ?_
  refine z_getR (pc := 1) (k := 6) (r := 104) dX10_play_1 lf_X10_48 sh_20 rfl rf_20_6 ?_
  refine z_getR (pc := 4) (k := 0) (r := 111) dX10_play_4 lf_X10_278 sh_104 rfl rf_104_0 ?_
  refine x_iload_n (pc := 7) dX10_play_7 (List.Mem.tail _ (List.Mem.head _)) ?_
  refine z_callVvp (pc := 8) (i := mX0_drawFrom) (S := []) [.int (zN (sd))] dX10_play_8 ml_X10_282 ok_X0_drawFrom rfl sh_111 rfl rfl (Nat.le_of_ble_eq_true rfl) (c_X0_drawFrom (d := d + 4) (sd := sd) (sd1 := (by omega)) (sd2 := (by omega)) (ok := ok)) (fun ok2 => ?_)
  refine x_aload_n (pc := 11) dX10_play_11 (List.Mem.head _) ?_
  refine z_getR (pc := 12) (k := 6) (r := 104) dX10_play_12 lf_X10_48 sh_20 rfl rf_20_6 ?_
  refine x_aload_n (pc := 15) dX10_play_15 (List.Mem.head _) ?_
  refine z_getR (pc := 16) (k := 3) (r := 98) dX10_play_16 lf_X10_23 sh_20 rfl rf_20_3 ?_
  refine z_getR (pc := 19) (k := 0) (r := 35) dX10_play_19 lf_X10_37 sh_98 rfl rf_98_0 ?_
  refine z_iconst (pc := 22) dX10_play_22 ?_
  refine z_callVv (pc := 23) (i := mX4_begin) (S := []) [.ref 35, .int (zN ((-1)))] dX10_play_23 ml_X10_166 ok_X4_begin rfl sh_104 rfl rfl (Nat.le_of_ble_eq_true rfl) (c_X4_begin (d := d + 3) (s := 35) (q := (H.1 2)) (k := ((-1))) (k1 := (by omega)) (k2 := (by omega)) (ok := ok2) (hs := isSc_35) (ws := ws) (rs := (FrK_sc (FrK_tr (FrK_I (by omega)) (FrK_I (by omega))) isSc_35 rs))) ?_
  intro Hb ok4 hp5
  obtain ⟨frb0, b1, b3, bR, bP, b4, b5, b6, b7⟩ := hp5
  have frb : FrK H Hb := FrK_tr (FrK_tr (FrK_I (by omega)) (FrK_I (by omega))) frb0
  have ri0 : RoadIs Hb 35 (H.1 2) (rnF (H.1 2) (-1) (bgn (H.1 2) Z0 (-1) sd) 0) := ⟨bR Z0 sd, b1, b3, bP, (b6 0 (by omega)).trans rfl, (b6 1 (by omega)).trans (by rw [wI1]; rfl)⟩
  refine z_iconst (pc := 26) dX10_play_26 ?_
  refine x_istore_n (pc := 27) dX10_play_27 (Nat.le_of_ble_eq_true rfl) ?_
  show Ev _ _ _ _ _ [(3, .int (zN (0))), (0, .ref 20), (1, .int (zN (sd))), (2, .int (zN (most)))] _ _
  have lp28 : ∀ (nF : Nat) (t : Nat) (Hm : ZH), okZ Hm → (t ≤ most.toNat) → (FrK H Hm) → (RoadIs Hm 35 (H.1 2) (rnF (H.1 2) (-1) (bgn (H.1 2) Z0 (-1) sd) t)) → most.toNat - t < nF → Ev zX mX10_play (EvC zX (d + 5)) (zPv (fun (H1 : ZH) => FrK H H1 ∧ RoadIs H1 35 (H.1 2) (rnF (H.1 2) (-1) (bgn (H.1 2) Z0 (-1) sd) most.toNat))) 28 [(0, .ref 20), (1, .int (zN (sd))), (2, .int (zN (most))), (3, .int (zN ((t : Int))))] [] (eh Hm) := by
    intro nF
    induction nF with
    | zero => intro t Hm okl28 ht fr ri hm; exact absurd hm (Nat.not_lt_zero _)
    | succ nF ih28 =>
      intro t Hm okl28 ht fr ri hm
      obtain ⟨r1, r2, r3, r4, r5⟩ := rnF_ok (wo := -1) ws1 ws0 hb0 t
      have r37 := r1.2.2.2.2.2.2.1
      have rix := ri
      obtain ⟨rdm, g1, g3, gp, gd, gx⟩ := rix
      refine x_iload_n (pc := 28) dX10_play_28 (List.Mem.tail _ (List.Mem.tail _ (List.Mem.tail _ (List.Mem.head _)))) ?_
      refine x_iload_n (pc := 29) dX10_play_29 (List.Mem.tail _ (List.Mem.tail _ (List.Mem.head _))) ?_
      refine z_icmp_ge (pc := 30) (tgt := 56) dX10_play_30 (by decide) (by omega) (by omega) (by omega) (by omega) (fun hb6 => ?_) (fun hb6 => ?_)
      · skip
        refine z_vreturn (pc := 56) dX10_play_56 rfl okl28 ?_
        first | exact ⟨fr, by rw [hst]; exact ri⟩ | exact ⟨fr, by rw [show most.toNat = t by omega]; exact ri⟩
      · skip
        refine x_aload_n (pc := 33) dX10_play_33 (List.Mem.head _) ?_
        refine z_getR (pc := 34) (k := 6) (r := 104) dX10_play_34 lf_X10_48 sh_20 rfl rf_20_6 ?_
        refine z_getI (pc := 37) (k := 15) (v := ((rnF (H.1 2) (-1) (bgn (H.1 2) Z0 (-1) sd) t) 37)) dX10_play_37 lf_X10_180 sh_104 rfl rdm.2.2.2.2.2.2.1 ?_
        refine z_if_ne (pc := 40) (tgt := 56) dX10_play_40 (by decide) (by omega) (by omega) (fun hb7 => ?_) (fun hb7 => ?_)
        · skip
          have hst : (rnF (H.1 2) (-1) (bgn (H.1 2) Z0 (-1) sd) most.toNat) = (rnF (H.1 2) (-1) (bgn (H.1 2) Z0 (-1) sd) t) := by rw [show most.toNat = t + (most.toNat - t) by omega]; exact rnF_st hb7 _
          refine z_vreturn (pc := 56) dX10_play_56 rfl okl28 ?_
          first | exact ⟨fr, by rw [hst]; exact ri⟩ | exact ⟨fr, by rw [show most.toNat = t by omega]; exact ri⟩
        · skip
          refine x_aload_n (pc := 43) dX10_play_43 (List.Mem.head _) ?_
          refine z_getR (pc := 44) (k := 6) (r := 104) dX10_play_44 lf_X10_48 sh_20 rfl rf_20_6 ?_
          refine z_callVv (pc := 47) (i := mX4_tick) (S := []) [] dX10_play_47 ml_X10_287 ok_X4_tick rfl sh_104 rfl rfl (Nat.le_of_ble_eq_true rfl) (c_X4_tick_d (d := d) (s := 35) (q := (H.1 2)) (N := (rnF (H.1 2) (-1) (bgn (H.1 2) Z0 (-1) sd) t)) (ok := okl28) (hs := isSc_35) (hsc := (show Hm.1 104 1 = ((35 : Nat) : Int) from g1)) (ws := ws) (rs := (FrK_sc fr isSc_35 rs)) (wn := r1) (rd := rdm) (rl := (FrK_lw fr rl)) (wl := wl) (wx := r2) (he := (by omega)) (pm := gp) (e41 := r3) (hdr := gd) (hx := gx)) ?_
          intro H3 ok9 hp10
          obtain ⟨fr2, rd2, f42, pm2, d2, p2, h2, x2⟩ := hp10
          rw [g3] at rd2 x2
          have z37 : (rnF (H.1 2) (-1) (bgn (H.1 2) Z0 (-1) sd) t) 37 = 0 := by omega
          have eT1 : (rnF (H.1 2) (-1) (bgn (H.1 2) Z0 (-1) sd) (t + 1)) = tickF (H.1 2) (drws (H.1 2) (-1) ((H.1 2) 1).toNat (rnF (H.1 2) (-1) (bgn (H.1 2) Z0 (-1) sd) t)) := if_pos z37
          rw [← eT1] at rd2 x2
          have fr3 := FrK_tr fr fr2
          have ri3 : RoadIs H3 35 (H.1 2) (rnF (H.1 2) (-1) (bgn (H.1 2) Z0 (-1) sd) (t + 1)) := ⟨rd2, (f42 1 (by omega)).trans g1, (f42 3 (by omega)).trans g3, pm2, (d2 0 (by omega)).trans gd, x2⟩
          refine z_iinc (pc := 50) dX10_play_50 (List.Mem.tail _ (List.Mem.tail _ (List.Mem.tail _ (List.Mem.head _)))) (Nat.le_of_ble_eq_true rfl) ?_
          show Ev _ _ _ _ _ [(3, .int (zN ((t : Int) + 1))), (0, .ref 20), (1, .int (zN (sd))), (2, .int (zN (most)))] _ _
          refine x_goto (pc := 53) (tgt := 28) dX10_play_53 (by decide) ?_
          refine x_weaken (L1 := [(0, .ref 20), (1, .int (zN (sd))), (2, .int (zN (most))), (3, .int (zN ((((t + 1) : Nat) : Int))))]) (List.forall_mem_cons.mpr ⟨(List.Mem.tail _ (List.Mem.head _)), (List.forall_mem_cons.mpr ⟨(List.Mem.tail _ (List.Mem.tail _ (List.Mem.head _))), (List.forall_mem_cons.mpr ⟨(List.Mem.tail _ (List.Mem.tail _ (List.Mem.tail _ (List.Mem.head _)))), (List.forall_mem_cons.mpr ⟨(mem_ci (by omega) (List.Mem.head _)), (fun _ h => absurd h List.not_mem_nil)⟩)⟩)⟩)⟩) ?_
          exact ih28 ((t + 1)) H3 ok9 (by omega) (fr3) (ri3) (by omega)
  refine x_weaken (L1 := [(0, .ref 20), (1, .int (zN (sd))), (2, .int (zN (most))), (3, .int (zN (((0 : Nat) : Int))))]) (List.forall_mem_cons.mpr ⟨(List.Mem.tail _ (List.Mem.head _)), (List.forall_mem_cons.mpr ⟨(List.Mem.tail _ (List.Mem.tail _ (List.Mem.head _))), (List.forall_mem_cons.mpr ⟨(List.Mem.tail _ (List.Mem.tail _ (List.Mem.tail _ (List.Mem.head _)))), (List.forall_mem_cons.mpr ⟨(mem_ci (by omega) (List.Mem.head _)), (fun _ h => absurd h List.not_mem_nil)⟩)⟩)⟩)⟩) ?_
  exact lp28 (most.toNat - 0 + 1) (0) Hb ok4 (by omega) (frb) (ri0) (Nat.lt_succ_self _)

theorem c_X10_run {d : Nat} {H : ZH} (ok : okZ H) {sd what : Int} (sd1 : -2147483648 ≤ sd) (sd2 : sd ≤ 2147483647) (what1 : -2147483648 ≤ what) (what2 : what ≤ 2147483647) (cn : cntOK H 25) (ws : WFS (H.1 2)) (rs : RepSc H 35 (H.1 2)) (rl : RepLw H (H.1 2)) (wl : WFL (H.1 2)) : EvC zX (d + 7) mX10_run [.ref 20, .int (zN (sd)), .int (zN (what))] (eh H) (zPi (fun (r : Int) (H1 : ZH) => ((0 ≤ what ∧ what ≤ 5) ∧ r = runV (H.1 2) (rnF (H.1 2) (-1) (bgn (H.1 2) Z0 (-1) sd) 99) what ∧ FrK H H1) ∨ (¬ (0 ≤ what ∧ what ≤ 5) ∧ r = -2 ∧ H1 = bumpC 0 H))) := by
  show _ ∧ Ev zX mX10_run (EvC zX (d + 6)) (zPi (fun (r : Int) (H1 : ZH) => ((0 ≤ what ∧ what ≤ 5) ∧ r = runV (H.1 2) (rnF (H.1 2) (-1) (bgn (H.1 2) Z0 (-1) sd) 99) what ∧ FrK H H1) ∨ (¬ (0 ≤ what ∧ what ≤ 5) ∧ r = -2 ∧ H1 = bumpC 0 H))) 0 [(0, .ref 20), (1, .int (zN (sd))), (2, .int (zN (what)))] [] (eh H)
  refine ⟨Nat.le_of_ble_eq_true rfl, ?_⟩
  have wsx := ws
  obtain ⟨ws0, ws1, wsC, ws34, ws35, ws36, ws37, ws38, ws39⟩ := wsx
  have rsx := rs
  obtain ⟨rs0, rs1, rsC, rs34, rs35, rs36, rs37, rs38, rs39⟩ := rsx
  have rk := rnF_ok (wo := -1) ws1 ws0 (bgn_rn (o := Z0) (wc := -1) (sd := sd) ws) 99
  have rw1 := rk.1.2
  refine x_iload_n (pc := 0) dX10_run_0 (List.Mem.tail _ (List.Mem.tail _ (List.Mem.head _))) ?_
  refine z_if_lt (pc := 1) (tgt := 9) dX10_run_1 (by decide) (by omega) (by omega) (fun hb1 => ?_) (fun hb1 => ?_)
  · skip
    refine x_aload_n (pc := 9) dX10_run_9 (List.Mem.head _) ?_
    refine z_bipush (pc := 10) dX10_run_10 bp_m2 ?_
    refine z_callVip (pc := 12) (i := mX10_refuse) (S := []) [.int (zN ((-2)))] dX10_run_12 ml_X10_97 ok_X10_refuse rfl sh_20 rfl (Or.inl rfl) (Nat.le_of_ble_eq_true rfl) (c_X10_refuse (d := d + 5) (code := ((-2))) (code1 := (by omega)) (code2 := (by omega)) (ok := ok) (cn := (by first | assumption | omega))) (fun r2a r2b ok3 => ?_)
    show Ev _ _ _ _ _ _ _ (eh (wI H 25 ((refIx ((-2)))) (H.1 25 (refIx ((-2))) + 1)))
    refine z_ireturn (pc := 15) dX10_run_15 rfl (Or.inl rfl) ok3 (by omega) (by omega) ?_
    exact Or.inr ⟨by omega, rfl, rfl⟩
  · skip
    refine x_iload_n (pc := 4) dX10_run_4 (List.Mem.tail _ (List.Mem.tail _ (List.Mem.head _))) ?_
    refine z_iconst (pc := 5) dX10_run_5 ?_
    refine z_icmp_le (pc := 6) (tgt := 16) dX10_run_6 (by decide) (by omega) (by omega) (by decide) (by decide) (fun hb4 => ?_) (fun hb4 => ?_)
    · skip
      refine x_aload_n (pc := 16) dX10_run_16 (List.Mem.head _) ?_
      refine x_iload_n (pc := 17) dX10_run_17 (List.Mem.tail _ (List.Mem.head _)) ?_
      refine z_bipush (pc := 18) dX10_run_18 bp_99 ?_
      refine z_callVv (pc := 20) (i := mX10_play) (S := []) [.int (zN (sd)), .int (zN (99))] dX10_run_20 ml_X10_176 ok_X10_play rfl sh_20 rfl rfl (Nat.le_of_ble_eq_true rfl) (c_X10_play (d := d) (sd := sd) (most := 99) (sd1 := (by omega)) (sd2 := (by omega)) (hmost := (by omega)) (ok := ok) (ws := ws) (rs := rs) (rl := rl) (wl := wl)) ?_
      intro Hm ok6 hp7
      obtain ⟨fr, ri0⟩ := hp7
      have ri : RoadIs Hm 35 (H.1 2) (rnF (H.1 2) (-1) (bgn (H.1 2) Z0 (-1) sd) 99) := ri0
      clear ri0
      obtain ⟨rdm, g1, g3, gp, gd, gx⟩ := ri
      have frm := rdm
      refine x_iload_n (pc := 23) dX10_run_23 (List.Mem.tail _ (List.Mem.tail _ (List.Mem.head _))) ?_
      rcases Int.decEq (what) (0) with hk8_0 | hk8_0
      rotate_left
      · skip
        refine z_tabIn (pc := 24) (0) (tgt := 60) dX10_run_24 hk8_0 (by omega) (by omega) (by decide) (by decide) rfl (by decide) ?_
        refine x_aload_n (pc := 60) dX10_run_60 (List.Mem.head _) ?_
        refine z_getR (pc := 61) (k := 6) (r := 104) dX10_run_61 lf_X10_48 sh_20 rfl rf_20_6 ?_
        refine z_getI (pc := 64) (k := 15) (v := ((rnF (H.1 2) (-1) (bgn (H.1 2) Z0 (-1) sd) 99) 37)) dX10_run_64 lf_X10_180 sh_104 rfl rdm.2.2.2.2.2.2.1 ?_
        refine z_ireturn (pc := 67) dX10_run_67 rfl (Or.inl rfl) ok6 (by omega) (by omega) ?_
        refine Or.inl ⟨by omega, ?_, fr⟩
        rw [show what = 0 by omega, runV_0]
      rcases Int.decEq (what) (1) with hk8_1 | hk8_1
      rotate_left
      · skip
        refine z_tabIn (pc := 24) (1) (tgt := 68) dX10_run_24 hk8_1 (by omega) (by omega) (by decide) (by decide) rfl (by decide) ?_
        refine x_aload_n (pc := 68) dX10_run_68 (List.Mem.head _) ?_
        refine z_getR (pc := 69) (k := 6) (r := 104) dX10_run_69 lf_X10_48 sh_20 rfl rf_20_6 ?_
        refine z_getI (pc := 72) (k := 14) (v := ((rnF (H.1 2) (-1) (bgn (H.1 2) Z0 (-1) sd) 99) 36)) dX10_run_72 lf_X10_183 sh_104 rfl rdm.2.2.2.2.2.1 ?_
        refine z_ireturn (pc := 75) dX10_run_75 rfl (Or.inl rfl) ok6 (by omega) (by omega) ?_
        refine Or.inl ⟨by omega, ?_, fr⟩
        rw [show what = 1 by omega, runV_1]
      rcases Int.decEq (what) (2) with hk8_2 | hk8_2
      rotate_left
      · skip
        refine z_tabIn (pc := 24) (2) (tgt := 76) dX10_run_24 hk8_2 (by omega) (by omega) (by decide) (by decide) rfl (by decide) ?_
        refine x_aload_n (pc := 76) dX10_run_76 (List.Mem.head _) ?_
        refine z_getR (pc := 77) (k := 6) (r := 104) dX10_run_77 lf_X10_48 sh_20 rfl rf_20_6 ?_
        refine z_getI (pc := 80) (k := 16) (v := ((rnF (H.1 2) (-1) (bgn (H.1 2) Z0 (-1) sd) 99) 38)) dX10_run_80 lf_X10_186 sh_104 rfl rdm.2.2.2.2.2.2.2.1 ?_
        refine z_ireturn (pc := 83) dX10_run_83 rfl (Or.inl rfl) ok6 (by omega) (by omega) ?_
        refine Or.inl ⟨by omega, ?_, fr⟩
        rw [show what = 2 by omega, runV_2]
      rcases Int.decEq (what) (3) with hk8_3 | hk8_3
      rotate_left
      · skip
        refine z_tabIn (pc := 24) (3) (tgt := 84) dX10_run_24 hk8_3 (by omega) (by omega) (by decide) (by decide) rfl (by decide) ?_
        refine x_aload_n (pc := 84) dX10_run_84 (List.Mem.head _) ?_
        refine z_getR (pc := 85) (k := 6) (r := 104) dX10_run_85 lf_X10_48 sh_20 rfl rf_20_6 ?_
        refine z_getI (pc := 88) (k := 17) (v := ((rnF (H.1 2) (-1) (bgn (H.1 2) Z0 (-1) sd) 99) 39)) dX10_run_88 lf_X10_189 sh_104 rfl rdm.2.2.2.2.2.2.2.2 ?_
        refine z_ireturn (pc := 91) dX10_run_91 rfl (Or.inl rfl) ok6 (by omega) (by omega) ?_
        refine Or.inl ⟨by omega, ?_, fr⟩
        rw [show what = 3 by omega, runV_3]
      rcases Int.decEq (what) (4) with hk8_4 | hk8_4
      rotate_left
      · skip
        refine z_tabIn (pc := 24) (4) (tgt := 92) dX10_run_24 hk8_4 (by omega) (by omega) (by decide) (by decide) rfl (by decide) ?_
        refine x_aload_n (pc := 92) dX10_run_92 (List.Mem.head _) ?_
        refine z_getR (pc := 93) (k := 6) (r := 104) dX10_run_93 lf_X10_48 sh_20 rfl rf_20_6 ?_
        have sb := stB_bd (rnF (H.1 2) (-1) (bgn (H.1 2) Z0 (-1) sd) 99) ((H.1 2) 1).toNat (by omega)
        refine z_callVip (pc := 96) (i := mX4_stopping) (S := []) [] dX10_run_96 ml_X10_192 ok_X4_stopping rfl sh_104 rfl (Or.inl rfl) (Nat.le_of_ble_eq_true rfl) (c_X4_stopping (d := d + 5) (s := 35) (q := (H.1 2)) (N := (rnF (H.1 2) (-1) (bgn (H.1 2) Z0 (-1) sd) 99)) (ok := ok6) (hs := isSc_35) (hsc := (show Hm.1 104 1 = ((35 : Nat) : Int) from g1)) (ws := ws) (rs := (FrK_sc fr isSc_35 rs)) (wn := rk.1) (rd := rdm)) (fun r9a r9b ok10 => ?_)
        refine z_ireturn (pc := 99) dX10_run_99 rfl (Or.inl rfl) ok10 (by omega) (by omega) ?_
        refine Or.inl ⟨by omega, ?_, fr⟩
        rw [show what = 4 by omega, runV_4]
      refine z_tabOut (pc := 24) (tgt := 100) dX10_run_24 (by omega) (by omega) (by omega) (by decide) ?_
      refine x_aload_n (pc := 100) dX10_run_100 (List.Mem.head _) ?_
      refine z_getR (pc := 101) (k := 6) (r := 104) dX10_run_101 lf_X10_48 sh_20 rfl rf_20_6 ?_
      refine z_getI (pc := 104) (k := 13) (v := ((rnF (H.1 2) (-1) (bgn (H.1 2) Z0 (-1) sd) 99) 35)) dX10_run_104 lf_X10_196 sh_104 rfl rdm.2.2.2.2.1 ?_
      refine z_ireturn (pc := 107) dX10_run_107 rfl (Or.inl rfl) ok6 (by omega) (by omega) ?_
      refine Or.inl ⟨by omega, ?_, fr⟩
      rw [show what = 5 by omega, runV_5]
    · skip
      refine x_aload_n (pc := 9) dX10_run_9 (List.Mem.head _) ?_
      refine z_bipush (pc := 10) dX10_run_10 bp_m2 ?_
      refine z_callVip (pc := 12) (i := mX10_refuse) (S := []) [.int (zN ((-2)))] dX10_run_12 ml_X10_97 ok_X10_refuse rfl sh_20 rfl (Or.inl rfl) (Nat.le_of_ble_eq_true rfl) (c_X10_refuse (d := d + 5) (code := ((-2))) (code1 := (by omega)) (code2 := (by omega)) (ok := ok) (cn := (by first | assumption | omega))) (fun r11a r11b ok12 => ?_)
      show Ev _ _ _ _ _ _ _ (eh (wI H 25 ((refIx ((-2)))) (H.1 25 (refIx ((-2))) + 1)))
      refine z_ireturn (pc := 15) dX10_run_15 rfl (Or.inl rfl) ok12 (by omega) (by omega) ?_
      exact Or.inr ⟨by omega, rfl, rfl⟩

theorem c_X10_watch {d : Nat} {H : ZH} (ok : okZ H) {sd t c what : Int} (sd1 : -2147483648 ≤ sd) (sd2 : sd ≤ 2147483647) (t1 : -2147483648 ≤ t) (t2 : t ≤ 2147483647) (c1 : -2147483648 ≤ c) (c2 : c ≤ 2147483647) (what1 : -2147483648 ≤ what) (what2 : what ≤ 2147483647) (cn : cntOK H 25) (ws : WFS (H.1 2)) (rs : RepSc H 35 (H.1 2)) (rl : RepLw H (H.1 2)) (wl : WFL (H.1 2)) : EvC zX (d + 7) mX10_watch [.ref 20, .int (zN (sd)), .int (zN (t)), .int (zN (c)), .int (zN (what))] (eh H) (zPi (fun (r : Int) (H1 : ZH) => (((0 ≤ c ∧ c ≤ H.1 2 1 - 1) ∧ (0 ≤ t ∧ t ≤ 99) ∧ (0 ≤ what ∧ what ≤ 3)) ∧ r = (rnF (H.1 2) (-1) (bgn (H.1 2) Z0 (-1) sd) t.toNat) (8 * what.toNat + c.toNat) ∧ FrK H H1) ∨ (¬ ((0 ≤ c ∧ c ≤ H.1 2 1 - 1) ∧ (0 ≤ t ∧ t ≤ 99) ∧ (0 ≤ what ∧ what ≤ 3)) ∧ r = -1000 ∧ H1 = bumpC 0 H))) := by
  show _ ∧ Ev zX mX10_watch (EvC zX (d + 6)) (zPi (fun (r : Int) (H1 : ZH) => (((0 ≤ c ∧ c ≤ H.1 2 1 - 1) ∧ (0 ≤ t ∧ t ≤ 99) ∧ (0 ≤ what ∧ what ≤ 3)) ∧ r = (rnF (H.1 2) (-1) (bgn (H.1 2) Z0 (-1) sd) t.toNat) (8 * what.toNat + c.toNat) ∧ FrK H H1) ∨ (¬ ((0 ≤ c ∧ c ≤ H.1 2 1 - 1) ∧ (0 ≤ t ∧ t ≤ 99) ∧ (0 ≤ what ∧ what ≤ 3)) ∧ r = -1000 ∧ H1 = bumpC 0 H))) 0 [(0, .ref 20), (1, .int (zN (sd))), (2, .int (zN (t))), (3, .int (zN (c))), (4, .int (zN (what)))] [] (eh H)
  refine ⟨Nat.le_of_ble_eq_true rfl, ?_⟩
  have wsx := ws
  obtain ⟨ws0, ws1, wsC, ws34, ws35, ws36, ws37, ws38, ws39⟩ := wsx
  have rsx := rs
  obtain ⟨rs0, rs1, rsC, rs34, rs35, rs36, rs37, rs38, rs39⟩ := rsx
  have rk := rnF_ok (wo := -1) ws1 ws0 (bgn_rn (o := Z0) (wc := -1) (sd := sd) ws) t.toNat
  have rw1 := rk.1.2
  refine x_aload_n (pc := 0) dX10_watch_0 (List.Mem.head _) ?_
  refine x_iload_n (pc := 1) dX10_watch_1 (List.Mem.tail _ (List.Mem.tail _ (List.Mem.tail _ (List.Mem.head _)))) ?_
  refine z_callVbp (pc := 2) (i := mX10_isCar) (S := []) [.int (zN (c))] dX10_watch_2 ml_X10_137 ok_X10_isCar rfl sh_20 rfl (Or.inr rfl) (Nat.le_of_ble_eq_true rfl) (c_X10_isCar (d := d + 5) (a := c) (a1 := (by omega)) (a2 := (by omega)) (ok := ok) (ws := (by first | assumption | omega)) (rs := (by first | assumption | omega))) (fun hc3 ok2 => ?_) (fun hc3 ok2 => ?_)
  · skip
    refine z_if_eq (pc := 5) (tgt := 29) dX10_watch_5 (by decide) (by decide) (by decide) (fun h => absurd h (by decide)) (fun _ => ?_)
    refine x_iload_n (pc := 8) dX10_watch_8 (List.Mem.tail _ (List.Mem.tail _ (List.Mem.head _))) ?_
    refine z_if_lt (pc := 9) (tgt := 29) dX10_watch_9 (by decide) (by omega) (by omega) (fun hb5 => ?_) (fun hb5 => ?_)
    · skip
      refine x_aload_n (pc := 29) dX10_watch_29 (List.Mem.head _) ?_
      refine z_sipush (pc := 30) dX10_watch_30 sp_m1000 ?_
      refine z_callVip (pc := 33) (i := mX10_refuseAs) (S := []) [.int (zN ((-1000)))] dX10_watch_33 ml_X10_199 ok_X10_refuseAs rfl sh_20 rfl (Or.inl rfl) (Nat.le_of_ble_eq_true rfl) (c_X10_refuseAs (d := d + 5) (a := ((-1000))) (a1 := (by omega)) (a2 := (by omega)) (ok := ok2) (cn := (by first | assumption | omega))) (fun r6a r6b ok7 => ?_)
      show Ev _ _ _ _ _ _ _ (eh (wI H 25 0 (H.1 25 0 + 1)))
      refine z_ireturn (pc := 36) dX10_watch_36 rfl (Or.inl rfl) ok7 (by omega) (by omega) ?_
      exact Or.inr ⟨by omega, rfl, rfl⟩
    · skip
      refine x_iload_n (pc := 12) dX10_watch_12 (List.Mem.tail _ (List.Mem.tail _ (List.Mem.head _))) ?_
      refine z_bipush (pc := 13) dX10_watch_13 bp_99 ?_
      refine z_icmp_gt (pc := 15) (tgt := 29) dX10_watch_15 (by decide) (by omega) (by omega) (by decide) (by decide) (fun hb8 => ?_) (fun hb8 => ?_)
      · skip
        refine x_aload_n (pc := 29) dX10_watch_29 (List.Mem.head _) ?_
        refine z_sipush (pc := 30) dX10_watch_30 sp_m1000 ?_
        refine z_callVip (pc := 33) (i := mX10_refuseAs) (S := []) [.int (zN ((-1000)))] dX10_watch_33 ml_X10_199 ok_X10_refuseAs rfl sh_20 rfl (Or.inl rfl) (Nat.le_of_ble_eq_true rfl) (c_X10_refuseAs (d := d + 5) (a := ((-1000))) (a1 := (by omega)) (a2 := (by omega)) (ok := ok2) (cn := (by first | assumption | omega))) (fun r9a r9b ok10 => ?_)
        show Ev _ _ _ _ _ _ _ (eh (wI H 25 0 (H.1 25 0 + 1)))
        refine z_ireturn (pc := 36) dX10_watch_36 rfl (Or.inl rfl) ok10 (by omega) (by omega) ?_
        exact Or.inr ⟨by omega, rfl, rfl⟩
      · skip
        refine x_iload (pc := 18) dX10_watch_18 (List.Mem.tail _ (List.Mem.tail _ (List.Mem.tail _ (List.Mem.tail _ (List.Mem.head _))))) ?_
        refine z_if_lt (pc := 20) (tgt := 29) dX10_watch_20 (by decide) (by omega) (by omega) (fun hb11 => ?_) (fun hb11 => ?_)
        · skip
          refine x_aload_n (pc := 29) dX10_watch_29 (List.Mem.head _) ?_
          refine z_sipush (pc := 30) dX10_watch_30 sp_m1000 ?_
          refine z_callVip (pc := 33) (i := mX10_refuseAs) (S := []) [.int (zN ((-1000)))] dX10_watch_33 ml_X10_199 ok_X10_refuseAs rfl sh_20 rfl (Or.inl rfl) (Nat.le_of_ble_eq_true rfl) (c_X10_refuseAs (d := d + 5) (a := ((-1000))) (a1 := (by omega)) (a2 := (by omega)) (ok := ok2) (cn := (by first | assumption | omega))) (fun r12a r12b ok13 => ?_)
          show Ev _ _ _ _ _ _ _ (eh (wI H 25 0 (H.1 25 0 + 1)))
          refine z_ireturn (pc := 36) dX10_watch_36 rfl (Or.inl rfl) ok13 (by omega) (by omega) ?_
          exact Or.inr ⟨by omega, rfl, rfl⟩
        · skip
          refine x_iload (pc := 23) dX10_watch_23 (List.Mem.tail _ (List.Mem.tail _ (List.Mem.tail _ (List.Mem.tail _ (List.Mem.head _))))) ?_
          refine z_iconst (pc := 25) dX10_watch_25 ?_
          refine z_icmp_le (pc := 26) (tgt := 37) dX10_watch_26 (by decide) (by omega) (by omega) (by decide) (by decide) (fun hb14 => ?_) (fun hb14 => ?_)
          · skip
            refine x_aload_n (pc := 37) dX10_watch_37 (List.Mem.head _) ?_
            refine x_iload_n (pc := 38) dX10_watch_38 (List.Mem.tail _ (List.Mem.head _)) ?_
            refine x_iload_n (pc := 39) dX10_watch_39 (List.Mem.tail _ (List.Mem.tail _ (List.Mem.head _))) ?_
            refine z_callVv (pc := 40) (i := mX10_play) (S := []) [.int (zN (sd)), .int (zN (t))] dX10_watch_40 ml_X10_176 ok_X10_play rfl sh_20 rfl rfl (Nat.le_of_ble_eq_true rfl) (c_X10_play (d := d) (sd := sd) (most := t) (sd1 := (by omega)) (sd2 := (by omega)) (hmost := (by omega)) (ok := ok2) (ws := ws) (rs := rs) (rl := rl) (wl := wl)) ?_
            intro Hm ok16 hp17
            obtain ⟨fr, ri0⟩ := hp17
            have ri : RoadIs Hm 35 (H.1 2) (rnF (H.1 2) (-1) (bgn (H.1 2) Z0 (-1) sd) t.toNat) := ri0
            clear ri0
            obtain ⟨rdm, g1, g3, gp, gd, gx⟩ := ri
            have frm := rdm
            have dk := rdm.1 c.toNat (by omega)
            have vk := rk.1.1 c.toNat (by omega)
            refine x_iload (pc := 43) dX10_watch_43 (List.Mem.tail _ (List.Mem.tail _ (List.Mem.tail _ (List.Mem.tail _ (List.Mem.head _))))) ?_
            rcases Int.decEq (what) (0) with hk18_0 | hk18_0
            rotate_left
            · skip
              refine z_tabIn (pc := 45) (0) (tgt := 72) dX10_watch_45 hk18_0 (by omega) (by omega) (by decide) (by decide) rfl (by decide) ?_
              refine x_aload_n (pc := 72) dX10_watch_72 (List.Mem.head _) ?_
              refine z_getR (pc := 73) (k := 6) (r := 104) dX10_watch_73 lf_X10_48 sh_20 rfl rf_20_6 ?_
              refine z_getR (pc := 76) (k := 4) (r := 105) dX10_watch_76 lf_X10_202 sh_104 rfl rf_104_4 ?_
              refine x_iload_n (pc := 79) dX10_watch_79 (List.Mem.tail _ (List.Mem.tail _ (List.Mem.tail _ (List.Mem.head _)))) ?_
              refine z_iald (pc := 80) (j := c.toNat) (v := ((rnF (H.1 2) (-1) (bgn (H.1 2) Z0 (-1) sd) t.toNat) c.toNat)) dX10_watch_80 sh_105 (by omega) (by omega) (by decide) dk.1 ?_
              refine z_ireturn (pc := 81) dX10_watch_81 rfl (Or.inl rfl) ok16 (by omega) (by omega) ?_
              refine Or.inl ⟨by omega, ?_, fr⟩
              rw [show 8 * what.toNat + c.toNat = c.toNat by omega]
            rcases Int.decEq (what) (1) with hk18_1 | hk18_1
            rotate_left
            · skip
              refine z_tabIn (pc := 45) (1) (tgt := 82) dX10_watch_45 hk18_1 (by omega) (by omega) (by decide) (by decide) rfl (by decide) ?_
              refine x_aload_n (pc := 82) dX10_watch_82 (List.Mem.head _) ?_
              refine z_getR (pc := 83) (k := 6) (r := 104) dX10_watch_83 lf_X10_48 sh_20 rfl rf_20_6 ?_
              refine z_getR (pc := 86) (k := 5) (r := 106) dX10_watch_86 lf_X10_203 sh_104 rfl rf_104_5 ?_
              refine x_iload_n (pc := 89) dX10_watch_89 (List.Mem.tail _ (List.Mem.tail _ (List.Mem.tail _ (List.Mem.head _)))) ?_
              refine z_iald (pc := 90) (j := c.toNat) (v := ((rnF (H.1 2) (-1) (bgn (H.1 2) Z0 (-1) sd) t.toNat) (8 + c.toNat))) dX10_watch_90 sh_106 (by omega) (by omega) (by decide) dk.2.1 ?_
              refine z_ireturn (pc := 91) dX10_watch_91 rfl (Or.inl rfl) ok16 (by omega) (by omega) ?_
              refine Or.inl ⟨by omega, ?_, fr⟩
              rw [show 8 * what.toNat + c.toNat = 8 + c.toNat by omega]
            rcases Int.decEq (what) (2) with hk18_2 | hk18_2
            rotate_left
            · skip
              refine z_tabIn (pc := 45) (2) (tgt := 92) dX10_watch_45 hk18_2 (by omega) (by omega) (by decide) (by decide) rfl (by decide) ?_
              refine x_aload_n (pc := 92) dX10_watch_92 (List.Mem.head _) ?_
              refine z_getR (pc := 93) (k := 6) (r := 104) dX10_watch_93 lf_X10_48 sh_20 rfl rf_20_6 ?_
              refine z_getR (pc := 96) (k := 6) (r := 107) dX10_watch_96 lf_X10_204 sh_104 rfl rf_104_6 ?_
              refine x_iload_n (pc := 99) dX10_watch_99 (List.Mem.tail _ (List.Mem.tail _ (List.Mem.tail _ (List.Mem.head _)))) ?_
              refine z_iald (pc := 100) (j := c.toNat) (v := ((rnF (H.1 2) (-1) (bgn (H.1 2) Z0 (-1) sd) t.toNat) (16 + c.toNat))) dX10_watch_100 sh_107 (by omega) (by omega) (by decide) dk.2.2.1 ?_
              refine z_ireturn (pc := 101) dX10_watch_101 rfl (Or.inl rfl) ok16 (by omega) (by omega) ?_
              refine Or.inl ⟨by omega, ?_, fr⟩
              rw [show 8 * what.toNat + c.toNat = 16 + c.toNat by omega]
            refine z_tabOut (pc := 45) (tgt := 102) dX10_watch_45 (by omega) (by omega) (by omega) (by decide) ?_
            refine x_aload_n (pc := 102) dX10_watch_102 (List.Mem.head _) ?_
            refine z_getR (pc := 103) (k := 6) (r := 104) dX10_watch_103 lf_X10_48 sh_20 rfl rf_20_6 ?_
            refine z_getR (pc := 106) (k := 7) (r := 108) dX10_watch_106 lf_X10_207 sh_104 rfl rf_104_7 ?_
            refine x_iload_n (pc := 109) dX10_watch_109 (List.Mem.tail _ (List.Mem.tail _ (List.Mem.tail _ (List.Mem.head _)))) ?_
            refine z_zald (pc := 110) (j := c.toNat) (v := ((rnF (H.1 2) (-1) (bgn (H.1 2) Z0 (-1) sd) t.toNat) (24 + c.toNat))) dX10_watch_110 sh_108 (by omega) (by omega) (by decide) dk.2.2.2 ?_
            refine z_if_eq (pc := 111) (tgt := 118) dX10_watch_111 (by decide) (by omega) (by omega) (fun hb19 => ?_) (fun hb19 => ?_)
            · skip
              refine z_iconst (pc := 118) dX10_watch_118 ?_
              refine z_ireturn (pc := 119) dX10_watch_119 rfl (Or.inl rfl) ok16 (by decide) (by decide) ?_
              refine Or.inl ⟨by omega, ?_, fr⟩
              rw [show 8 * what.toNat + c.toNat = 24 + c.toNat by omega]
              omega
            · skip
              refine z_iconst (pc := 114) dX10_watch_114 ?_
              refine x_goto (pc := 115) (tgt := 119) dX10_watch_115 (by decide) ?_
              refine z_ireturn (pc := 119) dX10_watch_119 rfl (Or.inl rfl) ok16 (by decide) (by decide) ?_
              refine Or.inl ⟨by omega, ?_, fr⟩
              rw [show 8 * what.toNat + c.toNat = 24 + c.toNat by omega]
              omega
          · skip
            refine x_aload_n (pc := 29) dX10_watch_29 (List.Mem.head _) ?_
            refine z_sipush (pc := 30) dX10_watch_30 sp_m1000 ?_
            refine z_callVip (pc := 33) (i := mX10_refuseAs) (S := []) [.int (zN ((-1000)))] dX10_watch_33 ml_X10_199 ok_X10_refuseAs rfl sh_20 rfl (Or.inl rfl) (Nat.le_of_ble_eq_true rfl) (c_X10_refuseAs (d := d + 5) (a := ((-1000))) (a1 := (by omega)) (a2 := (by omega)) (ok := ok2) (cn := (by first | assumption | omega))) (fun r20a r20b ok21 => ?_)
            show Ev _ _ _ _ _ _ _ (eh (wI H 25 0 (H.1 25 0 + 1)))
            refine z_ireturn (pc := 36) dX10_watch_36 rfl (Or.inl rfl) ok21 (by omega) (by omega) ?_
            exact Or.inr ⟨by omega, rfl, rfl⟩
  · skip
    refine z_if_eq (pc := 5) (tgt := 29) dX10_watch_5 (by decide) (by decide) (by decide) (fun _ => ?_) (fun h => absurd h (by decide))
    refine x_aload_n (pc := 29) dX10_watch_29 (List.Mem.head _) ?_
    refine z_sipush (pc := 30) dX10_watch_30 sp_m1000 ?_
    refine z_callVip (pc := 33) (i := mX10_refuseAs) (S := []) [.int (zN ((-1000)))] dX10_watch_33 ml_X10_199 ok_X10_refuseAs rfl sh_20 rfl (Or.inl rfl) (Nat.le_of_ble_eq_true rfl) (c_X10_refuseAs (d := d + 5) (a := ((-1000))) (a1 := (by omega)) (a2 := (by omega)) (ok := ok2) (cn := (by first | assumption | omega))) (fun r23a r23b ok24 => ?_)
    show Ev _ _ _ _ _ _ _ (eh (wI H 25 0 (H.1 25 0 + 1)))
    refine z_ireturn (pc := 36) dX10_watch_36 rfl (Or.inl rfl) ok24 (by omega) (by omega) ?_
    exact Or.inr ⟨by omega, rfl, rfl⟩

theorem c_X10_stands {d : Nat} {H : ZH} (ok : okZ H) {sd t : Int} (sd1 : -2147483648 ≤ sd) (sd2 : sd ≤ 2147483647) (t1 : -2147483648 ≤ t) (t2 : t ≤ 2147483647) (cn : cntOK H 25) (ws : WFS (H.1 2)) (rs : RepSc H 35 (H.1 2)) (rl : RepLw H (H.1 2)) (wl : WFL (H.1 2)) : EvC zX (d + 7) mX10_stands [.ref 20, .int (zN (sd)), .int (zN (t))] (eh H) (zPi (fun (r : Int) (H1 : ZH) => ((0 ≤ t ∧ t ≤ 99) ∧ r = 10 * (rnF (H.1 2) (-1) (bgn (H.1 2) Z0 (-1) sd) t.toNat) 32 + (rnF (H.1 2) (-1) (bgn (H.1 2) Z0 (-1) sd) t.toNat) 33 ∧ FrK H H1) ∨ (¬ (0 ≤ t ∧ t ≤ 99) ∧ r = -3 ∧ H1 = bumpC 1 H))) := by
  show _ ∧ Ev zX mX10_stands (EvC zX (d + 6)) (zPi (fun (r : Int) (H1 : ZH) => ((0 ≤ t ∧ t ≤ 99) ∧ r = 10 * (rnF (H.1 2) (-1) (bgn (H.1 2) Z0 (-1) sd) t.toNat) 32 + (rnF (H.1 2) (-1) (bgn (H.1 2) Z0 (-1) sd) t.toNat) 33 ∧ FrK H H1) ∨ (¬ (0 ≤ t ∧ t ≤ 99) ∧ r = -3 ∧ H1 = bumpC 1 H))) 0 [(0, .ref 20), (1, .int (zN (sd))), (2, .int (zN (t)))] [] (eh H)
  refine ⟨Nat.le_of_ble_eq_true rfl, ?_⟩
  have wsx := ws
  obtain ⟨ws0, ws1, wsC, ws34, ws35, ws36, ws37, ws38, ws39⟩ := wsx
  have rsx := rs
  obtain ⟨rs0, rs1, rsC, rs34, rs35, rs36, rs37, rs38, rs39⟩ := rsx
  have rk := rnF_ok (wo := -1) ws1 ws0 (bgn_rn (o := Z0) (wc := -1) (sd := sd) ws) t.toNat
  have rw1 := rk.1.2
  refine x_iload_n (pc := 0) dX10_stands_0 (List.Mem.tail _ (List.Mem.tail _ (List.Mem.head _))) ?_
  refine z_if_lt (pc := 1) (tgt := 10) dX10_stands_1 (by decide) (by omega) (by omega) (fun hb1 => ?_) (fun hb1 => ?_)
  · skip
    refine x_aload_n (pc := 10) dX10_stands_10 (List.Mem.head _) ?_
    refine z_bipush (pc := 11) dX10_stands_11 bp_m3 ?_
    refine z_callVip (pc := 13) (i := mX10_refuse) (S := []) [.int (zN ((-3)))] dX10_stands_13 ml_X10_97 ok_X10_refuse rfl sh_20 rfl (Or.inl rfl) (Nat.le_of_ble_eq_true rfl) (c_X10_refuse (d := d + 5) (code := ((-3))) (code1 := (by omega)) (code2 := (by omega)) (ok := ok) (cn := (by first | assumption | omega))) (fun r2a r2b ok3 => ?_)
    show Ev _ _ _ _ _ _ _ (eh (wI H 25 ((refIx ((-3)))) (H.1 25 (refIx ((-3))) + 1)))
    refine z_ireturn (pc := 16) dX10_stands_16 rfl (Or.inl rfl) ok3 (by omega) (by omega) ?_
    exact Or.inr ⟨by omega, rfl, rfl⟩
  · skip
    refine x_iload_n (pc := 4) dX10_stands_4 (List.Mem.tail _ (List.Mem.tail _ (List.Mem.head _))) ?_
    refine z_bipush (pc := 5) dX10_stands_5 bp_99 ?_
    refine z_icmp_le (pc := 7) (tgt := 17) dX10_stands_7 (by decide) (by omega) (by omega) (by decide) (by decide) (fun hb4 => ?_) (fun hb4 => ?_)
    · skip
      refine x_aload_n (pc := 17) dX10_stands_17 (List.Mem.head _) ?_
      refine x_iload_n (pc := 18) dX10_stands_18 (List.Mem.tail _ (List.Mem.head _)) ?_
      refine x_iload_n (pc := 19) dX10_stands_19 (List.Mem.tail _ (List.Mem.tail _ (List.Mem.head _))) ?_
      refine z_callVv (pc := 20) (i := mX10_play) (S := []) [.int (zN (sd)), .int (zN (t))] dX10_stands_20 ml_X10_176 ok_X10_play rfl sh_20 rfl rfl (Nat.le_of_ble_eq_true rfl) (c_X10_play (d := d) (sd := sd) (most := t) (sd1 := (by omega)) (sd2 := (by omega)) (hmost := (by omega)) (ok := ok) (ws := ws) (rs := rs) (rl := rl) (wl := wl)) ?_
      intro Hm ok6 hp7
      obtain ⟨fr, ri0⟩ := hp7
      have ri : RoadIs Hm 35 (H.1 2) (rnF (H.1 2) (-1) (bgn (H.1 2) Z0 (-1) sd) t.toNat) := ri0
      clear ri0
      obtain ⟨rdm, g1, g3, gp, gd, gx⟩ := ri
      have frm := rdm
      refine z_bipush (pc := 23) dX10_stands_23 bp_10 ?_
      refine x_aload_n (pc := 25) dX10_stands_25 (List.Mem.head _) ?_
      refine z_getR (pc := 26) (k := 6) (r := 104) dX10_stands_26 lf_X10_48 sh_20 rfl rf_20_6 ?_
      refine z_getI (pc := 29) (k := 10) (v := ((rnF (H.1 2) (-1) (bgn (H.1 2) Z0 (-1) sd) t.toNat) 32)) dX10_stands_29 lf_X10_210 sh_104 rfl rdm.2.1 ?_
      refine z_imul (pc := 32) dX10_stands_32 ?_
      refine x_aload_n (pc := 33) dX10_stands_33 (List.Mem.head _) ?_
      refine z_getR (pc := 34) (k := 6) (r := 104) dX10_stands_34 lf_X10_48 sh_20 rfl rf_20_6 ?_
      refine z_getI (pc := 37) (k := 11) (v := ((rnF (H.1 2) (-1) (bgn (H.1 2) Z0 (-1) sd) t.toNat) 33)) dX10_stands_37 lf_X10_213 sh_104 rfl rdm.2.2.1 ?_
      refine z_if_eq (pc := 40) (tgt := 47) dX10_stands_40 (by decide) (by omega) (by omega) (fun hb8 => ?_) (fun hb8 => ?_)
      · skip
        refine z_iconst (pc := 47) dX10_stands_47 ?_
        refine z_iadd (pc := 48) dX10_stands_48 ?_
        refine z_ireturn (pc := 49) dX10_stands_49 rfl (Or.inl rfl) ok6 (by omega) (by omega) ?_
        exact Or.inl ⟨by omega, by omega, fr⟩
      · skip
        refine z_iconst (pc := 43) dX10_stands_43 ?_
        refine x_goto (pc := 44) (tgt := 48) dX10_stands_44 (by decide) ?_
        refine z_iadd (pc := 48) dX10_stands_48 ?_
        refine z_ireturn (pc := 49) dX10_stands_49 rfl (Or.inl rfl) ok6 (by omega) (by omega) ?_
        exact Or.inl ⟨by omega, by omega, fr⟩
    · skip
      refine x_aload_n (pc := 10) dX10_stands_10 (List.Mem.head _) ?_
      refine z_bipush (pc := 11) dX10_stands_11 bp_m3 ?_
      refine z_callVip (pc := 13) (i := mX10_refuse) (S := []) [.int (zN ((-3)))] dX10_stands_13 ml_X10_97 ok_X10_refuse rfl sh_20 rfl (Or.inl rfl) (Nat.le_of_ble_eq_true rfl) (c_X10_refuse (d := d + 5) (code := ((-3))) (code1 := (by omega)) (code2 := (by omega)) (ok := ok) (cn := (by first | assumption | omega))) (fun r9a r9b ok10 => ?_)
      show Ev _ _ _ _ _ _ _ (eh (wI H 25 ((refIx ((-3)))) (H.1 25 (refIx ((-3))) + 1)))
      refine z_ireturn (pc := 16) dX10_stands_16 rfl (Or.inl rfl) ok10 (by omega) (by omega) ?_
      exact Or.inr ⟨by omega, rfl, rfl⟩

theorem c_X10_tries {d : Nat} {H : ZH} (ok : okZ H) {s m how : Int} (s1 : -2147483648 ≤ s) (s2 : s ≤ 2147483647) (m1 : -2147483648 ≤ m) (m2 : m ≤ 2147483647) (how1 : -2147483648 ≤ how) (how2 : how ≤ 2147483647) (cn : cntOK H 25) (ws : WFS (H.1 2)) (rs : RepSc H 35 (H.1 2)) (rl : RepLw H (H.1 2)) (wl : WFL (H.1 2)) : EvC zX (d + 7) mX10_tries [.ref 20, .int (zN (s)), .int (zN (m)), .int (zN (how))] (eh H) (zPi (fun (r : Int) (H1 : ZH) => ((1 ≤ how ∧ how ≤ 5) ∧ (1 ≤ m ∧ m ≤ 60) ∧ r = trS (H.1 2) (-1) (-1) s how m.toNat ∧ FrK H H1) ∨ (¬ (1 ≤ how ∧ how ≤ 5) ∧ r = -2 ∧ H1 = bumpC 0 H) ∨ ((1 ≤ how ∧ how ≤ 5) ∧ ¬ (1 ≤ m ∧ m ≤ 60) ∧ r = -3 ∧ H1 = bumpC 1 H))) := by
  show _ ∧ Ev zX mX10_tries (EvC zX (d + 6)) (zPi (fun (r : Int) (H1 : ZH) => ((1 ≤ how ∧ how ≤ 5) ∧ (1 ≤ m ∧ m ≤ 60) ∧ r = trS (H.1 2) (-1) (-1) s how m.toNat ∧ FrK H H1) ∨ (¬ (1 ≤ how ∧ how ≤ 5) ∧ r = -2 ∧ H1 = bumpC 0 H) ∨ ((1 ≤ how ∧ how ≤ 5) ∧ ¬ (1 ≤ m ∧ m ≤ 60) ∧ r = -3 ∧ H1 = bumpC 1 H))) 0 [(0, .ref 20), (1, .int (zN (s))), (2, .int (zN (m))), (3, .int (zN (how)))] [] (eh H)
  refine ⟨Nat.le_of_ble_eq_true rfl, ?_⟩
  have wsx := ws
  obtain ⟨ws0, ws1, wsC, ws34, ws35, ws36, ws37, ws38, ws39⟩ := wsx
  have rsx := rs
  obtain ⟨rs0, rs1, rsC, rs34, rs35, rs36, rs37, rs38, rs39⟩ := rsx
  refine x_iload_n (pc := 0) dX10_tries_0 (List.Mem.tail _ (List.Mem.tail _ (List.Mem.tail _ (List.Mem.head _)))) ?_
  refine z_iconst (pc := 1) dX10_tries_1 ?_
  refine z_icmp_lt (pc := 2) (tgt := 10) dX10_tries_2 (by decide) (by omega) (by omega) (by decide) (by decide) (fun hb1 => ?_) (fun hb1 => ?_)
  · skip
    refine x_aload_n (pc := 10) dX10_tries_10 (List.Mem.head _) ?_
    refine z_bipush (pc := 11) dX10_tries_11 bp_m2 ?_
    refine z_callVip (pc := 13) (i := mX10_refuse) (S := []) [.int (zN ((-2)))] dX10_tries_13 ml_X10_97 ok_X10_refuse rfl sh_20 rfl (Or.inl rfl) (Nat.le_of_ble_eq_true rfl) (c_X10_refuse (d := d + 5) (code := ((-2))) (code1 := (by omega)) (code2 := (by omega)) (ok := ok) (cn := (by first | assumption | omega))) (fun r2a r2b ok3 => ?_)
    show Ev _ _ _ _ _ _ _ (eh (wI H 25 ((refIx ((-2)))) (H.1 25 (refIx ((-2))) + 1)))
    refine z_ireturn (pc := 16) dX10_tries_16 rfl (Or.inl rfl) ok3 (by omega) (by omega) ?_
    exact Or.inr (Or.inl ⟨by omega, rfl, rfl⟩)
  · skip
    refine x_iload_n (pc := 5) dX10_tries_5 (List.Mem.tail _ (List.Mem.tail _ (List.Mem.tail _ (List.Mem.head _)))) ?_
    refine z_iconst (pc := 6) dX10_tries_6 ?_
    refine z_icmp_le (pc := 7) (tgt := 17) dX10_tries_7 (by decide) (by omega) (by omega) (by decide) (by decide) (fun hb4 => ?_) (fun hb4 => ?_)
    · skip
      refine x_iload_n (pc := 17) dX10_tries_17 (List.Mem.tail _ (List.Mem.tail _ (List.Mem.head _))) ?_
      refine z_iconst (pc := 18) dX10_tries_18 ?_
      refine z_icmp_lt (pc := 19) (tgt := 28) dX10_tries_19 (by decide) (by omega) (by omega) (by decide) (by decide) (fun hb5 => ?_) (fun hb5 => ?_)
      · skip
        refine x_aload_n (pc := 28) dX10_tries_28 (List.Mem.head _) ?_
        refine z_bipush (pc := 29) dX10_tries_29 bp_m3 ?_
        refine z_callVip (pc := 31) (i := mX10_refuse) (S := []) [.int (zN ((-3)))] dX10_tries_31 ml_X10_97 ok_X10_refuse rfl sh_20 rfl (Or.inl rfl) (Nat.le_of_ble_eq_true rfl) (c_X10_refuse (d := d + 5) (code := ((-3))) (code1 := (by omega)) (code2 := (by omega)) (ok := ok) (cn := (by first | assumption | omega))) (fun r6a r6b ok7 => ?_)
        show Ev _ _ _ _ _ _ _ (eh (wI H 25 ((refIx ((-3)))) (H.1 25 (refIx ((-3))) + 1)))
        refine z_ireturn (pc := 34) dX10_tries_34 rfl (Or.inl rfl) ok7 (by omega) (by omega) ?_
        exact Or.inr (Or.inr ⟨by omega, by omega, rfl, rfl⟩)
      · skip
        refine x_iload_n (pc := 22) dX10_tries_22 (List.Mem.tail _ (List.Mem.tail _ (List.Mem.head _))) ?_
        refine z_bipush (pc := 23) dX10_tries_23 bp_60 ?_
        refine z_icmp_le (pc := 25) (tgt := 35) dX10_tries_25 (by decide) (by omega) (by omega) (by decide) (by decide) (fun hb8 => ?_) (fun hb8 => ?_)
        · skip
          refine z_iconst (pc := 35) dX10_tries_35 ?_
          refine x_istore (pc := 36) dX10_tries_36 (Nat.le_of_ble_eq_true rfl) ?_
          show Ev _ _ _ _ _ [(4, .int (zN (0))), (0, .ref 20), (1, .int (zN (s))), (2, .int (zN (m))), (3, .int (zN (how)))] _ _
          refine z_iconst (pc := 38) dX10_tries_38 ?_
          refine x_istore (pc := 39) dX10_tries_39 (Nat.le_of_ble_eq_true rfl) ?_
          show Ev _ _ _ _ _ [(5, .int (zN (0))), (4, .int (zN (0))), (0, .ref 20), (1, .int (zN (s))), (2, .int (zN (m))), (3, .int (zN (how)))] _ _
          have lp41 : ∀ (nF : Nat) (k : Nat) (Hm : ZH), okZ Hm → ((k : Int) ≤ m) → (0 ≤ trS (H.1 2) (-1) (-1) s how k ∧ trS (H.1 2) (-1) (-1) s how k ≤ 162 * (k : Int)) → (FrK H Hm) → m.toNat - k < nF → Ev zX mX10_tries (EvC zX (d + 6)) (zPi (fun (r : Int) (H1 : ZH) => ((1 ≤ how ∧ how ≤ 5) ∧ (1 ≤ m ∧ m ≤ 60) ∧ r = trS (H.1 2) (-1) (-1) s how m.toNat ∧ FrK H H1) ∨ (¬ (1 ≤ how ∧ how ≤ 5) ∧ r = -2 ∧ H1 = bumpC 0 H) ∨ ((1 ≤ how ∧ how ≤ 5) ∧ ¬ (1 ≤ m ∧ m ≤ 60) ∧ r = -3 ∧ H1 = bumpC 1 H))) 41 [(0, .ref 20), (1, .int (zN (s))), (2, .int (zN (m))), (3, .int (zN (how))), (4, .int (zN (trS (H.1 2) (-1) (-1) s how k))), (5, .int (zN ((k : Int))))] [] (eh Hm) := by
            intro nF
            induction nF with
            | zero => intro k Hm okl41 hk hsb fr hm; exact absurd hm (Nat.not_lt_zero _)
            | succ nF ih41 =>
              intro k Hm okl41 hk hsb fr hm
              have e2 : Hm.1 2 = H.1 2 := funext (fun j => fr.1 2 j (by omega))
              have hb0 := bgn_rn (o := Z0) (wc := -1) (sd := ((s + (k : Int)).bmod 4294967296)) ws
              have rk := rnF_ok (wo := -1) ws1 ws0 hb0 99
              have rw1 := rk.1.2
              have tv := trV_bd (how := how) rk
              have hsb2 : 0 ≤ trS (H.1 2) (-1) (-1) s how (k + 1) ∧ trS (H.1 2) (-1) (-1) s how (k + 1) ≤ 162 * ((k + 1 : Nat) : Int) := by
                show 0 ≤ trS (H.1 2) (-1) (-1) s how k + trV (rnF (H.1 2) (-1) (bgn (H.1 2) Z0 (-1) ((s + (k : Int)).bmod 4294967296)) 99) how ∧ trS (H.1 2) (-1) (-1) s how k + trV (rnF (H.1 2) (-1) (bgn (H.1 2) Z0 (-1) ((s + (k : Int)).bmod 4294967296)) 99) how ≤ 162 * ((k + 1 : Nat) : Int)
                omega
              refine x_iload (pc := 41) dX10_tries_41 (List.Mem.tail _ (List.Mem.tail _ (List.Mem.tail _ (List.Mem.tail _ (List.Mem.tail _ (List.Mem.head _)))))) ?_
              refine x_iload_n (pc := 43) dX10_tries_43 (List.Mem.tail _ (List.Mem.tail _ (List.Mem.head _))) ?_
              refine z_icmp_ge (pc := 44) (tgt := 117) dX10_tries_44 (by decide) (by omega) (by omega) (by omega) (by omega) (fun hb9 => ?_) (fun hb9 => ?_)
              · skip
                refine x_iload (pc := 117) dX10_tries_117 (List.Mem.tail _ (List.Mem.tail _ (List.Mem.tail _ (List.Mem.tail _ (List.Mem.head _))))) ?_
                refine z_ireturn (pc := 119) dX10_tries_119 rfl (Or.inl rfl) okl41 (by omega) (by omega) ?_
                exact Or.inl ⟨by omega, by omega, by rw [show m.toNat = k by omega], fr⟩
              · skip
                refine x_aload_n (pc := 47) dX10_tries_47 (List.Mem.head _) ?_
                refine x_iload_n (pc := 48) dX10_tries_48 (List.Mem.tail _ (List.Mem.head _)) ?_
                refine x_iload (pc := 49) dX10_tries_49 (List.Mem.tail _ (List.Mem.tail _ (List.Mem.tail _ (List.Mem.tail _ (List.Mem.tail _ (List.Mem.head _)))))) ?_
                have rd10 := bm32 (s + (k : Int))
                refine z_iaddw (pc := 51) dX10_tries_51 ?_
                refine z_bipush (pc := 52) dX10_tries_52 bp_99 ?_
                refine z_callVv (pc := 54) (i := mX10_play) (S := []) [.int (zN (((s + (k : Int)).bmod 4294967296))), .int (zN (99))] dX10_tries_54 ml_X10_176 ok_X10_play rfl sh_20 rfl rfl (Nat.le_of_ble_eq_true rfl) (c_X10_play (d := d) (sd := (((s + (k : Int)).bmod 4294967296))) (most := 99) (sd1 := (by omega)) (sd2 := (by omega)) (hmost := (by omega)) (ok := okl41) (ws := (show WFS (Hm.1 2) by rw [e2]; exact ws)) (rs := (show RepSc Hm 35 (Hm.1 2) by rw [e2]; exact FrK_sc fr isSc_35 rs)) (rl := (show RepLw Hm (Hm.1 2) by rw [e2]; exact FrK_lw fr rl)) (wl := (show WFL (Hm.1 2) by rw [e2]; exact wl))) ?_
                intro H3 ok12 hp13
                obtain ⟨fr2, ri0⟩ := hp13
                rw [e2] at ri0
                have ri : RoadIs H3 35 (H.1 2) (rnF (H.1 2) (-1) (bgn (H.1 2) Z0 (-1) ((s + (k : Int)).bmod 4294967296)) 99) := ri0
                clear ri0
                have rdm := ri.1
                have fr3 := FrK_tr fr fr2
                refine x_iload_n (pc := 57) dX10_tries_57 (List.Mem.tail _ (List.Mem.tail _ (List.Mem.tail _ (List.Mem.head _)))) ?_
                refine z_iconst (pc := 58) dX10_tries_58 ?_
                refine z_icmp_ne (pc := 59) (tgt := 77) dX10_tries_59 (by decide) (by omega) (by omega) (by decide) (by decide) (fun hb14 => ?_) (fun hb14 => ?_)
                · skip
                  refine x_iload_n (pc := 77) dX10_tries_77 (List.Mem.tail _ (List.Mem.tail _ (List.Mem.tail _ (List.Mem.head _)))) ?_
                  refine z_iconst (pc := 78) dX10_tries_78 ?_
                  refine z_icmp_ne (pc := 79) (tgt := 97) dX10_tries_79 (by decide) (by omega) (by omega) (by decide) (by decide) (fun hb15 => ?_) (fun hb15 => ?_)
                  · skip
                    refine x_aload_n (pc := 97) dX10_tries_97 (List.Mem.head _) ?_
                    refine z_getR (pc := 98) (k := 6) (r := 104) dX10_tries_98 lf_X10_48 sh_20 rfl rf_20_6 ?_
                    refine z_getI (pc := 101) (k := 15) (v := ((rnF (H.1 2) (-1) (bgn (H.1 2) Z0 (-1) ((s + (k : Int)).bmod 4294967296)) 99) 37)) dX10_tries_101 lf_X10_180 sh_104 rfl rdm.2.2.2.2.2.2.1 ?_
                    refine x_iload_n (pc := 104) dX10_tries_104 (List.Mem.tail _ (List.Mem.tail _ (List.Mem.tail _ (List.Mem.head _)))) ?_
                    refine z_icmp_ne (pc := 105) (tgt := 111) dX10_tries_105 (by decide) (by omega) (by omega) (by omega) (by omega) (fun hb16 => ?_) (fun hb16 => ?_)
                    · skip
                      refine z_iinc (pc := 111) dX10_tries_111 (List.Mem.tail _ (List.Mem.tail _ (List.Mem.tail _ (List.Mem.tail _ (List.Mem.tail _ (List.Mem.head _)))))) (Nat.le_of_ble_eq_true rfl) ?_
                      show Ev _ _ _ _ _ [(5, .int (zN ((k : Int) + 1))), (0, .ref 20), (1, .int (zN (s))), (2, .int (zN (m))), (3, .int (zN (how))), (4, .int (zN (trS (H.1 2) (-1) (-1) s how k)))] _ _
                      refine x_goto (pc := 114) (tgt := 41) dX10_tries_114 (by decide) ?_
                      refine x_weaken (L1 := [(0, .ref 20), (1, .int (zN (s))), (2, .int (zN (m))), (3, .int (zN (how))), (4, .int (zN (trS (H.1 2) (-1) (-1) s how (k + 1)))), (5, .int (zN ((((k + 1) : Nat) : Int))))]) (List.forall_mem_cons.mpr ⟨(List.Mem.tail _ (List.Mem.head _)), (List.forall_mem_cons.mpr ⟨(List.Mem.tail _ (List.Mem.tail _ (List.Mem.head _))), (List.forall_mem_cons.mpr ⟨(List.Mem.tail _ (List.Mem.tail _ (List.Mem.tail _ (List.Mem.head _)))), (List.forall_mem_cons.mpr ⟨(List.Mem.tail _ (List.Mem.tail _ (List.Mem.tail _ (List.Mem.tail _ (List.Mem.head _))))), (List.forall_mem_cons.mpr ⟨(mem_ci (by show trS (H.1 2) (-1) (-1) s how k + trV (rnF (H.1 2) (-1) (bgn (H.1 2) Z0 (-1) ((s + (k : Int)).bmod 4294967296)) 99) how = _; unfold trV; first | (rw [if_pos (by omega)]; done) | (rw [if_neg (by omega), if_pos (by omega)]; done) | (rw [if_neg (by omega), if_neg (by omega), if_pos (by omega)]; done) | (rw [if_neg (by omega), if_neg (by omega), if_neg (by omega), Int.add_zero]; done)) (List.Mem.tail _ (List.Mem.tail _ (List.Mem.tail _ (List.Mem.tail _ (List.Mem.tail _ (List.Mem.head _))))))), (List.forall_mem_cons.mpr ⟨(mem_ci (by omega) (List.Mem.head _)), (fun _ h => absurd h List.not_mem_nil)⟩)⟩)⟩)⟩)⟩)⟩) ?_
                      exact ih41 ((k + 1)) H3 ok12 (by first | assumption | omega) (hsb2) (fr3) (by omega)
                    · skip
                      refine z_iinc (pc := 108) dX10_tries_108 (List.Mem.tail _ (List.Mem.tail _ (List.Mem.tail _ (List.Mem.tail _ (List.Mem.head _))))) (Nat.le_of_ble_eq_true rfl) ?_
                      show Ev _ _ _ _ _ [(4, .int (zN (trS (H.1 2) (-1) (-1) s how k + 1))), (0, .ref 20), (1, .int (zN (s))), (2, .int (zN (m))), (3, .int (zN (how))), (5, .int (zN ((k : Int))))] _ _
                      refine z_iinc (pc := 111) dX10_tries_111 (List.Mem.tail _ (List.Mem.tail _ (List.Mem.tail _ (List.Mem.tail _ (List.Mem.tail _ (List.Mem.head _)))))) (Nat.le_of_ble_eq_true rfl) ?_
                      show Ev _ _ _ _ _ [(5, .int (zN ((k : Int) + 1))), (4, .int (zN (trS (H.1 2) (-1) (-1) s how k + 1))), (0, .ref 20), (1, .int (zN (s))), (2, .int (zN (m))), (3, .int (zN (how)))] _ _
                      refine x_goto (pc := 114) (tgt := 41) dX10_tries_114 (by decide) ?_
                      refine x_weaken (L1 := [(0, .ref 20), (1, .int (zN (s))), (2, .int (zN (m))), (3, .int (zN (how))), (4, .int (zN (trS (H.1 2) (-1) (-1) s how (k + 1)))), (5, .int (zN ((((k + 1) : Nat) : Int))))]) (List.forall_mem_cons.mpr ⟨(List.Mem.tail _ (List.Mem.tail _ (List.Mem.head _))), (List.forall_mem_cons.mpr ⟨(List.Mem.tail _ (List.Mem.tail _ (List.Mem.tail _ (List.Mem.head _)))), (List.forall_mem_cons.mpr ⟨(List.Mem.tail _ (List.Mem.tail _ (List.Mem.tail _ (List.Mem.tail _ (List.Mem.head _))))), (List.forall_mem_cons.mpr ⟨(List.Mem.tail _ (List.Mem.tail _ (List.Mem.tail _ (List.Mem.tail _ (List.Mem.tail _ (List.Mem.head _)))))), (List.forall_mem_cons.mpr ⟨(mem_ci (by show trS (H.1 2) (-1) (-1) s how k + trV (rnF (H.1 2) (-1) (bgn (H.1 2) Z0 (-1) ((s + (k : Int)).bmod 4294967296)) 99) how = _; unfold trV; first | (rw [if_pos (by omega)]; done) | (rw [if_neg (by omega), if_pos (by omega)]; done) | (rw [if_neg (by omega), if_neg (by omega), if_pos (by omega)]; done) | (rw [if_neg (by omega), if_neg (by omega), if_neg (by omega), Int.add_zero]; done)) (List.Mem.tail _ (List.Mem.head _))), (List.forall_mem_cons.mpr ⟨(mem_ci (by omega) (List.Mem.head _)), (fun _ h => absurd h List.not_mem_nil)⟩)⟩)⟩)⟩)⟩)⟩) ?_
                      exact ih41 ((k + 1)) H3 ok12 (by first | assumption | omega) (hsb2) (fr3) (by omega)
                  · skip
                    refine x_iload (pc := 82) dX10_tries_82 (List.Mem.tail _ (List.Mem.tail _ (List.Mem.tail _ (List.Mem.tail _ (List.Mem.head _))))) ?_
                    refine x_aload_n (pc := 84) dX10_tries_84 (List.Mem.head _) ?_
                    refine z_getR (pc := 85) (k := 6) (r := 104) dX10_tries_85 lf_X10_48 sh_20 rfl rf_20_6 ?_
                    refine z_getI (pc := 88) (k := 14) (v := ((rnF (H.1 2) (-1) (bgn (H.1 2) Z0 (-1) ((s + (k : Int)).bmod 4294967296)) 99) 36)) dX10_tries_88 lf_X10_183 sh_104 rfl rdm.2.2.2.2.2.1 ?_
                    refine z_iadd (pc := 91) dX10_tries_91 ?_
                    refine x_istore (pc := 92) dX10_tries_92 (Nat.le_of_ble_eq_true rfl) ?_
                    show Ev _ _ _ _ _ [(4, .int (zN ((trS (H.1 2) (-1) (-1) s how k + (((rnF (H.1 2) (-1) (bgn (H.1 2) Z0 (-1) ((s + (k : Int)).bmod 4294967296)) 99) 36)))))), (0, .ref 20), (1, .int (zN (s))), (2, .int (zN (m))), (3, .int (zN (how))), (5, .int (zN ((k : Int))))] _ _
                    refine x_goto (pc := 94) (tgt := 111) dX10_tries_94 (by decide) ?_
                    refine z_iinc (pc := 111) dX10_tries_111 (List.Mem.tail _ (List.Mem.tail _ (List.Mem.tail _ (List.Mem.tail _ (List.Mem.tail _ (List.Mem.head _)))))) (Nat.le_of_ble_eq_true rfl) ?_
                    show Ev _ _ _ _ _ [(5, .int (zN ((k : Int) + 1))), (4, .int (zN ((trS (H.1 2) (-1) (-1) s how k + (((rnF (H.1 2) (-1) (bgn (H.1 2) Z0 (-1) ((s + (k : Int)).bmod 4294967296)) 99) 36)))))), (0, .ref 20), (1, .int (zN (s))), (2, .int (zN (m))), (3, .int (zN (how)))] _ _
                    refine x_goto (pc := 114) (tgt := 41) dX10_tries_114 (by decide) ?_
                    refine x_weaken (L1 := [(0, .ref 20), (1, .int (zN (s))), (2, .int (zN (m))), (3, .int (zN (how))), (4, .int (zN (trS (H.1 2) (-1) (-1) s how (k + 1)))), (5, .int (zN ((((k + 1) : Nat) : Int))))]) (List.forall_mem_cons.mpr ⟨(List.Mem.tail _ (List.Mem.tail _ (List.Mem.head _))), (List.forall_mem_cons.mpr ⟨(List.Mem.tail _ (List.Mem.tail _ (List.Mem.tail _ (List.Mem.head _)))), (List.forall_mem_cons.mpr ⟨(List.Mem.tail _ (List.Mem.tail _ (List.Mem.tail _ (List.Mem.tail _ (List.Mem.head _))))), (List.forall_mem_cons.mpr ⟨(List.Mem.tail _ (List.Mem.tail _ (List.Mem.tail _ (List.Mem.tail _ (List.Mem.tail _ (List.Mem.head _)))))), (List.forall_mem_cons.mpr ⟨(mem_ci (by show trS (H.1 2) (-1) (-1) s how k + trV (rnF (H.1 2) (-1) (bgn (H.1 2) Z0 (-1) ((s + (k : Int)).bmod 4294967296)) 99) how = _; unfold trV; first | (rw [if_pos (by omega)]; done) | (rw [if_neg (by omega), if_pos (by omega)]; done) | (rw [if_neg (by omega), if_neg (by omega), if_pos (by omega)]; done) | (rw [if_neg (by omega), if_neg (by omega), if_neg (by omega), Int.add_zero]; done)) (List.Mem.tail _ (List.Mem.head _))), (List.forall_mem_cons.mpr ⟨(mem_ci (by omega) (List.Mem.head _)), (fun _ h => absurd h List.not_mem_nil)⟩)⟩)⟩)⟩)⟩)⟩) ?_
                    exact ih41 ((k + 1)) H3 ok12 (by first | assumption | omega) (hsb2) (fr3) (by omega)
                · skip
                  refine x_iload (pc := 62) dX10_tries_62 (List.Mem.tail _ (List.Mem.tail _ (List.Mem.tail _ (List.Mem.tail _ (List.Mem.head _))))) ?_
                  refine x_aload_n (pc := 64) dX10_tries_64 (List.Mem.head _) ?_
                  refine z_getR (pc := 65) (k := 6) (r := 104) dX10_tries_65 lf_X10_48 sh_20 rfl rf_20_6 ?_
                  refine z_getI (pc := 68) (k := 16) (v := ((rnF (H.1 2) (-1) (bgn (H.1 2) Z0 (-1) ((s + (k : Int)).bmod 4294967296)) 99) 38)) dX10_tries_68 lf_X10_186 sh_104 rfl rdm.2.2.2.2.2.2.2.1 ?_
                  refine z_iadd (pc := 71) dX10_tries_71 ?_
                  refine x_istore (pc := 72) dX10_tries_72 (Nat.le_of_ble_eq_true rfl) ?_
                  show Ev _ _ _ _ _ [(4, .int (zN ((trS (H.1 2) (-1) (-1) s how k + (((rnF (H.1 2) (-1) (bgn (H.1 2) Z0 (-1) ((s + (k : Int)).bmod 4294967296)) 99) 38)))))), (0, .ref 20), (1, .int (zN (s))), (2, .int (zN (m))), (3, .int (zN (how))), (5, .int (zN ((k : Int))))] _ _
                  refine x_goto (pc := 74) (tgt := 111) dX10_tries_74 (by decide) ?_
                  refine z_iinc (pc := 111) dX10_tries_111 (List.Mem.tail _ (List.Mem.tail _ (List.Mem.tail _ (List.Mem.tail _ (List.Mem.tail _ (List.Mem.head _)))))) (Nat.le_of_ble_eq_true rfl) ?_
                  show Ev _ _ _ _ _ [(5, .int (zN ((k : Int) + 1))), (4, .int (zN ((trS (H.1 2) (-1) (-1) s how k + (((rnF (H.1 2) (-1) (bgn (H.1 2) Z0 (-1) ((s + (k : Int)).bmod 4294967296)) 99) 38)))))), (0, .ref 20), (1, .int (zN (s))), (2, .int (zN (m))), (3, .int (zN (how)))] _ _
                  refine x_goto (pc := 114) (tgt := 41) dX10_tries_114 (by decide) ?_
                  refine x_weaken (L1 := [(0, .ref 20), (1, .int (zN (s))), (2, .int (zN (m))), (3, .int (zN (how))), (4, .int (zN (trS (H.1 2) (-1) (-1) s how (k + 1)))), (5, .int (zN ((((k + 1) : Nat) : Int))))]) (List.forall_mem_cons.mpr ⟨(List.Mem.tail _ (List.Mem.tail _ (List.Mem.head _))), (List.forall_mem_cons.mpr ⟨(List.Mem.tail _ (List.Mem.tail _ (List.Mem.tail _ (List.Mem.head _)))), (List.forall_mem_cons.mpr ⟨(List.Mem.tail _ (List.Mem.tail _ (List.Mem.tail _ (List.Mem.tail _ (List.Mem.head _))))), (List.forall_mem_cons.mpr ⟨(List.Mem.tail _ (List.Mem.tail _ (List.Mem.tail _ (List.Mem.tail _ (List.Mem.tail _ (List.Mem.head _)))))), (List.forall_mem_cons.mpr ⟨(mem_ci (by show trS (H.1 2) (-1) (-1) s how k + trV (rnF (H.1 2) (-1) (bgn (H.1 2) Z0 (-1) ((s + (k : Int)).bmod 4294967296)) 99) how = _; unfold trV; first | (rw [if_pos (by omega)]; done) | (rw [if_neg (by omega), if_pos (by omega)]; done) | (rw [if_neg (by omega), if_neg (by omega), if_pos (by omega)]; done) | (rw [if_neg (by omega), if_neg (by omega), if_neg (by omega), Int.add_zero]; done)) (List.Mem.tail _ (List.Mem.head _))), (List.forall_mem_cons.mpr ⟨(mem_ci (by omega) (List.Mem.head _)), (fun _ h => absurd h List.not_mem_nil)⟩)⟩)⟩)⟩)⟩)⟩) ?_
                  exact ih41 ((k + 1)) H3 ok12 (by first | assumption | omega) (hsb2) (fr3) (by omega)
          refine x_weaken (L1 := [(0, .ref 20), (1, .int (zN (s))), (2, .int (zN (m))), (3, .int (zN (how))), (4, .int (zN (trS (H.1 2) (-1) (-1) s how 0))), (5, .int (zN (((0 : Nat) : Int))))]) (List.forall_mem_cons.mpr ⟨(List.Mem.tail _ (List.Mem.tail _ (List.Mem.head _))), (List.forall_mem_cons.mpr ⟨(List.Mem.tail _ (List.Mem.tail _ (List.Mem.tail _ (List.Mem.head _)))), (List.forall_mem_cons.mpr ⟨(List.Mem.tail _ (List.Mem.tail _ (List.Mem.tail _ (List.Mem.tail _ (List.Mem.head _))))), (List.forall_mem_cons.mpr ⟨(List.Mem.tail _ (List.Mem.tail _ (List.Mem.tail _ (List.Mem.tail _ (List.Mem.tail _ (List.Mem.head _)))))), (List.forall_mem_cons.mpr ⟨(mem_ci (rfl) (List.Mem.tail _ (List.Mem.head _))), (List.forall_mem_cons.mpr ⟨(mem_ci (by omega) (List.Mem.head _)), (fun _ h => absurd h List.not_mem_nil)⟩)⟩)⟩)⟩)⟩)⟩) ?_
          exact lp41 (m.toNat - 0 + 1) (0) H ok (by first | assumption | omega) (⟨Int.le_refl _, Int.le_refl _⟩) (FrK_0 H) (Nat.lt_succ_self _)
        · skip
          refine x_aload_n (pc := 28) dX10_tries_28 (List.Mem.head _) ?_
          refine z_bipush (pc := 29) dX10_tries_29 bp_m3 ?_
          refine z_callVip (pc := 31) (i := mX10_refuse) (S := []) [.int (zN ((-3)))] dX10_tries_31 ml_X10_97 ok_X10_refuse rfl sh_20 rfl (Or.inl rfl) (Nat.le_of_ble_eq_true rfl) (c_X10_refuse (d := d + 5) (code := ((-3))) (code1 := (by omega)) (code2 := (by omega)) (ok := ok) (cn := (by first | assumption | omega))) (fun r17a r17b ok18 => ?_)
          show Ev _ _ _ _ _ _ _ (eh (wI H 25 ((refIx ((-3)))) (H.1 25 (refIx ((-3))) + 1)))
          refine z_ireturn (pc := 34) dX10_tries_34 rfl (Or.inl rfl) ok18 (by omega) (by omega) ?_
          exact Or.inr (Or.inr ⟨by omega, by omega, rfl, rfl⟩)
    · skip
      refine x_aload_n (pc := 10) dX10_tries_10 (List.Mem.head _) ?_
      refine z_bipush (pc := 11) dX10_tries_11 bp_m2 ?_
      refine z_callVip (pc := 13) (i := mX10_refuse) (S := []) [.int (zN ((-2)))] dX10_tries_13 ml_X10_97 ok_X10_refuse rfl sh_20 rfl (Or.inl rfl) (Nat.le_of_ble_eq_true rfl) (c_X10_refuse (d := d + 5) (code := ((-2))) (code1 := (by omega)) (code2 := (by omega)) (ok := ok) (cn := (by first | assumption | omega))) (fun r19a r19b ok20 => ?_)
      show Ev _ _ _ _ _ _ _ (eh (wI H 25 ((refIx ((-2)))) (H.1 25 (refIx ((-2))) + 1)))
      refine z_ireturn (pc := 16) dX10_tries_16 rfl (Or.inl rfl) ok20 (by omega) (by omega) ?_
      exact Or.inr (Or.inl ⟨by omega, rfl, rfl⟩)

theorem c_X10_margin {d : Nat} {H : ZH} (ok : okZ H) {sd : Int} (sd1 : -2147483648 ≤ sd) (sd2 : sd ≤ 2147483647) (ws : WFS (H.1 2)) (rs : RepSc H 35 (H.1 2)) (rl : RepLw H (H.1 2)) (wl : WFL (H.1 2)) : EvC zX (d + 6) mX10_margin [.ref 20, .int (zN (sd))] (eh H) (zPi (fun (r : Int) (H1 : ZH) => r = (mrF (H.1 2) (-1) (bgn (H.1 2) Z0 (-1) sd) 99) ∧ FrK H H1)) := by
  show _ ∧ Ev zX mX10_margin (EvC zX (d + 5)) (zPi (fun (r : Int) (H1 : ZH) => r = (mrF (H.1 2) (-1) (bgn (H.1 2) Z0 (-1) sd) 99) ∧ FrK H H1)) 0 [(0, .ref 20), (1, .int (zN (sd)))] [] (eh H)
  refine ⟨Nat.le_of_ble_eq_true rfl, ?_⟩
  have wsx := ws
  obtain ⟨ws0, ws1, wsC, ws34, ws35, ws36, ws37, ws38, ws39⟩ := wsx
  have hb0 := bgn_rn (o := Z0) (wc := -1) (sd := sd) ws
  refine x_aload_n (pc := 0) dX10_margin_0 (List.Mem.head _) ?_
  refine z_getR (pc := 1) (k := 6) (r := 104) dX10_margin_1 lf_X10_48 sh_20 rfl rf_20_6 ?_
  refine z_getR (pc := 4) (k := 0) (r := 111) dX10_margin_4 lf_X10_278 sh_104 rfl rf_104_0 ?_
  refine x_iload_n (pc := 7) dX10_margin_7 (List.Mem.tail _ (List.Mem.head _)) ?_
  refine z_callVvp (pc := 8) (i := mX0_drawFrom) (S := []) [.int (zN (sd))] dX10_margin_8 ml_X10_282 ok_X0_drawFrom rfl sh_111 rfl rfl (Nat.le_of_ble_eq_true rfl) (c_X0_drawFrom (d := d + 4) (sd := sd) (sd1 := (by omega)) (sd2 := (by omega)) (ok := ok)) (fun ok2 => ?_)
  refine x_aload_n (pc := 11) dX10_margin_11 (List.Mem.head _) ?_
  refine z_getR (pc := 12) (k := 6) (r := 104) dX10_margin_12 lf_X10_48 sh_20 rfl rf_20_6 ?_
  refine x_aload_n (pc := 15) dX10_margin_15 (List.Mem.head _) ?_
  refine z_getR (pc := 16) (k := 3) (r := 98) dX10_margin_16 lf_X10_23 sh_20 rfl rf_20_3 ?_
  refine z_getR (pc := 19) (k := 0) (r := 35) dX10_margin_19 lf_X10_37 sh_98 rfl rf_98_0 ?_
  refine z_iconst (pc := 22) dX10_margin_22 ?_
  refine z_callVv (pc := 23) (i := mX4_begin) (S := []) [.ref 35, .int (zN ((-1)))] dX10_margin_23 ml_X10_166 ok_X4_begin rfl sh_104 rfl rfl (Nat.le_of_ble_eq_true rfl) (c_X4_begin (d := d + 3) (s := 35) (q := (H.1 2)) (k := ((-1))) (k1 := (by omega)) (k2 := (by omega)) (ok := ok2) (hs := isSc_35) (ws := ws) (rs := (FrK_sc (FrK_tr (FrK_I (by omega)) (FrK_I (by omega))) isSc_35 rs))) ?_
  intro Hb ok4 hp5
  obtain ⟨frb0, b1, b3, bR, bP, b4, b5, b6, b7⟩ := hp5
  have frb : FrK H Hb := FrK_tr (FrK_tr (FrK_I (by omega)) (FrK_I (by omega))) frb0
  have ri0 : RoadIs Hb 35 (H.1 2) (rnF (H.1 2) (-1) (bgn (H.1 2) Z0 (-1) sd) 0) := ⟨bR Z0 sd, b1, b3, bP, (b6 0 (by omega)).trans rfl, (b6 1 (by omega)).trans (by rw [wI1]; rfl)⟩
  refine z_iconst (pc := 26) dX10_margin_26 ?_
  refine x_istore_n (pc := 27) dX10_margin_27 (Nat.le_of_ble_eq_true rfl) ?_
  show Ev _ _ _ _ _ [(2, .int (zN ((-1)))), (0, .ref 20), (1, .int (zN (sd)))] _ _
  refine z_iconst (pc := 28) dX10_margin_28 ?_
  refine x_istore_n (pc := 29) dX10_margin_29 (Nat.le_of_ble_eq_true rfl) ?_
  show Ev _ _ _ _ _ [(3, .int (zN (0))), (2, .int (zN ((-1)))), (0, .ref 20), (1, .int (zN (sd)))] _ _
  have lp30 : ∀ (nF : Nat) (t : Nat) (Hm : ZH), okZ Hm → (t ≤ 99) → (FrK H Hm) → (RoadIs Hm 35 (H.1 2) (rnF (H.1 2) (-1) (bgn (H.1 2) Z0 (-1) sd) t)) → 99 - t < nF → Ev zX mX10_margin (EvC zX (d + 5)) (zPi (fun (r : Int) (H1 : ZH) => r = (mrF (H.1 2) (-1) (bgn (H.1 2) Z0 (-1) sd) 99) ∧ FrK H H1)) 30 [(0, .ref 20), (1, .int (zN (sd))), (2, .int (zN ((mrF (H.1 2) (-1) (bgn (H.1 2) Z0 (-1) sd) t)))), (3, .int (zN ((t : Int))))] [] (eh Hm) := by
    intro nF
    induction nF with
    | zero => intro t Hm okl30 ht fr ri hm; exact absurd hm (Nat.not_lt_zero _)
    | succ nF ih30 =>
      intro t Hm okl30 ht fr ri hm
      obtain ⟨r1, r2, r3, r4, r5⟩ := rnF_ok (wo := -1) ws1 ws0 hb0 t
      have r37 := r1.2.2.2.2.2.2.1
      have rix := ri
      obtain ⟨rdm, g1, g3, gp, gd, gx⟩ := rix
      have mb := mrF_bd (wo := -1) ws1 ws0 hb0 t
      refine x_iload_n (pc := 30) dX10_margin_30 (List.Mem.tail _ (List.Mem.tail _ (List.Mem.tail _ (List.Mem.head _)))) ?_
      refine z_bipush (pc := 31) dX10_margin_31 bp_99 ?_
      refine z_icmp_ge (pc := 33) (tgt := 88) dX10_margin_33 (by decide) (by omega) (by omega) (by decide) (by decide) (fun hb6 => ?_) (fun hb6 => ?_)
      · skip
        refine x_iload_n (pc := 88) dX10_margin_88 (List.Mem.tail _ (List.Mem.tail _ (List.Mem.head _))) ?_
        refine z_ireturn (pc := 89) dX10_margin_89 rfl (Or.inl rfl) okl30 (by omega) (by omega) ?_
        first | exact ⟨hst.symm, fr⟩ | exact ⟨by rw [show 99 = t by omega], fr⟩
      · skip
        refine x_aload_n (pc := 36) dX10_margin_36 (List.Mem.head _) ?_
        refine z_getR (pc := 37) (k := 6) (r := 104) dX10_margin_37 lf_X10_48 sh_20 rfl rf_20_6 ?_
        refine z_getI (pc := 40) (k := 15) (v := ((rnF (H.1 2) (-1) (bgn (H.1 2) Z0 (-1) sd) t) 37)) dX10_margin_40 lf_X10_180 sh_104 rfl rdm.2.2.2.2.2.2.1 ?_
        refine z_if_ne (pc := 43) (tgt := 88) dX10_margin_43 (by decide) (by omega) (by omega) (fun hb7 => ?_) (fun hb7 => ?_)
        · skip
          have hst : (mrF (H.1 2) (-1) (bgn (H.1 2) Z0 (-1) sd) 99) = (mrF (H.1 2) (-1) (bgn (H.1 2) Z0 (-1) sd) t) := by rw [show 99 = t + (99 - t) by omega]; exact mrF_st hb7 _
          refine x_iload_n (pc := 88) dX10_margin_88 (List.Mem.tail _ (List.Mem.tail _ (List.Mem.head _))) ?_
          refine z_ireturn (pc := 89) dX10_margin_89 rfl (Or.inl rfl) okl30 (by omega) (by omega) ?_
          first | exact ⟨hst.symm, fr⟩ | exact ⟨by rw [show 99 = t by omega], fr⟩
        · skip
          refine x_aload_n (pc := 46) dX10_margin_46 (List.Mem.head _) ?_
          refine z_getR (pc := 47) (k := 6) (r := 104) dX10_margin_47 lf_X10_48 sh_20 rfl rf_20_6 ?_
          refine z_callVv (pc := 50) (i := mX4_tick) (S := []) [] dX10_margin_50 ml_X10_287 ok_X4_tick rfl sh_104 rfl rfl (Nat.le_of_ble_eq_true rfl) (c_X4_tick_d (d := d) (s := 35) (q := (H.1 2)) (N := (rnF (H.1 2) (-1) (bgn (H.1 2) Z0 (-1) sd) t)) (ok := okl30) (hs := isSc_35) (hsc := (show Hm.1 104 1 = ((35 : Nat) : Int) from g1)) (ws := ws) (rs := (FrK_sc fr isSc_35 rs)) (wn := r1) (rd := rdm) (rl := (FrK_lw fr rl)) (wl := wl) (wx := r2) (he := (by omega)) (pm := gp) (e41 := r3) (hdr := gd) (hx := gx)) ?_
          intro H3 ok9 hp10
          obtain ⟨fr2, rd2, f42, pm2, d2, p2, h2, x2⟩ := hp10
          rw [g3] at rd2 x2
          have z37 : (rnF (H.1 2) (-1) (bgn (H.1 2) Z0 (-1) sd) t) 37 = 0 := by omega
          have eT1 : (rnF (H.1 2) (-1) (bgn (H.1 2) Z0 (-1) sd) (t + 1)) = tickF (H.1 2) (drws (H.1 2) (-1) ((H.1 2) 1).toNat (rnF (H.1 2) (-1) (bgn (H.1 2) Z0 (-1) sd) t)) := if_pos z37
          rw [← eT1] at rd2 x2
          have fr3 := FrK_tr fr fr2
          have ri3 : RoadIs H3 35 (H.1 2) (rnF (H.1 2) (-1) (bgn (H.1 2) Z0 (-1) sd) (t + 1)) := ⟨rd2, (f42 1 (by omega)).trans g1, (f42 3 (by omega)).trans g3, pm2, (d2 0 (by omega)).trans gd, x2⟩
          have k1 := rnF_ok (wo := -1) ws1 ws0 hb0 (t + 1)
          have nb := mnl_bd (A := (H.1 2)) (N := (rnF (H.1 2) (-1) (bgn (H.1 2) Z0 (-1) sd) (t + 1))) (v := -1) (fun c hc => (k1.1.1 c hc).1.2) (by decide) ((H.1 2) 1).toNat (by omega)
          have nin := mnl_in (A := (H.1 2)) (N := (rnF (H.1 2) (-1) (bgn (H.1 2) Z0 (-1) sd) (t + 1))) (v := (mrF (H.1 2) (-1) (bgn (H.1 2) Z0 (-1) sd) t)) ((H.1 2) 1).toNat (fun _ _ _ _ => trivial) mb.1
          have hif : ((rnF (H.1 2) (-1) (bgn (H.1 2) Z0 (-1) sd) (t + 1)) 33 = 1 ∧ (if (rnF (H.1 2) (-1) (bgn (H.1 2) Z0 (-1) sd) (t + 1)) 33 = 1 then (mnl (H.1 2) (rnF (H.1 2) (-1) (bgn (H.1 2) Z0 (-1) sd) (t + 1)) (-1) ((H.1 2) 1).toNat) else -1) = (mnl (H.1 2) (rnF (H.1 2) (-1) (bgn (H.1 2) Z0 (-1) sd) (t + 1)) (-1) ((H.1 2) 1).toNat)) ∨ (¬ (rnF (H.1 2) (-1) (bgn (H.1 2) Z0 (-1) sd) (t + 1)) 33 = 1 ∧ (if (rnF (H.1 2) (-1) (bgn (H.1 2) Z0 (-1) sd) (t + 1)) 33 = 1 then (mnl (H.1 2) (rnF (H.1 2) (-1) (bgn (H.1 2) Z0 (-1) sd) (t + 1)) (-1) ((H.1 2) 1).toNat) else -1) = -1) := by
            by_cases z : (rnF (H.1 2) (-1) (bgn (H.1 2) Z0 (-1) sd) (t + 1)) 33 = 1
            · exact Or.inl ⟨z, if_pos z⟩
            · exact Or.inr ⟨z, if_neg z⟩
          have hm1 : (mrF (H.1 2) (-1) (bgn (H.1 2) Z0 (-1) sd) (t + 1)) = (if (if (rnF (H.1 2) (-1) (bgn (H.1 2) Z0 (-1) sd) (t + 1)) 33 = 1 then (mnl (H.1 2) (rnF (H.1 2) (-1) (bgn (H.1 2) Z0 (-1) sd) (t + 1)) (-1) ((H.1 2) 1).toNat) else -1) ≠ -1 ∧ ((mrF (H.1 2) (-1) (bgn (H.1 2) Z0 (-1) sd) t) = -1 ∨ (if (rnF (H.1 2) (-1) (bgn (H.1 2) Z0 (-1) sd) (t + 1)) 33 = 1 then (mnl (H.1 2) (rnF (H.1 2) (-1) (bgn (H.1 2) Z0 (-1) sd) (t + 1)) (-1) ((H.1 2) 1).toNat) else -1) < (mrF (H.1 2) (-1) (bgn (H.1 2) Z0 (-1) sd) t)) then (if (rnF (H.1 2) (-1) (bgn (H.1 2) Z0 (-1) sd) (t + 1)) 33 = 1 then (mnl (H.1 2) (rnF (H.1 2) (-1) (bgn (H.1 2) Z0 (-1) sd) (t + 1)) (-1) ((H.1 2) 1).toNat) else -1) else (mrF (H.1 2) (-1) (bgn (H.1 2) Z0 (-1) sd) t)) := by
            show (if (rnF (H.1 2) (-1) (bgn (H.1 2) Z0 (-1) sd) t) 37 = 0 ∧ (rnF (H.1 2) (-1) (bgn (H.1 2) Z0 (-1) sd) (t + 1)) 33 = 1 then mnl (H.1 2) (rnF (H.1 2) (-1) (bgn (H.1 2) Z0 (-1) sd) (t + 1)) (mrF (H.1 2) (-1) (bgn (H.1 2) Z0 (-1) sd) t) ((H.1 2) 1).toNat else (mrF (H.1 2) (-1) (bgn (H.1 2) Z0 (-1) sd) t)) = _
            rcases hif with ⟨z, e⟩ | ⟨z, e⟩
            · rw [if_pos ⟨z37, z⟩, e]; exact nin.1
            · rw [if_neg (fun y => z y.2), e]; exact (if_neg (fun y => y.1 rfl)).symm
          refine x_aload_n (pc := 53) dX10_margin_53 (List.Mem.head _) ?_
          refine z_getR (pc := 54) (k := 6) (r := 104) dX10_margin_54 lf_X10_48 sh_20 rfl rf_20_6 ?_
          refine z_callVip (pc := 57) (i := mX4_nearestInHerLane) (S := []) [] dX10_margin_57 ml_X10_290 ok_X4_nearestInHerLane rfl sh_104 rfl (Or.inl rfl) (Nat.le_of_ble_eq_true rfl) (c_X4_nearestInHerLane (d := d + 4) (s := 35) (q := (H.1 2)) (N := (rnF (H.1 2) (-1) (bgn (H.1 2) Z0 (-1) sd) (t + 1))) (ok := ok9) (hs := isSc_35) (hsc := (show H3.1 104 1 = ((35 : Nat) : Int) from ri3.2.1)) (ws := ws) (rs := (FrK_sc fr3 isSc_35 rs)) (wn := k1.1) (rd := ri3.1)) (fun r11a r11b ok12 => ?_)
          refine x_istore (pc := 60) dX10_margin_60 (Nat.le_of_ble_eq_true rfl) ?_
          show Ev _ _ _ _ _ [(4, .int (zN ((if (rnF (H.1 2) (-1) (bgn (H.1 2) Z0 (-1) sd) (t + 1)) 33 = 1 then mnl (H.1 2) (rnF (H.1 2) (-1) (bgn (H.1 2) Z0 (-1) sd) (t + 1)) (-1) ((H.1 2) 1).toNat else -1)))), (0, .ref 20), (1, .int (zN (sd))), (2, .int (zN ((mrF (H.1 2) (-1) (bgn (H.1 2) Z0 (-1) sd) t)))), (3, .int (zN ((t : Int))))] _ _
          refine x_iload (pc := 62) dX10_margin_62 (List.Mem.head _) ?_
          refine z_iconst (pc := 64) dX10_margin_64 ?_
          refine z_icmp_eq (pc := 65) (tgt := 82) dX10_margin_65 (by decide) (by omega) (by omega) (by decide) (by decide) (fun hb13 => ?_) (fun hb13 => ?_)
          · skip
            refine z_iinc (pc := 82) dX10_margin_82 (List.Mem.tail _ (List.Mem.tail _ (List.Mem.tail _ (List.Mem.tail _ (List.Mem.head _))))) (Nat.le_of_ble_eq_true rfl) ?_
            show Ev _ _ _ _ _ [(3, .int (zN ((t : Int) + 1))), (4, .int (zN ((if (rnF (H.1 2) (-1) (bgn (H.1 2) Z0 (-1) sd) (t + 1)) 33 = 1 then mnl (H.1 2) (rnF (H.1 2) (-1) (bgn (H.1 2) Z0 (-1) sd) (t + 1)) (-1) ((H.1 2) 1).toNat else -1)))), (0, .ref 20), (1, .int (zN (sd))), (2, .int (zN ((mrF (H.1 2) (-1) (bgn (H.1 2) Z0 (-1) sd) t))))] _ _
            refine x_goto (pc := 85) (tgt := 30) dX10_margin_85 (by decide) ?_
            refine x_weaken (L1 := [(0, .ref 20), (1, .int (zN (sd))), (2, .int (zN ((mrF (H.1 2) (-1) (bgn (H.1 2) Z0 (-1) sd) (t + 1))))), (3, .int (zN ((((t + 1) : Nat) : Int))))]) (List.forall_mem_cons.mpr ⟨(List.Mem.tail _ (List.Mem.tail _ (List.Mem.head _))), (List.forall_mem_cons.mpr ⟨(List.Mem.tail _ (List.Mem.tail _ (List.Mem.tail _ (List.Mem.head _)))), (List.forall_mem_cons.mpr ⟨(mem_ci (hm1.trans (by first | exact if_pos (by omega) | exact if_neg (by omega))) (List.Mem.tail _ (List.Mem.tail _ (List.Mem.tail _ (List.Mem.tail _ (List.Mem.head _)))))), (List.forall_mem_cons.mpr ⟨(mem_ci (by omega) (List.Mem.head _)), (fun _ h => absurd h List.not_mem_nil)⟩)⟩)⟩)⟩) ?_
            exact ih30 ((t + 1)) H3 ok12 (by omega) (fr3) (ri3) (by omega)
          · skip
            refine x_iload_n (pc := 68) dX10_margin_68 (List.Mem.tail _ (List.Mem.tail _ (List.Mem.tail _ (List.Mem.head _)))) ?_
            refine z_iconst (pc := 69) dX10_margin_69 ?_
            refine z_icmp_eq (pc := 70) (tgt := 79) dX10_margin_70 (by decide) (by omega) (by omega) (by decide) (by decide) (fun hb14 => ?_) (fun hb14 => ?_)
            · skip
              refine x_iload (pc := 79) dX10_margin_79 (List.Mem.head _) ?_
              refine x_istore_n (pc := 81) dX10_margin_81 (Nat.le_of_ble_eq_true rfl) ?_
              show Ev _ _ _ _ _ [(2, .int (zN ((if (rnF (H.1 2) (-1) (bgn (H.1 2) Z0 (-1) sd) (t + 1)) 33 = 1 then mnl (H.1 2) (rnF (H.1 2) (-1) (bgn (H.1 2) Z0 (-1) sd) (t + 1)) (-1) ((H.1 2) 1).toNat else -1)))), (4, .int (zN ((if (rnF (H.1 2) (-1) (bgn (H.1 2) Z0 (-1) sd) (t + 1)) 33 = 1 then mnl (H.1 2) (rnF (H.1 2) (-1) (bgn (H.1 2) Z0 (-1) sd) (t + 1)) (-1) ((H.1 2) 1).toNat else -1)))), (0, .ref 20), (1, .int (zN (sd))), (3, .int (zN ((t : Int))))] _ _
              refine z_iinc (pc := 82) dX10_margin_82 (List.Mem.tail _ (List.Mem.tail _ (List.Mem.tail _ (List.Mem.tail _ (List.Mem.head _))))) (Nat.le_of_ble_eq_true rfl) ?_
              show Ev _ _ _ _ _ [(3, .int (zN ((t : Int) + 1))), (2, .int (zN ((if (rnF (H.1 2) (-1) (bgn (H.1 2) Z0 (-1) sd) (t + 1)) 33 = 1 then mnl (H.1 2) (rnF (H.1 2) (-1) (bgn (H.1 2) Z0 (-1) sd) (t + 1)) (-1) ((H.1 2) 1).toNat else -1)))), (4, .int (zN ((if (rnF (H.1 2) (-1) (bgn (H.1 2) Z0 (-1) sd) (t + 1)) 33 = 1 then mnl (H.1 2) (rnF (H.1 2) (-1) (bgn (H.1 2) Z0 (-1) sd) (t + 1)) (-1) ((H.1 2) 1).toNat else -1)))), (0, .ref 20), (1, .int (zN (sd)))] _ _
              refine x_goto (pc := 85) (tgt := 30) dX10_margin_85 (by decide) ?_
              refine x_weaken (L1 := [(0, .ref 20), (1, .int (zN (sd))), (2, .int (zN ((mrF (H.1 2) (-1) (bgn (H.1 2) Z0 (-1) sd) (t + 1))))), (3, .int (zN ((((t + 1) : Nat) : Int))))]) (List.forall_mem_cons.mpr ⟨(List.Mem.tail _ (List.Mem.tail _ (List.Mem.tail _ (List.Mem.head _)))), (List.forall_mem_cons.mpr ⟨(List.Mem.tail _ (List.Mem.tail _ (List.Mem.tail _ (List.Mem.tail _ (List.Mem.head _))))), (List.forall_mem_cons.mpr ⟨(mem_ci (hm1.trans (by first | exact if_pos (by omega) | exact if_neg (by omega))) (List.Mem.tail _ (List.Mem.head _))), (List.forall_mem_cons.mpr ⟨(mem_ci (by omega) (List.Mem.head _)), (fun _ h => absurd h List.not_mem_nil)⟩)⟩)⟩)⟩) ?_
              exact ih30 ((t + 1)) H3 ok12 (by omega) (fr3) (ri3) (by omega)
            · skip
              refine x_iload (pc := 73) dX10_margin_73 (List.Mem.head _) ?_
              refine x_iload_n (pc := 75) dX10_margin_75 (List.Mem.tail _ (List.Mem.tail _ (List.Mem.tail _ (List.Mem.head _)))) ?_
              refine z_icmp_ge (pc := 76) (tgt := 82) dX10_margin_76 (by decide) (by omega) (by omega) (by omega) (by omega) (fun hb15 => ?_) (fun hb15 => ?_)
              · skip
                refine z_iinc (pc := 82) dX10_margin_82 (List.Mem.tail _ (List.Mem.tail _ (List.Mem.tail _ (List.Mem.tail _ (List.Mem.head _))))) (Nat.le_of_ble_eq_true rfl) ?_
                show Ev _ _ _ _ _ [(3, .int (zN ((t : Int) + 1))), (4, .int (zN ((if (rnF (H.1 2) (-1) (bgn (H.1 2) Z0 (-1) sd) (t + 1)) 33 = 1 then mnl (H.1 2) (rnF (H.1 2) (-1) (bgn (H.1 2) Z0 (-1) sd) (t + 1)) (-1) ((H.1 2) 1).toNat else -1)))), (0, .ref 20), (1, .int (zN (sd))), (2, .int (zN ((mrF (H.1 2) (-1) (bgn (H.1 2) Z0 (-1) sd) t))))] _ _
                refine x_goto (pc := 85) (tgt := 30) dX10_margin_85 (by decide) ?_
                refine x_weaken (L1 := [(0, .ref 20), (1, .int (zN (sd))), (2, .int (zN ((mrF (H.1 2) (-1) (bgn (H.1 2) Z0 (-1) sd) (t + 1))))), (3, .int (zN ((((t + 1) : Nat) : Int))))]) (List.forall_mem_cons.mpr ⟨(List.Mem.tail _ (List.Mem.tail _ (List.Mem.head _))), (List.forall_mem_cons.mpr ⟨(List.Mem.tail _ (List.Mem.tail _ (List.Mem.tail _ (List.Mem.head _)))), (List.forall_mem_cons.mpr ⟨(mem_ci (hm1.trans (by first | exact if_pos (by omega) | exact if_neg (by omega))) (List.Mem.tail _ (List.Mem.tail _ (List.Mem.tail _ (List.Mem.tail _ (List.Mem.head _)))))), (List.forall_mem_cons.mpr ⟨(mem_ci (by omega) (List.Mem.head _)), (fun _ h => absurd h List.not_mem_nil)⟩)⟩)⟩)⟩) ?_
                exact ih30 ((t + 1)) H3 ok12 (by omega) (fr3) (ri3) (by omega)
              · skip
                refine x_iload (pc := 79) dX10_margin_79 (List.Mem.head _) ?_
                refine x_istore_n (pc := 81) dX10_margin_81 (Nat.le_of_ble_eq_true rfl) ?_
                show Ev _ _ _ _ _ [(2, .int (zN ((if (rnF (H.1 2) (-1) (bgn (H.1 2) Z0 (-1) sd) (t + 1)) 33 = 1 then mnl (H.1 2) (rnF (H.1 2) (-1) (bgn (H.1 2) Z0 (-1) sd) (t + 1)) (-1) ((H.1 2) 1).toNat else -1)))), (4, .int (zN ((if (rnF (H.1 2) (-1) (bgn (H.1 2) Z0 (-1) sd) (t + 1)) 33 = 1 then mnl (H.1 2) (rnF (H.1 2) (-1) (bgn (H.1 2) Z0 (-1) sd) (t + 1)) (-1) ((H.1 2) 1).toNat else -1)))), (0, .ref 20), (1, .int (zN (sd))), (3, .int (zN ((t : Int))))] _ _
                refine z_iinc (pc := 82) dX10_margin_82 (List.Mem.tail _ (List.Mem.tail _ (List.Mem.tail _ (List.Mem.tail _ (List.Mem.head _))))) (Nat.le_of_ble_eq_true rfl) ?_
                show Ev _ _ _ _ _ [(3, .int (zN ((t : Int) + 1))), (2, .int (zN ((if (rnF (H.1 2) (-1) (bgn (H.1 2) Z0 (-1) sd) (t + 1)) 33 = 1 then mnl (H.1 2) (rnF (H.1 2) (-1) (bgn (H.1 2) Z0 (-1) sd) (t + 1)) (-1) ((H.1 2) 1).toNat else -1)))), (4, .int (zN ((if (rnF (H.1 2) (-1) (bgn (H.1 2) Z0 (-1) sd) (t + 1)) 33 = 1 then mnl (H.1 2) (rnF (H.1 2) (-1) (bgn (H.1 2) Z0 (-1) sd) (t + 1)) (-1) ((H.1 2) 1).toNat else -1)))), (0, .ref 20), (1, .int (zN (sd)))] _ _
                refine x_goto (pc := 85) (tgt := 30) dX10_margin_85 (by decide) ?_
                refine x_weaken (L1 := [(0, .ref 20), (1, .int (zN (sd))), (2, .int (zN ((mrF (H.1 2) (-1) (bgn (H.1 2) Z0 (-1) sd) (t + 1))))), (3, .int (zN ((((t + 1) : Nat) : Int))))]) (List.forall_mem_cons.mpr ⟨(List.Mem.tail _ (List.Mem.tail _ (List.Mem.tail _ (List.Mem.head _)))), (List.forall_mem_cons.mpr ⟨(List.Mem.tail _ (List.Mem.tail _ (List.Mem.tail _ (List.Mem.tail _ (List.Mem.head _))))), (List.forall_mem_cons.mpr ⟨(mem_ci (hm1.trans (by first | exact if_pos (by omega) | exact if_neg (by omega))) (List.Mem.tail _ (List.Mem.head _))), (List.forall_mem_cons.mpr ⟨(mem_ci (by omega) (List.Mem.head _)), (fun _ h => absurd h List.not_mem_nil)⟩)⟩)⟩)⟩) ?_
                exact ih30 ((t + 1)) H3 ok12 (by omega) (fr3) (ri3) (by omega)
  refine x_weaken (L1 := [(0, .ref 20), (1, .int (zN (sd))), (2, .int (zN ((mrF (H.1 2) (-1) (bgn (H.1 2) Z0 (-1) sd) 0)))), (3, .int (zN (((0 : Nat) : Int))))]) (List.forall_mem_cons.mpr ⟨(List.Mem.tail _ (List.Mem.tail _ (List.Mem.head _))), (List.forall_mem_cons.mpr ⟨(List.Mem.tail _ (List.Mem.tail _ (List.Mem.tail _ (List.Mem.head _)))), (List.forall_mem_cons.mpr ⟨(mem_ci (rfl) (List.Mem.tail _ (List.Mem.head _))), (List.forall_mem_cons.mpr ⟨(mem_ci (by omega) (List.Mem.head _)), (fun _ h => absurd h List.not_mem_nil)⟩)⟩)⟩)⟩) ?_
  exact lp30 (99 - 0 + 1) (0) Hb ok4 (by omega) (frb) (ri0) (Nat.lt_succ_self _)
