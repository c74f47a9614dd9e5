/-! GROUP E3: clumps. -/
theorem wA_self (H : ZH) (c : Nat) : wA H c (H.1 c) = H := by
  unfold wA
  refine Prod.ext ?_ rfl
  funext c' k'
  show (if c' = c then H.1 c k' else H.1 c' k') = H.1 c' k'
  split
  · next q => rw [q]
  · rfl
def cgo (f : Nat → Int) (c g : Int) (k : Nat) : Int := if f k % c < g then f k else f k + c - f k % c
def cws (f : Nat → Int) (c g : Int) : Nat → Int
  | 0 => 0
  | n + 1 => cws f c g n + (cgo f c g n - f n)
def ceq (G : Nat → Int) (x : Int) : Nat → Int
  | 0 => 0
  | n + 1 => ceq G x n + (if G n = x then 1 else 0)
def cmx (G : Nat → Int) (N : Nat) : Nat → Int
  | 0 => 0
  | k + 1 => if cmx G N k < ceq G (G k) N then ceq G (G k) N else cmx G N k
def cnew (G : Nat → Int) (k : Nat) : Nat → Bool
  | 0 => true
  | n + 1 => cnew G k n && decide (G n ≠ G k)
def cfst (G : Nat → Int) (k : Nat) : Nat → Bool
  | 0 => true
  | n + 1 => cfst G k n && decide (G n = G k → k ≤ n)
theorem ite01_0 {b : Bool} (h : (if b = true then (1 : Int) else 0) = 0) : b = false := by cases b <;> simp at h ⊢
theorem ite01_1 {b : Bool} (h : (if b = true then (1 : Int) else 0) ≠ 0) : b = true := by cases b <;> simp at h ⊢
def cdf (G : Nat → Int) : Nat → Int
  | 0 => 0
  | k + 1 => cdf G k + (if cnew G k k = true then 1 else 0)
theorem cfst_new (G : Nat → Int) (k : Nat) : ∀ n, n ≤ k → cfst G k n = cnew G k n := by
  intro n
  induction n with
  | zero => intro _; rfl
  | succ n ih =>
    intro h
    show (cfst G k n && decide (G n = G k → k ≤ n)) = (cnew G k n && decide (G n ≠ G k))
    rw [ih (by omega)]
    congr 1
    by_cases e : G n = G k
    · rw [decide_eq_false (fun q => absurd (q e) (by omega)), decide_eq_false (fun q => q e)]
    · rw [decide_eq_true (fun q => absurd q e), decide_eq_true e]
theorem cfst_more (G : Nat → Int) (k : Nat) : ∀ n, cfst G k (k + n) = cfst G k k := by
  intro n
  induction n with
  | zero => rfl
  | succ n ih =>
    show (cfst G k (k + n) && decide (G (k + n) = G k → k ≤ k + n)) = cfst G k k
    rw [ih, decide_eq_true (fun _ => Nat.le_add_right _ _), Bool.and_true]
theorem cfst_all {G : Nat → Int} {k N : Nat} (h : k < N) : cfst G k N = cnew G k k := by
  rw [show N = k + (N - k) by omega, cfst_more, cfst_new G k k (Nat.le_refl _)]
theorem ceq_bd (G : Nat → Int) (x : Int) (n : Nat) : 0 ≤ ceq G x n ∧ ceq G x n ≤ n := by
  induction n with
  | zero => exact ⟨Int.le_refl _, Int.le_refl _⟩
  | succ n ih =>
    show 0 ≤ ceq G x n + (if G n = x then 1 else 0) ∧ ceq G x n + (if G n = x then 1 else 0) ≤ ((n + 1 : Nat) : Int)
    split <;> omega
theorem cmx_bd (G : Nat → Int) (N k : Nat) : 0 ≤ cmx G N k ∧ cmx G N k ≤ N := by
  induction k with
  | zero => exact ⟨Int.le_refl _, Int.natCast_nonneg _⟩
  | succ k ih =>
    have b := ceq_bd G (G k) N
    show 0 ≤ (if cmx G N k < ceq G (G k) N then ceq G (G k) N else cmx G N k) ∧ (if cmx G N k < ceq G (G k) N then ceq G (G k) N else cmx G N k) ≤ N
    split <;> omega
theorem cdf_bd (G : Nat → Int) (k : Nat) : 0 ≤ cdf G k ∧ cdf G k ≤ k := by
  induction k with
  | zero => exact ⟨Int.le_refl _, Int.le_refl _⟩
  | succ k ih =>
    show 0 ≤ cdf G k + (if cnew G k k = true then 1 else 0) ∧ cdf G k + (if cnew G k k = true then 1 else 0) ≤ ((k + 1 : Nat) : Int)
    split <;> omega
theorem ceq_cg {f g : Nat → Int} {x : Int} {n : Nat} (h : ∀ k, k < n → f k = g k) : ceq f x n = ceq g x n := by
  induction n with
  | zero => rfl
  | succ n ih =>
    show ceq f x n + (if f n = x then 1 else 0) = ceq g x n + (if g n = x then 1 else 0)
    rw [h n (by omega), ih (fun k hk => h k (by omega))]
theorem cmx_cg {f g : Nat → Int} {N : Nat} (h : ∀ k, k < N → f k = g k) (k : Nat) (hk : k ≤ N) : cmx f N k = cmx g N k := by
  induction k with
  | zero => rfl
  | succ k ih =>
    show (if cmx f N k < ceq f (f k) N then ceq f (f k) N else cmx f N k) = if cmx g N k < ceq g (g k) N then ceq g (g k) N else cmx g N k
    rw [ih (by omega), h k (by omega), ceq_cg h]
theorem cnew_cg {f g : Nat → Int} {k : Nat} (n : Nat) (h : ∀ j, j < n → f j = g j) (hk : f k = g k) : cnew f k n = cnew g k n := by
  induction n with
  | zero => rfl
  | succ n ih =>
    show (cnew f k n && decide (f n ≠ f k)) = (cnew g k n && decide (g n ≠ g k))
    rw [ih (fun j hj => h j (by omega)), h n (by omega), hk]
theorem cdf_cg {f g : Nat → Int} {k : Nat} (h : ∀ j, j < k → f j = g j) : cdf f k = cdf g k := by
  induction k with
  | zero => rfl
  | succ k ih =>
    show cdf f k + (if cnew f k k = true then 1 else 0) = cdf g k + (if cnew g k k = true then 1 else 0)
    rw [ih (fun j hj => h j (by omega)), cnew_cg k (fun j hj => h j (by omega)) (h k (by omega))]
theorem cgo_bd {f : Nat → Int} {c g : Int} {k : Nat} (h1 : 0 ≤ f k) (h2 : f k ≤ 9999) (h3 : 2 ≤ c) (h4 : c ≤ 999) : 0 ≤ f k % c ∧ f k % c < c ∧ f k ≤ cgo f c g k ∧ cgo f c g k ≤ 10998 := by
  have a := Int.emod_nonneg (f k) (show c ≠ 0 by omega)
  have b := Int.emod_lt_of_pos (f k) (show 0 < c by omega)
  unfold cgo
  split <;> omega
theorem cws_bd {f : Nat → Int} {c g : Int} {n : Nat} (h : ∀ k, k < n → 0 ≤ f k ∧ f k ≤ 9999) (h3 : 2 ≤ c) (h4 : c ≤ 999) : 0 ≤ cws f c g n ∧ cws f c g n ≤ 10998 * (n : Int) := by
  induction n with
  | zero => exact ⟨Int.le_refl _, Int.le_refl _⟩
  | succ n ih =>
    have i := ih (fun k hk => h k (by omega))
    have j := h n (by omega)
    have k := cgo_bd (f := f) (c := c) (g := g) (k := n) j.1 j.2 h3 h4
    show 0 ≤ cws f c g n + (cgo f c g n - f n) ∧ cws f c g n + (cgo f c g n - f n) ≤ 10998 * ((n + 1 : Nat) : Int)
    omega
def S_clumps (H : ZH) (row c g what : Int) : Int × Nat := if (0 ≤ row ∧ row ≤ 3) ∧ (0 ≤ what ∧ what ≤ 2) then (if H.1 17 row.toNat ≠ -1 then (if ((2 ≤ c ∧ c ≤ 999) ∧ (1 ≤ g ∧ g ≤ c - 1)) ∧ zwi (rvM H row.toNat) 9999 (H.1 18 row.toNat).toNat = true then ((if what = 0 then cws (rvM H row.toNat) c g (H.1 18 row.toNat).toNat else if what = 1 then cmx (cgo (rvM H row.toNat) c g) (H.1 18 row.toNat).toNat (H.1 18 row.toNat).toNat else cdf (cgo (rvM H row.toNat) c g) (H.1 18 row.toNat).toNat), 6) else (-3, 1)) else (-6, 3)) else (-2, 0)
theorem wA_step (H : ZH) (c : Nat) (f : Nat → Int) (k : Nat) (v : Int) (hv : v = f k) : wI (wA H c (fun j => if j < k then f j else H.1 c j)) c k v = wA H c (fun j => if j < k + 1 then f j else H.1 c j) := by
  unfold wI wA
  refine Prod.ext ?_ rfl
  funext c' k'
  show (if c' = c ∧ k' = k then v else if c' = c then (if k' < k then f k' else H.1 c k') else H.1 c' k') = if c' = c then (if k' < k + 1 then f k' else H.1 c k') else H.1 c' k'
  by_cases h1 : c' = c
  · by_cases h2 : k' = k
    · rw [if_pos ⟨h1, h2⟩, if_pos h1, if_pos (by omega), hv, h2]
    · rw [if_neg (fun q => h2 q.2), if_pos h1, if_pos h1]
      by_cases h3 : k' < k
      · rw [if_pos h3, if_pos (by omega)]
      · rw [if_neg h3, if_neg (by omega)]
  · rw [if_neg (fun q => h1 q.1), if_neg h1, if_neg h1]
theorem wA_zero (H : ZH) (c : Nat) (f : Nat → Int) : H = wA H c (fun j => if j < 0 then f j else H.1 c j) := by
  have e : (fun j => if j < 0 then f j else H.1 c j) = H.1 c := by funext j; exact if_neg (Nat.not_lt_zero _)
  rw [e, wA_self]

theorem c_X10_greatestClump {d : Nat} {H : ZH} (ok : okZ H) {n : Nat} (hn : n ≤ 40) : EvC zX (d + 1) mX10_greatestClump [.ref 20, .int (zN ((n : Int)))] (eh H) (zPi (fun (rz : Int) (Hz : ZH) => rz = (cmx (H.1 24) n n) ∧ Hz = H)) := by
  show _ ∧ Ev zX mX10_greatestClump (EvC zX d) (zPi (fun (rz : Int) (Hz : ZH) => rz = (cmx (H.1 24) n n) ∧ Hz = H)) 0 [(0, .ref 20), (1, .int (zN ((n : Int))))] [] (eh H)
  refine ⟨Nat.le_of_ble_eq_true rfl, ?_⟩
  refine z_iconst (pc := 0) dX10_greatestClump_0 ?_
  refine x_istore_n (pc := 1) dX10_greatestClump_1 (Nat.le_of_ble_eq_true rfl) ?_
  show Ev _ _ _ _ _ [(2, .int (zN (0))), (0, .ref 20), (1, .int (zN ((n : Int))))] _ _
  refine z_iconst (pc := 2) dX10_greatestClump_2 ?_
  refine x_istore_n (pc := 3) dX10_greatestClump_3 (Nat.le_of_ble_eq_true rfl) ?_
  show Ev _ _ _ _ _ [(3, .int (zN (0))), (2, .int (zN (0))), (0, .ref 20), (1, .int (zN ((n : Int))))] _ _
  have lp4 : ∀ (nF : Nat) (k : Nat), (k ≤ n) → n - k < nF → Ev zX mX10_greatestClump (EvC zX d) (zPi (fun (rz : Int) (Hz : ZH) => rz = (cmx (H.1 24) n n) ∧ Hz = H)) 4 [(0, .ref 20), (1, .int (zN ((n : Int)))), (2, .int (zN (cmx (H.1 24) n k))), (3, .int (zN ((k : Int))))] [] (eh H) := by
    intro nF
    induction nF with
    | zero => intro k hk hm; exact absurd hm (Nat.not_lt_zero _)
    | succ nF ih4 =>
      intro k hk hm
      have mb := cmx_bd (H.1 24) n k
      refine x_iload_n (pc := 4) dX10_greatestClump_4 (List.Mem.tail _ (List.Mem.tail _ (List.Mem.tail _ (List.Mem.head _)))) ?_
      refine x_iload_n (pc := 5) dX10_greatestClump_5 (List.Mem.tail _ (List.Mem.head _)) ?_
      refine z_icmp_ge (pc := 6) (tgt := 66) dX10_greatestClump_6 (by decide) (by omega) (by omega) (by omega) (by omega) (fun hb1 => ?_) (fun hb1 => ?_)
      · skip
        refine x_iload_n (pc := 66) dX10_greatestClump_66 (List.Mem.tail _ (List.Mem.tail _ (List.Mem.head _))) ?_
        refine z_ireturn (pc := 67) dX10_greatestClump_67 rfl (Or.inl rfl) ok (by omega) (by omega) ?_
        exact ⟨by rw [show k = n by omega], rfl⟩
      · skip
        refine z_iconst (pc := 9) dX10_greatestClump_9 ?_
        refine x_istore (pc := 10) dX10_greatestClump_10 (Nat.le_of_ble_eq_true rfl) ?_
        show Ev _ _ _ _ _ [(4, .int (zN (0))), (0, .ref 20), (1, .int (zN ((n : Int)))), (2, .int (zN (cmx (H.1 24) n k))), (3, .int (zN ((k : Int))))] _ _
        refine z_iconst (pc := 12) dX10_greatestClump_12 ?_
        refine x_istore (pc := 13) dX10_greatestClump_13 (Nat.le_of_ble_eq_true rfl) ?_
        show Ev _ _ _ _ _ [(5, .int (zN (0))), (4, .int (zN (0))), (0, .ref 20), (1, .int (zN ((n : Int)))), (2, .int (zN (cmx (H.1 24) n k))), (3, .int (zN ((k : Int))))] _ _
        have lp15 : ∀ (nF : Nat) (j : Nat), (j ≤ n) → n - j < nF → Ev zX mX10_greatestClump (EvC zX d) (zPi (fun (rz : Int) (Hz : ZH) => rz = (cmx (H.1 24) n n) ∧ Hz = H)) 15 [(0, .ref 20), (1, .int (zN ((n : Int)))), (2, .int (zN (cmx (H.1 24) n k))), (3, .int (zN ((k : Int)))), (4, .int (zN (ceq (H.1 24) (H.1 24 k) j))), (5, .int (zN ((j : Int))))] [] (eh H) := by
          intro nF
          induction nF with
          | zero => intro j hj hm; exact absurd hm (Nat.not_lt_zero _)
          | succ nF ih15 =>
            intro j hj hm
            have eb := ceq_bd (H.1 24) (H.1 24 k) j
            refine x_iload (pc := 15) dX10_greatestClump_15 (List.Mem.tail _ (List.Mem.tail _ (List.Mem.tail _ (List.Mem.tail _ (List.Mem.tail _ (List.Mem.head _)))))) ?_
            refine x_iload_n (pc := 17) dX10_greatestClump_17 (List.Mem.tail _ (List.Mem.head _)) ?_
            refine z_icmp_ge (pc := 18) (tgt := 53) dX10_greatestClump_18 (by decide) (by omega) (by omega) (by omega) (by omega) (fun hb2 => ?_) (fun hb2 => ?_)
            · skip
              have ej : j = n := by omega
              refine x_iload_n (pc := 53) dX10_greatestClump_53 (List.Mem.tail _ (List.Mem.tail _ (List.Mem.head _))) ?_
              refine x_iload (pc := 54) dX10_greatestClump_54 (List.Mem.tail _ (List.Mem.tail _ (List.Mem.tail _ (List.Mem.tail _ (List.Mem.head _))))) ?_
              refine z_mmax (pc := 56) dX10_greatestClump_56 ml_X10_470 (Nat.le_of_ble_eq_true rfl) (by omega) (by omega) (by omega) (by omega) ?_
              refine x_istore_n (pc := 59) dX10_greatestClump_59 (Nat.le_of_ble_eq_true rfl) ?_
              show Ev _ _ _ _ _ [(2, .int (zN ((if cmx (H.1 24) n k < ceq (H.1 24) (H.1 24 k) j then ceq (H.1 24) (H.1 24 k) j else cmx (H.1 24) n k)))), (0, .ref 20), (1, .int (zN ((n : Int)))), (3, .int (zN ((k : Int)))), (4, .int (zN (ceq (H.1 24) (H.1 24 k) j))), (5, .int (zN ((j : Int))))] _ _
              refine z_iinc (pc := 60) dX10_greatestClump_60 (List.Mem.tail _ (List.Mem.tail _ (List.Mem.tail _ (List.Mem.head _)))) (Nat.le_of_ble_eq_true rfl) ?_
              show Ev _ _ _ _ _ [(3, .int (zN ((k : Int) + 1))), (2, .int (zN ((if cmx (H.1 24) n k < ceq (H.1 24) (H.1 24 k) j then ceq (H.1 24) (H.1 24 k) j else cmx (H.1 24) n k)))), (0, .ref 20), (1, .int (zN ((n : Int)))), (4, .int (zN (ceq (H.1 24) (H.1 24 k) j))), (5, .int (zN ((j : Int))))] _ _
              refine x_goto (pc := 63) (tgt := 4) dX10_greatestClump_63 (by decide) ?_
              refine x_weaken (L1 := [(0, .ref 20), (1, .int (zN ((n : Int)))), (2, .int (zN (cmx (H.1 24) n (k + 1)))), (3, .int (zN ((((k + 1) : Nat) : Int))))]) (List.forall_mem_cons.mpr ⟨(List.Mem.tail _ (List.Mem.tail _ (List.Mem.head _))), (List.forall_mem_cons.mpr ⟨(List.Mem.tail _ (List.Mem.tail _ (List.Mem.tail _ (List.Mem.head _)))), (List.forall_mem_cons.mpr ⟨(mem_ci (by rw [ej]; rfl) (List.Mem.tail _ (List.Mem.head _))), (List.forall_mem_cons.mpr ⟨(mem_ci (by omega) (List.Mem.head _)), (fun _ h => absurd h List.not_mem_nil)⟩)⟩)⟩)⟩) ?_
              exact ih4 ((k + 1)) (by omega) (by omega)
            · skip
              refine x_iload (pc := 21) dX10_greatestClump_21 (List.Mem.tail _ (List.Mem.tail _ (List.Mem.tail _ (List.Mem.tail _ (List.Mem.head _))))) ?_
              refine x_aload_n (pc := 23) dX10_greatestClump_23 (List.Mem.head _) ?_
              refine z_getR (pc := 24) (k := 14) (r := 24) dX10_greatestClump_24 lf_X10_85 sh_20 rfl rf_20_14 ?_
              refine x_iload (pc := 27) dX10_greatestClump_27 (List.Mem.tail _ (List.Mem.tail _ (List.Mem.tail _ (List.Mem.tail _ (List.Mem.tail _ (List.Mem.head _)))))) ?_
              have rd3 := ok.1 24 j
              refine z_iald (pc := 29) (j := j) (v := H.1 24 j) dX10_greatestClump_29 sh_24 rfl (by omega) (by decide) rfl ?_
              refine x_aload_n (pc := 30) dX10_greatestClump_30 (List.Mem.head _) ?_
              refine z_getR (pc := 31) (k := 14) (r := 24) dX10_greatestClump_31 lf_X10_85 sh_20 rfl rf_20_14 ?_
              refine x_iload_n (pc := 34) dX10_greatestClump_34 (List.Mem.tail _ (List.Mem.tail _ (List.Mem.tail _ (List.Mem.head _)))) ?_
              have rd4 := ok.1 24 k
              refine z_iald (pc := 35) (j := k) (v := H.1 24 k) dX10_greatestClump_35 sh_24 rfl (by omega) (by decide) rfl ?_
              refine z_icmp_ne (pc := 36) (tgt := 43) dX10_greatestClump_36 (by decide) (by omega) (by omega) (by omega) (by omega) (fun hb5 => ?_) (fun hb5 => ?_)
              · skip
                refine z_iconst (pc := 43) dX10_greatestClump_43 ?_
                refine z_iadd (pc := 44) dX10_greatestClump_44 ?_
                refine x_istore (pc := 45) dX10_greatestClump_45 (Nat.le_of_ble_eq_true rfl) ?_
                show Ev _ _ _ _ _ [(4, .int (zN ((ceq (H.1 24) (H.1 24 k) j + 0)))), (0, .ref 20), (1, .int (zN ((n : Int)))), (2, .int (zN (cmx (H.1 24) n k))), (3, .int (zN ((k : Int)))), (5, .int (zN ((j : Int))))] _ _
                refine z_iinc (pc := 47) dX10_greatestClump_47 (List.Mem.tail _ (List.Mem.tail _ (List.Mem.tail _ (List.Mem.tail _ (List.Mem.tail _ (List.Mem.head _)))))) (Nat.le_of_ble_eq_true rfl) ?_
                show Ev _ _ _ _ _ [(5, .int (zN ((j : Int) + 1))), (4, .int (zN ((ceq (H.1 24) (H.1 24 k) j + 0)))), (0, .ref 20), (1, .int (zN ((n : Int)))), (2, .int (zN (cmx (H.1 24) n k))), (3, .int (zN ((k : Int))))] _ _
                refine x_goto (pc := 50) (tgt := 15) dX10_greatestClump_50 (by decide) ?_
                refine x_weaken (L1 := [(0, .ref 20), (1, .int (zN ((n : Int)))), (2, .int (zN (cmx (H.1 24) n k))), (3, .int (zN ((k : Int)))), (4, .int (zN (ceq (H.1 24) (H.1 24 k) (j + 1)))), (5, .int (zN ((((j + 1) : Nat) : Int))))]) (List.forall_mem_cons.mpr ⟨(List.Mem.tail _ (List.Mem.tail _ (List.Mem.head _))), (List.forall_mem_cons.mpr ⟨(List.Mem.tail _ (List.Mem.tail _ (List.Mem.tail _ (List.Mem.head _)))), (List.forall_mem_cons.mpr ⟨(List.Mem.tail _ (List.Mem.tail _ (List.Mem.tail _ (List.Mem.tail _ (List.Mem.head _))))), (List.forall_mem_cons.mpr ⟨(List.Mem.tail _ (List.Mem.tail _ (List.Mem.tail _ (List.Mem.tail _ (List.Mem.tail _ (List.Mem.head _)))))), (List.forall_mem_cons.mpr ⟨(mem_ci (by show ceq (H.1 24) (H.1 24 k) j + (if H.1 24 j = H.1 24 k then 1 else 0) = _; first | rw [if_pos (by omega)] | rw [if_neg (by omega)]) (List.Mem.tail _ (List.Mem.head _))), (List.forall_mem_cons.mpr ⟨(mem_ci (by omega) (List.Mem.head _)), (fun _ h => absurd h List.not_mem_nil)⟩)⟩)⟩)⟩)⟩)⟩) ?_
                exact ih15 ((j + 1)) (by omega) (by omega)
              · skip
                refine z_iconst (pc := 39) dX10_greatestClump_39 ?_
                refine x_goto (pc := 40) (tgt := 44) dX10_greatestClump_40 (by decide) ?_
                refine z_iadd (pc := 44) dX10_greatestClump_44 ?_
                refine x_istore (pc := 45) dX10_greatestClump_45 (Nat.le_of_ble_eq_true rfl) ?_
                show Ev _ _ _ _ _ [(4, .int (zN ((ceq (H.1 24) (H.1 24 k) j + 1)))), (0, .ref 20), (1, .int (zN ((n : Int)))), (2, .int (zN (cmx (H.1 24) n k))), (3, .int (zN ((k : Int)))), (5, .int (zN ((j : Int))))] _ _
                refine z_iinc (pc := 47) dX10_greatestClump_47 (List.Mem.tail _ (List.Mem.tail _ (List.Mem.tail _ (List.Mem.tail _ (List.Mem.tail _ (List.Mem.head _)))))) (Nat.le_of_ble_eq_true rfl) ?_
                show Ev _ _ _ _ _ [(5, .int (zN ((j : Int) + 1))), (4, .int (zN ((ceq (H.1 24) (H.1 24 k) j + 1)))), (0, .ref 20), (1, .int (zN ((n : Int)))), (2, .int (zN (cmx (H.1 24) n k))), (3, .int (zN ((k : Int))))] _ _
                refine x_goto (pc := 50) (tgt := 15) dX10_greatestClump_50 (by decide) ?_
                refine x_weaken (L1 := [(0, .ref 20), (1, .int (zN ((n : Int)))), (2, .int (zN (cmx (H.1 24) n k))), (3, .int (zN ((k : Int)))), (4, .int (zN (ceq (H.1 24) (H.1 24 k) (j + 1)))), (5, .int (zN ((((j + 1) : Nat) : Int))))]) (List.forall_mem_cons.mpr ⟨(List.Mem.tail _ (List.Mem.tail _ (List.Mem.head _))), (List.forall_mem_cons.mpr ⟨(List.Mem.tail _ (List.Mem.tail _ (List.Mem.tail _ (List.Mem.head _)))), (List.forall_mem_cons.mpr ⟨(List.Mem.tail _ (List.Mem.tail _ (List.Mem.tail _ (List.Mem.tail _ (List.Mem.head _))))), (List.forall_mem_cons.mpr ⟨(List.Mem.tail _ (List.Mem.tail _ (List.Mem.tail _ (List.Mem.tail _ (List.Mem.tail _ (List.Mem.head _)))))), (List.forall_mem_cons.mpr ⟨(mem_ci (by show ceq (H.1 24) (H.1 24 k) j + (if H.1 24 j = H.1 24 k then 1 else 0) = _; first | rw [if_pos (by omega)] | rw [if_neg (by omega)]) (List.Mem.tail _ (List.Mem.head _))), (List.forall_mem_cons.mpr ⟨(mem_ci (by omega) (List.Mem.head _)), (fun _ h => absurd h List.not_mem_nil)⟩)⟩)⟩)⟩)⟩)⟩) ?_
                exact ih15 ((j + 1)) (by omega) (by omega)
        refine x_weaken (L1 := [(0, .ref 20), (1, .int (zN ((n : Int)))), (2, .int (zN (cmx (H.1 24) n k))), (3, .int (zN ((k : Int)))), (4, .int (zN (ceq (H.1 24) (H.1 24 k) 0))), (5, .int (zN (((0 : Nat) : Int))))]) (List.forall_mem_cons.mpr ⟨(List.Mem.tail _ (List.Mem.tail _ (List.Mem.head _))), (List.forall_mem_cons.mpr ⟨(List.Mem.tail _ (List.Mem.tail _ (List.Mem.tail _ (List.Mem.head _)))), (List.forall_mem_cons.mpr ⟨(List.Mem.tail _ (List.Mem.tail _ (List.Mem.tail _ (List.Mem.tail _ (List.Mem.head _))))), (List.forall_mem_cons.mpr ⟨(List.Mem.tail _ (List.Mem.tail _ (List.Mem.tail _ (List.Mem.tail _ (List.Mem.tail _ (List.Mem.head _)))))), (List.forall_mem_cons.mpr ⟨(mem_ci (rfl) (List.Mem.tail _ (List.Mem.head _))), (List.forall_mem_cons.mpr ⟨(mem_ci (by omega) (List.Mem.head _)), (fun _ h => absurd h List.not_mem_nil)⟩)⟩)⟩)⟩)⟩)⟩) ?_
        exact lp15 (n - 0 + 1) (0) (by omega) (Nat.lt_succ_self _)
  refine x_weaken (L1 := [(0, .ref 20), (1, .int (zN ((n : Int)))), (2, .int (zN (cmx (H.1 24) n 0))), (3, .int (zN (((0 : Nat) : Int))))]) (List.forall_mem_cons.mpr ⟨(List.Mem.tail _ (List.Mem.tail _ (List.Mem.head _))), (List.forall_mem_cons.mpr ⟨(List.Mem.tail _ (List.Mem.tail _ (List.Mem.tail _ (List.Mem.head _)))), (List.forall_mem_cons.mpr ⟨(mem_ci (rfl) (List.Mem.tail _ (List.Mem.head _))), (List.forall_mem_cons.mpr ⟨(mem_ci (by omega) (List.Mem.head _)), (fun _ h => absurd h List.not_mem_nil)⟩)⟩)⟩)⟩) ?_
  exact lp4 (n - 0 + 1) (0) (by omega) (Nat.lt_succ_self _)

theorem c_X10_differentGoes {d : Nat} {H : ZH} (ok : okZ H) {n : Nat} (hn : n ≤ 40) : EvC zX (d + 1) mX10_differentGoes [.ref 20, .int (zN ((n : Int)))] (eh H) (zPi (fun (rz : Int) (Hz : ZH) => rz = (cdf (H.1 24) n) ∧ Hz = H)) := by
  show _ ∧ Ev zX mX10_differentGoes (EvC zX d) (zPi (fun (rz : Int) (Hz : ZH) => rz = (cdf (H.1 24) n) ∧ Hz = H)) 0 [(0, .ref 20), (1, .int (zN ((n : Int))))] [] (eh H)
  refine ⟨Nat.le_of_ble_eq_true rfl, ?_⟩
  refine z_iconst (pc := 0) dX10_differentGoes_0 ?_
  refine x_istore_n (pc := 1) dX10_differentGoes_1 (Nat.le_of_ble_eq_true rfl) ?_
  show Ev _ _ _ _ _ [(2, .int (zN (0))), (0, .ref 20), (1, .int (zN ((n : Int))))] _ _
  refine z_iconst (pc := 2) dX10_differentGoes_2 ?_
  refine x_istore_n (pc := 3) dX10_differentGoes_3 (Nat.le_of_ble_eq_true rfl) ?_
  show Ev _ _ _ _ _ [(3, .int (zN (0))), (2, .int (zN (0))), (0, .ref 20), (1, .int (zN ((n : Int))))] _ _
  have lp4 : ∀ (nF : Nat) (k : Nat), (k ≤ n) → n - k < nF → Ev zX mX10_differentGoes (EvC zX d) (zPi (fun (rz : Int) (Hz : ZH) => rz = (cdf (H.1 24) n) ∧ Hz = H)) 4 [(0, .ref 20), (1, .int (zN ((n : Int)))), (2, .int (zN (cdf (H.1 24) k))), (3, .int (zN ((k : Int))))] [] (eh H) := by
    intro nF
    induction nF with
    | zero => intro k hk hm; exact absurd hm (Nat.not_lt_zero _)
    | succ nF ih4 =>
      intro k hk hm
      have db := cdf_bd (H.1 24) k
      refine x_iload_n (pc := 4) dX10_differentGoes_4 (List.Mem.tail _ (List.Mem.tail _ (List.Mem.tail _ (List.Mem.head _)))) ?_
      refine x_iload_n (pc := 5) dX10_differentGoes_5 (List.Mem.tail _ (List.Mem.head _)) ?_
      refine z_icmp_ge (pc := 6) (tgt := 74) dX10_differentGoes_6 (by decide) (by omega) (by omega) (by omega) (by omega) (fun hb1 => ?_) (fun hb1 => ?_)
      · skip
        refine x_iload_n (pc := 74) dX10_differentGoes_74 (List.Mem.tail _ (List.Mem.tail _ (List.Mem.head _))) ?_
        refine z_ireturn (pc := 75) dX10_differentGoes_75 rfl (Or.inl rfl) ok (by omega) (by omega) ?_
        exact ⟨by rw [show k = n by omega], rfl⟩
      · skip
        refine z_iconst (pc := 9) dX10_differentGoes_9 ?_
        refine x_istore (pc := 10) dX10_differentGoes_10 (Nat.le_of_ble_eq_true rfl) ?_
        show Ev _ _ _ _ _ [(4, .int (zN (1))), (0, .ref 20), (1, .int (zN ((n : Int)))), (2, .int (zN (cdf (H.1 24) k))), (3, .int (zN ((k : Int))))] _ _
        refine z_iconst (pc := 12) dX10_differentGoes_12 ?_
        refine x_istore (pc := 13) dX10_differentGoes_13 (Nat.le_of_ble_eq_true rfl) ?_
        show Ev _ _ _ _ _ [(5, .int (zN (0))), (4, .int (zN (1))), (0, .ref 20), (1, .int (zN ((n : Int)))), (2, .int (zN (cdf (H.1 24) k))), (3, .int (zN ((k : Int))))] _ _
        have lp15 : ∀ (nF : Nat) (j : Nat), (j ≤ k) → k - j < nF → Ev zX mX10_differentGoes (EvC zX d) (zPi (fun (rz : Int) (Hz : ZH) => rz = (cdf (H.1 24) n) ∧ Hz = H)) 15 [(0, .ref 20), (1, .int (zN ((n : Int)))), (2, .int (zN (cdf (H.1 24) k))), (3, .int (zN ((k : Int)))), (4, .int (zN ((if cnew (H.1 24) k j = true then 1 else 0)))), (5, .int (zN ((j : Int))))] [] (eh H) := by
          intro nF
          induction nF with
          | zero => intro j hj hm; exact absurd hm (Nat.not_lt_zero _)
          | succ nF ih15 =>
            intro j hj hm
            have nb : 0 ≤ (if cnew (H.1 24) k j = true then 1 else 0) ∧ (if cnew (H.1 24) k j = true then 1 else 0) ≤ 1 := by split <;> omega
            refine x_iload (pc := 15) dX10_differentGoes_15 (List.Mem.tail _ (List.Mem.tail _ (List.Mem.tail _ (List.Mem.tail _ (List.Mem.tail _ (List.Mem.head _)))))) ?_
            refine x_iload_n (pc := 17) dX10_differentGoes_17 (List.Mem.tail _ (List.Mem.tail _ (List.Mem.tail _ (List.Mem.head _)))) ?_
            refine z_icmp_ge (pc := 18) (tgt := 55) dX10_differentGoes_18 (by decide) (by omega) (by omega) (by omega) (by omega) (fun hb2 => ?_) (fun hb2 => ?_)
            · skip
              have ej : j = k := by omega
              refine x_iload_n (pc := 55) dX10_differentGoes_55 (List.Mem.tail _ (List.Mem.tail _ (List.Mem.head _))) ?_
              refine x_iload (pc := 56) dX10_differentGoes_56 (List.Mem.tail _ (List.Mem.tail _ (List.Mem.tail _ (List.Mem.tail _ (List.Mem.head _))))) ?_
              refine z_if_eq (pc := 58) (tgt := 65) dX10_differentGoes_58 (by decide) (by omega) (by omega) (fun hb3 => ?_) (fun hb3 => ?_)
              · skip
                have hd0 := ite01_0 hb3
                rw [ej] at hd0
                refine z_iconst (pc := 65) dX10_differentGoes_65 ?_
                refine z_iadd (pc := 66) dX10_differentGoes_66 ?_
                refine x_istore_n (pc := 67) dX10_differentGoes_67 (Nat.le_of_ble_eq_true rfl) ?_
                show Ev _ _ _ _ _ [(2, .int (zN ((cdf (H.1 24) k + 0)))), (0, .ref 20), (1, .int (zN ((n : Int)))), (3, .int (zN ((k : Int)))), (4, .int (zN ((if cnew (H.1 24) k j = true then 1 else 0)))), (5, .int (zN ((j : Int))))] _ _
                refine z_iinc (pc := 68) dX10_differentGoes_68 (List.Mem.tail _ (List.Mem.tail _ (List.Mem.tail _ (List.Mem.head _)))) (Nat.le_of_ble_eq_true rfl) ?_
                show Ev _ _ _ _ _ [(3, .int (zN ((k : Int) + 1))), (2, .int (zN ((cdf (H.1 24) k + 0)))), (0, .ref 20), (1, .int (zN ((n : Int)))), (4, .int (zN ((if cnew (H.1 24) k j = true then 1 else 0)))), (5, .int (zN ((j : Int))))] _ _
                refine x_goto (pc := 71) (tgt := 4) dX10_differentGoes_71 (by decide) ?_
                refine x_weaken (L1 := [(0, .ref 20), (1, .int (zN ((n : Int)))), (2, .int (zN (cdf (H.1 24) (k + 1)))), (3, .int (zN ((((k + 1) : Nat) : Int))))]) (List.forall_mem_cons.mpr ⟨(List.Mem.tail _ (List.Mem.tail _ (List.Mem.head _))), (List.forall_mem_cons.mpr ⟨(List.Mem.tail _ (List.Mem.tail _ (List.Mem.tail _ (List.Mem.head _)))), (List.forall_mem_cons.mpr ⟨(mem_ci (by show cdf (H.1 24) k + (if cnew (H.1 24) k k = true then 1 else 0) = _; rw [hd0]; rfl) (List.Mem.tail _ (List.Mem.head _))), (List.forall_mem_cons.mpr ⟨(mem_ci (by omega) (List.Mem.head _)), (fun _ h => absurd h List.not_mem_nil)⟩)⟩)⟩)⟩) ?_
                exact ih4 ((k + 1)) (by omega) (by omega)
              · skip
                have hd0 := ite01_1 hb3
                rw [ej] at hd0
                refine z_iconst (pc := 61) dX10_differentGoes_61 ?_
                refine x_goto (pc := 62) (tgt := 66) dX10_differentGoes_62 (by decide) ?_
                refine z_iadd (pc := 66) dX10_differentGoes_66 ?_
                refine x_istore_n (pc := 67) dX10_differentGoes_67 (Nat.le_of_ble_eq_true rfl) ?_
                show Ev _ _ _ _ _ [(2, .int (zN ((cdf (H.1 24) k + 1)))), (0, .ref 20), (1, .int (zN ((n : Int)))), (3, .int (zN ((k : Int)))), (4, .int (zN ((if cnew (H.1 24) k j = true then 1 else 0)))), (5, .int (zN ((j : Int))))] _ _
                refine z_iinc (pc := 68) dX10_differentGoes_68 (List.Mem.tail _ (List.Mem.tail _ (List.Mem.tail _ (List.Mem.head _)))) (Nat.le_of_ble_eq_true rfl) ?_
                show Ev _ _ _ _ _ [(3, .int (zN ((k : Int) + 1))), (2, .int (zN ((cdf (H.1 24) k + 1)))), (0, .ref 20), (1, .int (zN ((n : Int)))), (4, .int (zN ((if cnew (H.1 24) k j = true then 1 else 0)))), (5, .int (zN ((j : Int))))] _ _
                refine x_goto (pc := 71) (tgt := 4) dX10_differentGoes_71 (by decide) ?_
                refine x_weaken (L1 := [(0, .ref 20), (1, .int (zN ((n : Int)))), (2, .int (zN (cdf (H.1 24) (k + 1)))), (3, .int (zN ((((k + 1) : Nat) : Int))))]) (List.forall_mem_cons.mpr ⟨(List.Mem.tail _ (List.Mem.tail _ (List.Mem.head _))), (List.forall_mem_cons.mpr ⟨(List.Mem.tail _ (List.Mem.tail _ (List.Mem.tail _ (List.Mem.head _)))), (List.forall_mem_cons.mpr ⟨(mem_ci (by show cdf (H.1 24) k + (if cnew (H.1 24) k k = true then 1 else 0) = _; rw [hd0]; rfl) (List.Mem.tail _ (List.Mem.head _))), (List.forall_mem_cons.mpr ⟨(mem_ci (by omega) (List.Mem.head _)), (fun _ h => absurd h List.not_mem_nil)⟩)⟩)⟩)⟩) ?_
                exact ih4 ((k + 1)) (by omega) (by omega)
            · skip
              refine x_iload (pc := 21) dX10_differentGoes_21 (List.Mem.tail _ (List.Mem.tail _ (List.Mem.tail _ (List.Mem.tail _ (List.Mem.head _))))) ?_
              refine z_if_eq (pc := 23) (tgt := 46) dX10_differentGoes_23 (by decide) (by omega) (by omega) (fun hb4 => ?_) (fun hb4 => ?_)
              · skip
                have hc0 := ite01_0 hb4
                refine z_iconst (pc := 46) dX10_differentGoes_46 ?_
                refine x_istore (pc := 47) dX10_differentGoes_47 (Nat.le_of_ble_eq_true rfl) ?_
                show Ev _ _ _ _ _ [(4, .int (zN (0))), (0, .ref 20), (1, .int (zN ((n : Int)))), (2, .int (zN (cdf (H.1 24) k))), (3, .int (zN ((k : Int)))), (5, .int (zN ((j : Int))))] _ _
                refine z_iinc (pc := 49) dX10_differentGoes_49 (List.Mem.tail _ (List.Mem.tail _ (List.Mem.tail _ (List.Mem.tail _ (List.Mem.tail _ (List.Mem.head _)))))) (Nat.le_of_ble_eq_true rfl) ?_
                show Ev _ _ _ _ _ [(5, .int (zN ((j : Int) + 1))), (4, .int (zN (0))), (0, .ref 20), (1, .int (zN ((n : Int)))), (2, .int (zN (cdf (H.1 24) k))), (3, .int (zN ((k : Int))))] _ _
                refine x_goto (pc := 52) (tgt := 15) dX10_differentGoes_52 (by decide) ?_
                refine x_weaken (L1 := [(0, .ref 20), (1, .int (zN ((n : Int)))), (2, .int (zN (cdf (H.1 24) k))), (3, .int (zN ((k : Int)))), (4, .int (zN ((if cnew (H.1 24) k (j + 1) = true then 1 else 0)))), (5, .int (zN ((((j + 1) : Nat) : Int))))]) (List.forall_mem_cons.mpr ⟨(List.Mem.tail _ (List.Mem.tail _ (List.Mem.head _))), (List.forall_mem_cons.mpr ⟨(List.Mem.tail _ (List.Mem.tail _ (List.Mem.tail _ (List.Mem.head _)))), (List.forall_mem_cons.mpr ⟨(List.Mem.tail _ (List.Mem.tail _ (List.Mem.tail _ (List.Mem.tail _ (List.Mem.head _))))), (List.forall_mem_cons.mpr ⟨(List.Mem.tail _ (List.Mem.tail _ (List.Mem.tail _ (List.Mem.tail _ (List.Mem.tail _ (List.Mem.head _)))))), (List.forall_mem_cons.mpr ⟨(mem_ci (by show (if (cnew (H.1 24) k j && decide (H.1 24 j ≠ H.1 24 k)) = true then 1 else 0) = _; first | (rw [hc0]; rfl) | (rw [hc1, decide_eq_true (show H.1 24 j ≠ H.1 24 k by omega)]; rfl) | (rw [hc1, decide_eq_false (show ¬ H.1 24 j ≠ H.1 24 k by omega)]; rfl)) (List.Mem.tail _ (List.Mem.head _))), (List.forall_mem_cons.mpr ⟨(mem_ci (by omega) (List.Mem.head _)), (fun _ h => absurd h List.not_mem_nil)⟩)⟩)⟩)⟩)⟩)⟩) ?_
                exact ih15 ((j + 1)) (by omega) (by omega)
              · skip
                have hc1 := ite01_1 hb4
                refine x_aload_n (pc := 26) dX10_differentGoes_26 (List.Mem.head _) ?_
                refine z_getR (pc := 27) (k := 14) (r := 24) dX10_differentGoes_27 lf_X10_85 sh_20 rfl rf_20_14 ?_
                refine x_iload (pc := 30) dX10_differentGoes_30 (List.Mem.tail _ (List.Mem.tail _ (List.Mem.tail _ (List.Mem.tail _ (List.Mem.tail _ (List.Mem.head _)))))) ?_
                have rd5 := ok.1 24 j
                refine z_iald (pc := 32) (j := j) (v := H.1 24 j) dX10_differentGoes_32 sh_24 rfl (by omega) (by decide) rfl ?_
                refine x_aload_n (pc := 33) dX10_differentGoes_33 (List.Mem.head _) ?_
                refine z_getR (pc := 34) (k := 14) (r := 24) dX10_differentGoes_34 lf_X10_85 sh_20 rfl rf_20_14 ?_
                refine x_iload_n (pc := 37) dX10_differentGoes_37 (List.Mem.tail _ (List.Mem.tail _ (List.Mem.tail _ (List.Mem.head _)))) ?_
                have rd6 := ok.1 24 k
                refine z_iald (pc := 38) (j := k) (v := H.1 24 k) dX10_differentGoes_38 sh_24 rfl (by omega) (by decide) rfl ?_
                refine z_icmp_eq (pc := 39) (tgt := 46) dX10_differentGoes_39 (by decide) (by omega) (by omega) (by omega) (by omega) (fun hb7 => ?_) (fun hb7 => ?_)
                · skip
                  refine z_iconst (pc := 46) dX10_differentGoes_46 ?_
                  refine x_istore (pc := 47) dX10_differentGoes_47 (Nat.le_of_ble_eq_true rfl) ?_
                  show Ev _ _ _ _ _ [(4, .int (zN (0))), (0, .ref 20), (1, .int (zN ((n : Int)))), (2, .int (zN (cdf (H.1 24) k))), (3, .int (zN ((k : Int)))), (5, .int (zN ((j : Int))))] _ _
                  refine z_iinc (pc := 49) dX10_differentGoes_49 (List.Mem.tail _ (List.Mem.tail _ (List.Mem.tail _ (List.Mem.tail _ (List.Mem.tail _ (List.Mem.head _)))))) (Nat.le_of_ble_eq_true rfl) ?_
                  show Ev _ _ _ _ _ [(5, .int (zN ((j : Int) + 1))), (4, .int (zN (0))), (0, .ref 20), (1, .int (zN ((n : Int)))), (2, .int (zN (cdf (H.1 24) k))), (3, .int (zN ((k : Int))))] _ _
                  refine x_goto (pc := 52) (tgt := 15) dX10_differentGoes_52 (by decide) ?_
                  refine x_weaken (L1 := [(0, .ref 20), (1, .int (zN ((n : Int)))), (2, .int (zN (cdf (H.1 24) k))), (3, .int (zN ((k : Int)))), (4, .int (zN ((if cnew (H.1 24) k (j + 1) = true then 1 else 0)))), (5, .int (zN ((((j + 1) : Nat) : Int))))]) (List.forall_mem_cons.mpr ⟨(List.Mem.tail _ (List.Mem.tail _ (List.Mem.head _))), (List.forall_mem_cons.mpr ⟨(List.Mem.tail _ (List.Mem.tail _ (List.Mem.tail _ (List.Mem.head _)))), (List.forall_mem_cons.mpr ⟨(List.Mem.tail _ (List.Mem.tail _ (List.Mem.tail _ (List.Mem.tail _ (List.Mem.head _))))), (List.forall_mem_cons.mpr ⟨(List.Mem.tail _ (List.Mem.tail _ (List.Mem.tail _ (List.Mem.tail _ (List.Mem.tail _ (List.Mem.head _)))))), (List.forall_mem_cons.mpr ⟨(mem_ci (by show (if (cnew (H.1 24) k j && decide (H.1 24 j ≠ H.1 24 k)) = true then 1 else 0) = _; first | (rw [hc0]; rfl) | (rw [hc1, decide_eq_true (show H.1 24 j ≠ H.1 24 k by omega)]; rfl) | (rw [hc1, decide_eq_false (show ¬ H.1 24 j ≠ H.1 24 k by omega)]; rfl)) (List.Mem.tail _ (List.Mem.head _))), (List.forall_mem_cons.mpr ⟨(mem_ci (by omega) (List.Mem.head _)), (fun _ h => absurd h List.not_mem_nil)⟩)⟩)⟩)⟩)⟩)⟩) ?_
                  exact ih15 ((j + 1)) (by omega) (by omega)
                · skip
                  refine z_iconst (pc := 42) dX10_differentGoes_42 ?_
                  refine x_goto (pc := 43) (tgt := 47) dX10_differentGoes_43 (by decide) ?_
                  refine x_istore (pc := 47) dX10_differentGoes_47 (Nat.le_of_ble_eq_true rfl) ?_
                  show Ev _ _ _ _ _ [(4, .int (zN (1))), (0, .ref 20), (1, .int (zN ((n : Int)))), (2, .int (zN (cdf (H.1 24) k))), (3, .int (zN ((k : Int)))), (5, .int (zN ((j : Int))))] _ _
                  refine z_iinc (pc := 49) dX10_differentGoes_49 (List.Mem.tail _ (List.Mem.tail _ (List.Mem.tail _ (List.Mem.tail _ (List.Mem.tail _ (List.Mem.head _)))))) (Nat.le_of_ble_eq_true rfl) ?_
                  show Ev _ _ _ _ _ [(5, .int (zN ((j : Int) + 1))), (4, .int (zN (1))), (0, .ref 20), (1, .int (zN ((n : Int)))), (2, .int (zN (cdf (H.1 24) k))), (3, .int (zN ((k : Int))))] _ _
                  refine x_goto (pc := 52) (tgt := 15) dX10_differentGoes_52 (by decide) ?_
                  refine x_weaken (L1 := [(0, .ref 20), (1, .int (zN ((n : Int)))), (2, .int (zN (cdf (H.1 24) k))), (3, .int (zN ((k : Int)))), (4, .int (zN ((if cnew (H.1 24) k (j + 1) = true then 1 else 0)))), (5, .int (zN ((((j + 1) : Nat) : Int))))]) (List.forall_mem_cons.mpr ⟨(List.Mem.tail _ (List.Mem.tail _ (List.Mem.head _))), (List.forall_mem_cons.mpr ⟨(List.Mem.tail _ (List.Mem.tail _ (List.Mem.tail _ (List.Mem.head _)))), (List.forall_mem_cons.mpr ⟨(List.Mem.tail _ (List.Mem.tail _ (List.Mem.tail _ (List.Mem.tail _ (List.Mem.head _))))), (List.forall_mem_cons.mpr ⟨(List.Mem.tail _ (List.Mem.tail _ (List.Mem.tail _ (List.Mem.tail _ (List.Mem.tail _ (List.Mem.head _)))))), (List.forall_mem_cons.mpr ⟨(mem_ci (by show (if (cnew (H.1 24) k j && decide (H.1 24 j ≠ H.1 24 k)) = true then 1 else 0) = _; first | (rw [hc0]; rfl) | (rw [hc1, decide_eq_true (show H.1 24 j ≠ H.1 24 k by omega)]; rfl) | (rw [hc1, decide_eq_false (show ¬ H.1 24 j ≠ H.1 24 k by omega)]; rfl)) (List.Mem.tail _ (List.Mem.head _))), (List.forall_mem_cons.mpr ⟨(mem_ci (by omega) (List.Mem.head _)), (fun _ h => absurd h List.not_mem_nil)⟩)⟩)⟩)⟩)⟩)⟩) ?_
                  exact ih15 ((j + 1)) (by omega) (by omega)
        refine x_weaken (L1 := [(0, .ref 20), (1, .int (zN ((n : Int)))), (2, .int (zN (cdf (H.1 24) k))), (3, .int (zN ((k : Int)))), (4, .int (zN ((if cnew (H.1 24) k 0 = true then 1 else 0)))), (5, .int (zN (((0 : Nat) : Int))))]) (List.forall_mem_cons.mpr ⟨(List.Mem.tail _ (List.Mem.tail _ (List.Mem.head _))), (List.forall_mem_cons.mpr ⟨(List.Mem.tail _ (List.Mem.tail _ (List.Mem.tail _ (List.Mem.head _)))), (List.forall_mem_cons.mpr ⟨(List.Mem.tail _ (List.Mem.tail _ (List.Mem.tail _ (List.Mem.tail _ (List.Mem.head _))))), (List.forall_mem_cons.mpr ⟨(List.Mem.tail _ (List.Mem.tail _ (List.Mem.tail _ (List.Mem.tail _ (List.Mem.tail _ (List.Mem.head _)))))), (List.forall_mem_cons.mpr ⟨(mem_ci (rfl) (List.Mem.tail _ (List.Mem.head _))), (List.forall_mem_cons.mpr ⟨(mem_ci (by omega) (List.Mem.head _)), (fun _ h => absurd h List.not_mem_nil)⟩)⟩)⟩)⟩)⟩)⟩) ?_
        exact lp15 (k - 0 + 1) (0) (by omega) (Nat.lt_succ_self _)
  refine x_weaken (L1 := [(0, .ref 20), (1, .int (zN ((n : Int)))), (2, .int (zN (cdf (H.1 24) 0))), (3, .int (zN (((0 : Nat) : Int))))]) (List.forall_mem_cons.mpr ⟨(List.Mem.tail _ (List.Mem.tail _ (List.Mem.head _))), (List.forall_mem_cons.mpr ⟨(List.Mem.tail _ (List.Mem.tail _ (List.Mem.tail _ (List.Mem.head _)))), (List.forall_mem_cons.mpr ⟨(mem_ci (rfl) (List.Mem.tail _ (List.Mem.head _))), (List.forall_mem_cons.mpr ⟨(mem_ci (by omega) (List.Mem.head _)), (fun _ h => absurd h List.not_mem_nil)⟩)⟩)⟩)⟩) ?_
  exact lp4 (n - 0 + 1) (0) (by omega) (Nat.lt_succ_self _)

theorem c_X10_clumps {d : Nat} {H : ZH} (ok : okZ H) {row c g what : Int} (row1 : -2147483648 ≤ row) (row2 : row ≤ 2147483647) (c1 : -2147483648 ≤ c) (c2 : c ≤ 2147483647) (g1 : -2147483648 ≤ g) (g2 : g ≤ 2147483647) (what1 : -2147483648 ≤ what) (what2 : what ≤ 2147483647) (cn : cntOK H 25) (rr : RepR H) (rm : rmOK H) : EvC zX (d + 2) mX10_clumps [.ref 20, .int (zN (row)), .int (zN (c)), .int (zN (g)), .int (zN (what))] (eh H) (zPi (fun (r : Int) (H1 : ZH) => r = (S_clumps H row c g what).1 ∧ ∃ f, H1 = bumpC (S_clumps H row c g what).2 (wA H 24 f))) := by
  show _ ∧ Ev zX mX10_clumps (EvC zX (d + 1)) (zPi (fun (r : Int) (H1 : ZH) => r = (S_clumps H row c g what).1 ∧ ∃ f, H1 = bumpC (S_clumps H row c g what).2 (wA H 24 f))) 0 [(0, .ref 20), (1, .int (zN (row))), (2, .int (zN (c))), (3, .int (zN (g))), (4, .int (zN (what)))] [] (eh H)
  refine ⟨Nat.le_of_ble_eq_true rfl, ?_⟩
  refine x_iload_n (pc := 0) dX10_clumps_0 (List.Mem.tail _ (List.Mem.head _)) ?_
  refine z_callSbp (pc := 1) (i := mX10_isRow) (S := []) [.int (zN (row))] dX10_clumps_1 ml_X10_389 ok_X10_isRow rfl (Or.inr rfl) (Nat.le_of_ble_eq_true rfl) (c_X10_isRow (d := d) (row := row) (row1 := (by omega)) (row2 := (by omega)) (ok := ok)) (fun hc3 ok2 => ?_) (fun hc3 ok2 => ?_)
  · skip
    refine z_if_eq (pc := 4) (tgt := 18) dX10_clumps_4 (by decide) (by decide) (by decide) (fun h => absurd h (by decide)) (fun _ => ?_)
    refine x_iload (pc := 7) dX10_clumps_7 (List.Mem.tail _ (List.Mem.tail _ (List.Mem.tail _ (List.Mem.tail _ (List.Mem.head _))))) ?_
    refine z_if_lt (pc := 9) (tgt := 18) dX10_clumps_9 (by decide) (by omega) (by omega) (fun hb5 => ?_) (fun hb5 => ?_)
    · skip
      refine x_aload_n (pc := 18) dX10_clumps_18 (List.Mem.head _) ?_
      refine z_bipush (pc := 19) dX10_clumps_19 bp_m2 ?_
      refine z_callVip (pc := 21) (i := mX10_refuse) (S := []) [.int (zN ((-2)))] dX10_clumps_21 ml_X10_97 ok_X10_refuse rfl sh_20 rfl (Or.inl rfl) (Nat.le_of_ble_eq_true rfl) (c_X10_refuse (d := d) (code := ((-2))) (code1 := (by omega)) (code2 := (by omega)) (ok := ok2) (cn := (by first | assumption | omega))) (fun r6a r6b ok7 => ?_)
      show Ev _ _ _ _ _ _ _ (eh (wI H 25 ((refIx ((-2)))) (H.1 25 (refIx ((-2))) + 1)))
      refine z_ireturn (pc := 24) dX10_clumps_24 rfl (Or.inl rfl) ok7 (by omega) (by omega) ?_
      have e : S_clumps H row c g what = (-2, 0) := by unfold S_clumps; rw [if_neg (by omega)]
      rw [e]
      exact ⟨rfl, H.1 24, by rw [wA_self]; rfl⟩
    · skip
      refine x_iload (pc := 12) dX10_clumps_12 (List.Mem.tail _ (List.Mem.tail _ (List.Mem.tail _ (List.Mem.tail _ (List.Mem.head _))))) ?_
      refine z_iconst (pc := 14) dX10_clumps_14 ?_
      refine z_icmp_le (pc := 15) (tgt := 25) dX10_clumps_15 (by decide) (by omega) (by omega) (by decide) (by decide) (fun hb8 => ?_) (fun hb8 => ?_)
      · skip
        obtain ⟨s, es0, es, hs, hr⟩ : ∃ s, s = 125 + 2 * row.toNat ∧ zX.2 27 row.toNat = s ∧ isRw s ∧ row.toNat < 4 := ⟨125 + 2 * row.toNat, rfl, rf_27 (by omega), isRw_at (by omega), by omega⟩
        obtain ⟨rw, rq1, rq0⟩ := rr row.toNat hr s es0
        have rwc := rw
        obtain ⟨rwA, rwB, rwC⟩ := rwc
        refine x_aload_n (pc := 25) dX10_clumps_25 (List.Mem.head _) ?_
        refine z_getR (pc := 26) (k := 13) (r := 27) dX10_clumps_26 lf_X10_81 sh_20 rfl rf_20_13 ?_
        refine x_iload_n (pc := 29) dX10_clumps_29 (List.Mem.tail _ (List.Mem.head _)) ?_
        refine z_aald4 (pc := 30) (j := row.toNat) (r := s) dX10_clumps_30 sh_27 (by omega) (by omega) (by decide) es ?_
        have rd9 := ok2.1 s 0
        refine z_getI (pc := 31) (k := 0) (v := H.1 s 0) dX10_clumps_31 lf_X10_392 (sh_Rw0 hs) rfl rfl ?_
        refine z_if_ne (pc := 34) (tgt := 44) dX10_clumps_34 (by decide) (by omega) (by omega) (fun hb10 => ?_) (fun hb10 => ?_)
        · skip
          obtain ⟨t1, t2, t3, t4⟩ := rq1 (by omega)
          have zmcg := zmuch_cg t4
          have zfcg : ∀ i : Nat, i < (H.1 s 2).toNat → zfil (H.2 (s + 1)) (H.1 s 2).toNat i = zfil (rvM H row.toNat) (H.1 s 2).toNat i := fun i hi => zfil_cg t4 hi
          have zwcg : zwi (H.2 (s + 1)) 9999 (H.1 s 2).toNat = zwi (rvM H row.toNat) 9999 (H.1 18 row.toNat).toNat := by rw [zwi_cg t4, t3]
          refine x_aload_n (pc := 44) dX10_clumps_44 (List.Mem.head _) ?_
          refine z_getR (pc := 45) (k := 13) (r := 27) dX10_clumps_45 lf_X10_81 sh_20 rfl rf_20_13 ?_
          refine x_iload_n (pc := 48) dX10_clumps_48 (List.Mem.tail _ (List.Mem.head _)) ?_
          refine z_aald4 (pc := 49) (j := row.toNat) (r := s) dX10_clumps_49 sh_27 (by omega) (by omega) (by decide) es ?_
          refine z_ldc2_w (pc := 50) 9999 dX10_clumps_50 cl_X10_395 (by decide) ?_
          refine z_callVbp (pc := 53) (i := mX5_isWithin) (S := []) [.long (zL (9999))] dX10_clumps_53 ml_X10_397 ok_X5_isWithin rfl (sh_Rw0 hs) rfl (Or.inr rfl) (Nat.le_of_ble_eq_true rfl) (c_X5_isWithin (d := d) (s := s) (hs := hs) (most := 9999) (most1 := (by omega)) (most2 := (by omega)) (ok := ok2) (rw := (by first | assumption | omega))) (fun hc13 ok12 => ?_) (fun hc13 ok12 => ?_)
          · skip
            have hw := zwcg.symm.trans hc13
            have hall := zwi_t.mp hw
            refine z_if_eq (pc := 56) (tgt := 81) dX10_clumps_56 (by decide) (by decide) (by decide) (fun h => absurd h (by decide)) (fun _ => ?_)
            refine x_iload_n (pc := 59) dX10_clumps_59 (List.Mem.tail _ (List.Mem.tail _ (List.Mem.head _))) ?_
            refine z_iconst (pc := 60) dX10_clumps_60 ?_
            refine z_icmp_lt (pc := 61) (tgt := 81) dX10_clumps_61 (by decide) (by omega) (by omega) (by decide) (by decide) (fun hb15 => ?_) (fun hb15 => ?_)
            · skip
              refine x_aload_n (pc := 81) dX10_clumps_81 (List.Mem.head _) ?_
              refine z_bipush (pc := 82) dX10_clumps_82 bp_m3 ?_
              refine z_callVip (pc := 84) (i := mX10_refuse) (S := []) [.int (zN ((-3)))] dX10_clumps_84 ml_X10_97 ok_X10_refuse rfl sh_20 rfl (Or.inl rfl) (Nat.le_of_ble_eq_true rfl) (c_X10_refuse (d := d) (code := ((-3))) (code1 := (by omega)) (code2 := (by omega)) (ok := ok12) (cn := (by first | assumption | omega))) (fun r16a r16b ok17 => ?_)
              show Ev _ _ _ _ _ _ _ (eh (wI H 25 ((refIx ((-3)))) (H.1 25 (refIx ((-3))) + 1)))
              refine z_ireturn (pc := 87) dX10_clumps_87 rfl (Or.inl rfl) ok17 (by omega) (by omega) ?_
              have e : S_clumps H row c g what = (-3, 1) := by unfold S_clumps; rw [if_pos (by omega), if_pos (by omega)]; first | exact if_neg (fun q => hw q.2) | exact if_neg (fun q => by omega)
              rw [e]
              exact ⟨rfl, H.1 24, by rw [wA_self]; rfl⟩
            · skip
              refine x_iload_n (pc := 64) dX10_clumps_64 (List.Mem.tail _ (List.Mem.tail _ (List.Mem.head _))) ?_
              refine z_sipush (pc := 65) dX10_clumps_65 sp_999 ?_
              refine z_icmp_gt (pc := 68) (tgt := 81) dX10_clumps_68 (by decide) (by omega) (by omega) (by decide) (by decide) (fun hb18 => ?_) (fun hb18 => ?_)
              · skip
                refine x_aload_n (pc := 81) dX10_clumps_81 (List.Mem.head _) ?_
                refine z_bipush (pc := 82) dX10_clumps_82 bp_m3 ?_
                refine z_callVip (pc := 84) (i := mX10_refuse) (S := []) [.int (zN ((-3)))] dX10_clumps_84 ml_X10_97 ok_X10_refuse rfl sh_20 rfl (Or.inl rfl) (Nat.le_of_ble_eq_true rfl) (c_X10_refuse (d := d) (code := ((-3))) (code1 := (by omega)) (code2 := (by omega)) (ok := ok12) (cn := (by first | assumption | omega))) (fun r19a r19b ok20 => ?_)
                show Ev _ _ _ _ _ _ _ (eh (wI H 25 ((refIx ((-3)))) (H.1 25 (refIx ((-3))) + 1)))
                refine z_ireturn (pc := 87) dX10_clumps_87 rfl (Or.inl rfl) ok20 (by omega) (by omega) ?_
                have e : S_clumps H row c g what = (-3, 1) := by unfold S_clumps; rw [if_pos (by omega), if_pos (by omega)]; first | exact if_neg (fun q => hw q.2) | exact if_neg (fun q => by omega)
                rw [e]
                exact ⟨rfl, H.1 24, by rw [wA_self]; rfl⟩
              · skip
                refine x_iload_n (pc := 71) dX10_clumps_71 (List.Mem.tail _ (List.Mem.tail _ (List.Mem.tail _ (List.Mem.head _)))) ?_
                refine z_iconst (pc := 72) dX10_clumps_72 ?_
                refine z_icmp_lt (pc := 73) (tgt := 81) dX10_clumps_73 (by decide) (by omega) (by omega) (by decide) (by decide) (fun hb21 => ?_) (fun hb21 => ?_)
                · skip
                  refine x_aload_n (pc := 81) dX10_clumps_81 (List.Mem.head _) ?_
                  refine z_bipush (pc := 82) dX10_clumps_82 bp_m3 ?_
                  refine z_callVip (pc := 84) (i := mX10_refuse) (S := []) [.int (zN ((-3)))] dX10_clumps_84 ml_X10_97 ok_X10_refuse rfl sh_20 rfl (Or.inl rfl) (Nat.le_of_ble_eq_true rfl) (c_X10_refuse (d := d) (code := ((-3))) (code1 := (by omega)) (code2 := (by omega)) (ok := ok12) (cn := (by first | assumption | omega))) (fun r22a r22b ok23 => ?_)
                  show Ev _ _ _ _ _ _ _ (eh (wI H 25 ((refIx ((-3)))) (H.1 25 (refIx ((-3))) + 1)))
                  refine z_ireturn (pc := 87) dX10_clumps_87 rfl (Or.inl rfl) ok23 (by omega) (by omega) ?_
                  have e : S_clumps H row c g what = (-3, 1) := by unfold S_clumps; rw [if_pos (by omega), if_pos (by omega)]; first | exact if_neg (fun q => hw q.2) | exact if_neg (fun q => by omega)
                  rw [e]
                  exact ⟨rfl, H.1 24, by rw [wA_self]; rfl⟩
                · skip
                  refine x_iload_n (pc := 76) dX10_clumps_76 (List.Mem.tail _ (List.Mem.tail _ (List.Mem.tail _ (List.Mem.head _)))) ?_
                  refine x_iload_n (pc := 77) dX10_clumps_77 (List.Mem.tail _ (List.Mem.tail _ (List.Mem.head _))) ?_
                  refine z_icmp_lt (pc := 78) (tgt := 88) dX10_clumps_78 (by decide) (by omega) (by omega) (by omega) (by omega) (fun hb24 => ?_) (fun hb24 => ?_)
                  · skip
                    refine x_aload_n (pc := 88) dX10_clumps_88 (List.Mem.head _) ?_
                    refine z_getR (pc := 89) (k := 13) (r := 27) dX10_clumps_89 lf_X10_81 sh_20 rfl rf_20_13 ?_
                    refine x_iload_n (pc := 92) dX10_clumps_92 (List.Mem.tail _ (List.Mem.head _)) ?_
                    refine z_aald4 (pc := 93) (j := row.toNat) (r := s) dX10_clumps_93 sh_27 (by omega) (by omega) (by decide) es ?_
                    have rd25 := ok12.1 s 2
                    refine z_getI (pc := 94) (k := 2) (v := H.1 s 2) dX10_clumps_94 lf_X10_400 (sh_Rw0 hs) rfl rfl ?_
                    refine x_istore (pc := 97) dX10_clumps_97 (Nat.le_of_ble_eq_true rfl) ?_
                    show Ev _ _ _ _ _ [(5, .int (zN ((H.1 s 2)))), (0, .ref 20), (1, .int (zN (row))), (2, .int (zN (c))), (3, .int (zN (g))), (4, .int (zN (what)))] _ _
                    refine z_iconst (pc := 99) dX10_clumps_99 ?_
                    refine x_istore (pc := 100) dX10_clumps_100 (Nat.le_of_ble_eq_true rfl) ?_
                    show Ev _ _ _ _ _ [(6, .int (zN (0))), (5, .int (zN ((H.1 s 2)))), (0, .ref 20), (1, .int (zN (row))), (2, .int (zN (c))), (3, .int (zN (g))), (4, .int (zN (what)))] _ _
                    refine z_iconst (pc := 102) dX10_clumps_102 ?_
                    refine x_istore (pc := 103) dX10_clumps_103 (Nat.le_of_ble_eq_true rfl) ?_
                    show Ev _ _ _ _ _ [(7, .int (zN (0))), (6, .int (zN (0))), (5, .int (zN ((H.1 s 2)))), (0, .ref 20), (1, .int (zN (row))), (2, .int (zN (c))), (3, .int (zN (g))), (4, .int (zN (what)))] _ _
                    have lp105 : ∀ (nF : Nat) (k : Nat), okZ (wA H 24 (fun j => if j < k then (cgo (rvM H row.toNat) c g) j else H.1 24 j)) → ((k : Int) ≤ H.1 s 2) → (H.1 s 2).toNat - k < nF → Ev zX mX10_clumps (EvC zX (d + 1)) (zPi (fun (r : Int) (H1 : ZH) => r = (S_clumps H row c g what).1 ∧ ∃ f, H1 = bumpC (S_clumps H row c g what).2 (wA H 24 f))) 105 [(0, .ref 20), (1, .int (zN (row))), (2, .int (zN (c))), (3, .int (zN (g))), (4, .int (zN (what))), (5, .int (zN ((H.1 s 2)))), (6, .int (zN (cws (rvM H row.toNat) c g k))), (7, .int (zN ((k : Int))))] [] (eh (wA H 24 (fun j => if j < k then (cgo (rvM H row.toNat) c g) j else H.1 24 j))) := by
                      intro nF
                      induction nF with
                      | zero => intro k okl105 hk hm; exact absurd hm (Nat.not_lt_zero _)
                      | succ nF ih105 =>
                        intro k okl105 hk hm
                        have wb := cws_bd (f := (rvM H row.toNat)) (c := c) (g := g) (n := k) (fun j hj => hall j (by omega)) (by omega) (by omega)
                        refine x_iload (pc := 105) dX10_clumps_105 (List.Mem.tail _ (List.Mem.tail _ (List.Mem.tail _ (List.Mem.tail _ (List.Mem.tail _ (List.Mem.tail _ (List.Mem.tail _ (List.Mem.head _)))))))) ?_
                        refine x_iload (pc := 107) dX10_clumps_107 (List.Mem.tail _ (List.Mem.tail _ (List.Mem.tail _ (List.Mem.tail _ (List.Mem.tail _ (List.Mem.head _)))))) ?_
                        refine z_icmp_ge (pc := 109) (tgt := 172) dX10_clumps_109 (by decide) (by omega) (by omega) (by omega) (by omega) (fun hb26 => ?_) (fun hb26 => ?_)
                        · skip
                          refine x_iload (pc := 172) dX10_clumps_172 (List.Mem.tail _ (List.Mem.tail _ (List.Mem.tail _ (List.Mem.tail _ (List.Mem.head _))))) ?_
                          have ek : k = (H.1 18 row.toNat).toNat := by omega
                          refine z_if_ne (pc := 174) (tgt := 180) dX10_clumps_174 (by decide) (by omega) (by omega) (fun hb27 => ?_) (fun hb27 => ?_)
                          · skip
                            refine x_iload (pc := 180) dX10_clumps_180 (List.Mem.tail _ (List.Mem.tail _ (List.Mem.tail _ (List.Mem.tail _ (List.Mem.head _))))) ?_
                            refine z_iconst (pc := 182) dX10_clumps_182 ?_
                            refine z_icmp_ne (pc := 183) (tgt := 195) dX10_clumps_183 (by decide) (by omega) (by omega) (by decide) (by decide) (fun hb28 => ?_) (fun hb28 => ?_)
                            · skip
                              refine x_aload_n (pc := 195) dX10_clumps_195 (List.Mem.head _) ?_
                              refine x_iload (pc := 196) dX10_clumps_196 (List.Mem.tail _ (List.Mem.tail _ (List.Mem.tail _ (List.Mem.tail _ (List.Mem.tail _ (List.Mem.head _)))))) ?_
                              refine z_callVip (pc := 198) (i := mX10_differentGoes) (S := []) [.int (zN ((H.1 s 2)))] dX10_clumps_198 ml_X10_407 ok_X10_differentGoes rfl sh_20 rfl (Or.inl rfl) (Nat.le_of_ble_eq_true rfl) (by have qz := c_X10_differentGoes (d := d) (n := ((H.1 s 2).toNat)) (hn := (by omega)) (ok := okl105); rw [show (((H.1 s 2).toNat : Nat) : Int) = (H.1 s 2) by omega] at qz; exact qz) (fun r29a r29b ok30 => ?_)
                              refine z_ireturn (pc := 201) dX10_clumps_201 rfl (Or.inl rfl) ok30 (by omega) (by omega) ?_
                              have e : S_clumps H row c g what = ((if what = 0 then cws (rvM H row.toNat) c g (H.1 18 row.toNat).toNat else if what = 1 then cmx (cgo (rvM H row.toNat) c g) (H.1 18 row.toNat).toNat (H.1 18 row.toNat).toNat else cdf (cgo (rvM H row.toNat) c g) (H.1 18 row.toNat).toNat), 6) := by unfold S_clumps; rw [if_pos (by omega), if_pos (by omega)]; exact if_pos ⟨by omega, hw⟩
                              rw [e]
                              refine ⟨?_, _, rfl⟩
                              rw [t3]
                              first | (rw [if_neg (by omega), if_pos (by omega)]; refine cmx_cg (fun j hj => ?_) _ (Nat.le_refl _); rw [wA1]; exact if_pos (by omega)) | (rw [if_neg (by omega), if_neg (by omega)]; refine cdf_cg (fun j hj => ?_); rw [wA1]; exact if_pos (by omega))
                            · skip
                              refine x_aload_n (pc := 186) dX10_clumps_186 (List.Mem.head _) ?_
                              refine x_iload (pc := 187) dX10_clumps_187 (List.Mem.tail _ (List.Mem.tail _ (List.Mem.tail _ (List.Mem.tail _ (List.Mem.tail _ (List.Mem.head _)))))) ?_
                              refine z_callVip (pc := 189) (i := mX10_greatestClump) (S := []) [.int (zN ((H.1 s 2)))] dX10_clumps_189 ml_X10_404 ok_X10_greatestClump rfl sh_20 rfl (Or.inl rfl) (Nat.le_of_ble_eq_true rfl) (by have qz := c_X10_greatestClump (d := d) (n := ((H.1 s 2).toNat)) (hn := (by omega)) (ok := okl105); rw [show (((H.1 s 2).toNat : Nat) : Int) = (H.1 s 2) by omega] at qz; exact qz) (fun r31a r31b ok32 => ?_)
                              refine x_goto (pc := 192) (tgt := 201) dX10_clumps_192 (by decide) ?_
                              refine z_ireturn (pc := 201) dX10_clumps_201 rfl (Or.inl rfl) ok32 (by omega) (by omega) ?_
                              have e : S_clumps H row c g what = ((if what = 0 then cws (rvM H row.toNat) c g (H.1 18 row.toNat).toNat else if what = 1 then cmx (cgo (rvM H row.toNat) c g) (H.1 18 row.toNat).toNat (H.1 18 row.toNat).toNat else cdf (cgo (rvM H row.toNat) c g) (H.1 18 row.toNat).toNat), 6) := by unfold S_clumps; rw [if_pos (by omega), if_pos (by omega)]; exact if_pos ⟨by omega, hw⟩
                              rw [e]
                              refine ⟨?_, _, rfl⟩
                              rw [t3]
                              first | (rw [if_neg (by omega), if_pos (by omega)]; refine cmx_cg (fun j hj => ?_) _ (Nat.le_refl _); rw [wA1]; exact if_pos (by omega)) | (rw [if_neg (by omega), if_neg (by omega)]; refine cdf_cg (fun j hj => ?_); rw [wA1]; exact if_pos (by omega))
                          · skip
                            refine x_iload (pc := 177) dX10_clumps_177 (List.Mem.tail _ (List.Mem.tail _ (List.Mem.tail _ (List.Mem.tail _ (List.Mem.tail _ (List.Mem.tail _ (List.Mem.head _))))))) ?_
                            refine z_ireturn (pc := 179) dX10_clumps_179 rfl (Or.inl rfl) okl105 (by omega) (by omega) ?_
                            have e : S_clumps H row c g what = ((if what = 0 then cws (rvM H row.toNat) c g (H.1 18 row.toNat).toNat else if what = 1 then cmx (cgo (rvM H row.toNat) c g) (H.1 18 row.toNat).toNat (H.1 18 row.toNat).toNat else cdf (cgo (rvM H row.toNat) c g) (H.1 18 row.toNat).toNat), 6) := by unfold S_clumps; rw [if_pos (by omega), if_pos (by omega)]; exact if_pos ⟨by omega, hw⟩
                            rw [e]
                            refine ⟨?_, _, rfl⟩
                            rw [if_pos (by omega), ek]
                        · skip
                          have hk2 := hall k (by omega)
                          have gb := cgo_bd (f := rvM H row.toNat) (c := c) (g := g) (k := k) hk2.1 hk2.2 (by omega) (by omega)
                          refine x_aload_n (pc := 112) dX10_clumps_112 (List.Mem.head _) ?_
                          refine z_getR (pc := 113) (k := 13) (r := 27) dX10_clumps_113 lf_X10_81 sh_20 rfl rf_20_13 ?_
                          refine x_iload_n (pc := 116) dX10_clumps_116 (List.Mem.tail _ (List.Mem.head _)) ?_
                          refine z_aald4 (pc := 117) (j := row.toNat) (r := s) dX10_clumps_117 sh_27 (by omega) (by omega) (by decide) es ?_
                          refine z_getR (pc := 118) (k := 3) (r := (s + 1)) dX10_clumps_118 lf_X10_401 (sh_Rw0 hs) rfl (rf_Rw_3 hs) ?_
                          refine x_iload (pc := 121) dX10_clumps_121 (List.Mem.tail _ (List.Mem.tail _ (List.Mem.tail _ (List.Mem.tail _ (List.Mem.tail _ (List.Mem.tail _ (List.Mem.tail _ (List.Mem.head _)))))))) ?_
                          refine z_lald (pc := 123) (j := k) (v := ((rvM H row.toNat) k)) dX10_clumps_123 (sh_Rw1 hs) rfl (by omega) (by decide) (by rw [wA2]; exact t4 k (by omega)) ?_
                          refine z_l2i (pc := 124) dX10_clumps_124 ?_
                          refine x_istore (pc := 125) dX10_clumps_125 (Nat.le_of_ble_eq_true rfl) ?_
                          show Ev _ _ _ _ _ [(8, .int (zN ((((rvM H row.toNat) k))))), (0, .ref 20), (1, .int (zN (row))), (2, .int (zN (c))), (3, .int (zN (g))), (4, .int (zN (what))), (5, .int (zN ((H.1 s 2)))), (6, .int (zN (cws (rvM H row.toNat) c g k))), (7, .int (zN ((k : Int))))] _ _
                          refine x_iload (pc := 127) dX10_clumps_127 (List.Mem.head _) ?_
                          refine x_iload_n (pc := 129) dX10_clumps_129 (List.Mem.tail _ (List.Mem.tail _ (List.Mem.tail _ (List.Mem.head _)))) ?_
                          refine z_iremP (pc := 130) dX10_clumps_130 (by omega) (by omega) (by omega) (by omega) ?_
                          refine x_iload_n (pc := 131) dX10_clumps_131 (List.Mem.tail _ (List.Mem.tail _ (List.Mem.tail _ (List.Mem.tail _ (List.Mem.head _))))) ?_
                          refine z_icmp_ge (pc := 132) (tgt := 139) dX10_clumps_132 (by decide) (by omega) (by omega) (by omega) (by omega) (fun hb33 => ?_) (fun hb33 => ?_)
                          · skip
                            refine x_iload_n (pc := 139) dX10_clumps_139 (List.Mem.tail _ (List.Mem.tail _ (List.Mem.tail _ (List.Mem.head _)))) ?_
                            refine x_iload (pc := 140) dX10_clumps_140 (List.Mem.head _) ?_
                            refine x_iload_n (pc := 142) dX10_clumps_142 (List.Mem.tail _ (List.Mem.tail _ (List.Mem.tail _ (List.Mem.head _)))) ?_
                            refine z_iremP (pc := 143) dX10_clumps_143 (by omega) (by omega) (by omega) (by omega) ?_
                            refine z_isub (pc := 144) dX10_clumps_144 ?_
                            refine x_istore (pc := 145) dX10_clumps_145 (Nat.le_of_ble_eq_true rfl) ?_
                            show Ev _ _ _ _ _ [(9, .int (zN ((c - ((((rvM H row.toNat) k)) % c))))), (8, .int (zN ((((rvM H row.toNat) k))))), (0, .ref 20), (1, .int (zN (row))), (2, .int (zN (c))), (3, .int (zN (g))), (4, .int (zN (what))), (5, .int (zN ((H.1 s 2)))), (6, .int (zN (cws (rvM H row.toNat) c g k))), (7, .int (zN ((k : Int))))] _ _
                            refine x_aload_n (pc := 147) dX10_clumps_147 (List.Mem.tail _ (List.Mem.tail _ (List.Mem.head _))) ?_
                            refine z_getR (pc := 148) (k := 14) (r := 24) dX10_clumps_148 lf_X10_85 sh_20 rfl rf_20_14 ?_
                            refine x_iload (pc := 151) dX10_clumps_151 (List.Mem.tail _ (List.Mem.tail _ (List.Mem.tail _ (List.Mem.tail _ (List.Mem.tail _ (List.Mem.tail _ (List.Mem.tail _ (List.Mem.tail _ (List.Mem.tail _ (List.Mem.head _)))))))))) ?_
                            refine x_iload (pc := 153) dX10_clumps_153 (List.Mem.tail _ (List.Mem.head _)) ?_
                            refine x_iload (pc := 155) dX10_clumps_155 (List.Mem.head _) ?_
                            refine z_iadd (pc := 157) dX10_clumps_157 ?_
                            refine z_iast (pc := 158) (j := k) (v := ((((rvM H row.toNat) k)) + (c - ((((rvM H row.toNat) k)) % c)))) dX10_clumps_158 sh_24 rfl (by omega) (by decide) ?_
                            have ok34 := okI okl105 24 k (v := ((((rvM H row.toNat) k)) + (c - ((((rvM H row.toNat) k)) % c)))) (by omega) (by omega)
                            refine x_iload (pc := 159) dX10_clumps_159 (List.Mem.tail _ (List.Mem.tail _ (List.Mem.tail _ (List.Mem.tail _ (List.Mem.tail _ (List.Mem.tail _ (List.Mem.tail _ (List.Mem.tail _ (List.Mem.head _))))))))) ?_
                            refine x_iload (pc := 161) dX10_clumps_161 (List.Mem.head _) ?_
                            refine z_iadd (pc := 163) dX10_clumps_163 ?_
                            refine x_istore (pc := 164) dX10_clumps_164 (Nat.le_of_ble_eq_true rfl) ?_
                            show Ev _ _ _ _ _ [(6, .int (zN ((cws (rvM H row.toNat) c g k + (c - ((((rvM H row.toNat) k)) % c)))))), (9, .int (zN ((c - ((((rvM H row.toNat) k)) % c))))), (8, .int (zN ((((rvM H row.toNat) k))))), (0, .ref 20), (1, .int (zN (row))), (2, .int (zN (c))), (3, .int (zN (g))), (4, .int (zN (what))), (5, .int (zN ((H.1 s 2)))), (7, .int (zN ((k : Int))))] _ _
                            refine z_iinc (pc := 166) dX10_clumps_166 (List.Mem.tail _ (List.Mem.tail _ (List.Mem.tail _ (List.Mem.tail _ (List.Mem.tail _ (List.Mem.tail _ (List.Mem.tail _ (List.Mem.tail _ (List.Mem.tail _ (List.Mem.head _)))))))))) (Nat.le_of_ble_eq_true rfl) ?_
                            show Ev _ _ _ _ _ [(7, .int (zN ((k : Int) + 1))), (6, .int (zN ((cws (rvM H row.toNat) c g k + (c - ((((rvM H row.toNat) k)) % c)))))), (9, .int (zN ((c - ((((rvM H row.toNat) k)) % c))))), (8, .int (zN ((((rvM H row.toNat) k))))), (0, .ref 20), (1, .int (zN (row))), (2, .int (zN (c))), (3, .int (zN (g))), (4, .int (zN (what))), (5, .int (zN ((H.1 s 2))))] _ _
                            refine x_goto (pc := 169) (tgt := 105) dX10_clumps_169 (by decide) ?_
                            refine x_weaken (L1 := [(0, .ref 20), (1, .int (zN (row))), (2, .int (zN (c))), (3, .int (zN (g))), (4, .int (zN (what))), (5, .int (zN ((H.1 s 2)))), (6, .int (zN (cws (rvM H row.toNat) c g (k + 1)))), (7, .int (zN ((((k + 1) : Nat) : Int))))]) (List.forall_mem_cons.mpr ⟨(List.Mem.tail _ (List.Mem.tail _ (List.Mem.tail _ (List.Mem.tail _ (List.Mem.head _))))), (List.forall_mem_cons.mpr ⟨(List.Mem.tail _ (List.Mem.tail _ (List.Mem.tail _ (List.Mem.tail _ (List.Mem.tail _ (List.Mem.head _)))))), (List.forall_mem_cons.mpr ⟨(List.Mem.tail _ (List.Mem.tail _ (List.Mem.tail _ (List.Mem.tail _ (List.Mem.tail _ (List.Mem.tail _ (List.Mem.head _))))))), (List.forall_mem_cons.mpr ⟨(List.Mem.tail _ (List.Mem.tail _ (List.Mem.tail _ (List.Mem.tail _ (List.Mem.tail _ (List.Mem.tail _ (List.Mem.tail _ (List.Mem.head _)))))))), (List.forall_mem_cons.mpr ⟨(List.Mem.tail _ (List.Mem.tail _ (List.Mem.tail _ (List.Mem.tail _ (List.Mem.tail _ (List.Mem.tail _ (List.Mem.tail _ (List.Mem.tail _ (List.Mem.head _))))))))), (List.forall_mem_cons.mpr ⟨(List.Mem.tail _ (List.Mem.tail _ (List.Mem.tail _ (List.Mem.tail _ (List.Mem.tail _ (List.Mem.tail _ (List.Mem.tail _ (List.Mem.tail _ (List.Mem.tail _ (List.Mem.head _)))))))))), (List.forall_mem_cons.mpr ⟨(mem_ci (by show cws (rvM H row.toNat) c g k + ((cgo (rvM H row.toNat) c g) k - (rvM H row.toNat) k) = _; unfold cgo; first | (rw [if_pos (by omega)]; omega) | (rw [if_neg (by omega)]; omega)) (List.Mem.tail _ (List.Mem.head _))), (List.forall_mem_cons.mpr ⟨(mem_ci (by omega) (List.Mem.head _)), (fun _ h => absurd h List.not_mem_nil)⟩)⟩)⟩)⟩)⟩)⟩)⟩)⟩) ?_
                            have he35 : (wI (wA H 24 (fun j => if j < k then (cgo (rvM H row.toNat) c g) j else H.1 24 j)) 24 k (((((rvM H row.toNat) k)) + (c - ((((rvM H row.toNat) k)) % c))))) = (wA H 24 (fun j => if j < (k + 1) then (cgo (rvM H row.toNat) c g) j else H.1 24 j)) := wA_step H 24 (cgo (rvM H row.toNat) c g) k _ (by unfold cgo; first | (rw [if_pos (by omega)]; omega) | (rw [if_neg (by omega)]; omega))
                            refine Ev_heq he35 ?_
                            have ok36 : okZ (wA H 24 (fun j => if j < (k + 1) then (cgo (rvM H row.toNat) c g) j else H.1 24 j)) := by rw [← he35]; exact ok34
                            exact ih105 ((k + 1)) ok36 (by first | assumption | omega) (by omega)
                          · skip
                            refine z_iconst (pc := 135) dX10_clumps_135 ?_
                            refine x_goto (pc := 136) (tgt := 145) dX10_clumps_136 (by decide) ?_
                            refine x_istore (pc := 145) dX10_clumps_145 (Nat.le_of_ble_eq_true rfl) ?_
                            show Ev _ _ _ _ _ [(9, .int (zN (0))), (8, .int (zN ((((rvM H row.toNat) k))))), (0, .ref 20), (1, .int (zN (row))), (2, .int (zN (c))), (3, .int (zN (g))), (4, .int (zN (what))), (5, .int (zN ((H.1 s 2)))), (6, .int (zN (cws (rvM H row.toNat) c g k))), (7, .int (zN ((k : Int))))] _ _
                            refine x_aload_n (pc := 147) dX10_clumps_147 (List.Mem.tail _ (List.Mem.tail _ (List.Mem.head _))) ?_
                            refine z_getR (pc := 148) (k := 14) (r := 24) dX10_clumps_148 lf_X10_85 sh_20 rfl rf_20_14 ?_
                            refine x_iload (pc := 151) dX10_clumps_151 (List.Mem.tail _ (List.Mem.tail _ (List.Mem.tail _ (List.Mem.tail _ (List.Mem.tail _ (List.Mem.tail _ (List.Mem.tail _ (List.Mem.tail _ (List.Mem.tail _ (List.Mem.head _)))))))))) ?_
                            refine x_iload (pc := 153) dX10_clumps_153 (List.Mem.tail _ (List.Mem.head _)) ?_
                            refine x_iload (pc := 155) dX10_clumps_155 (List.Mem.head _) ?_
                            refine z_iadd (pc := 157) dX10_clumps_157 ?_
                            refine z_iast (pc := 158) (j := k) (v := ((((rvM H row.toNat) k)) + 0)) dX10_clumps_158 sh_24 rfl (by omega) (by decide) ?_
                            have ok37 := okI okl105 24 k (v := ((((rvM H row.toNat) k)) + 0)) (by omega) (by omega)
                            refine x_iload (pc := 159) dX10_clumps_159 (List.Mem.tail _ (List.Mem.tail _ (List.Mem.tail _ (List.Mem.tail _ (List.Mem.tail _ (List.Mem.tail _ (List.Mem.tail _ (List.Mem.tail _ (List.Mem.head _))))))))) ?_
                            refine x_iload (pc := 161) dX10_clumps_161 (List.Mem.head _) ?_
                            refine z_iadd (pc := 163) dX10_clumps_163 ?_
                            refine x_istore (pc := 164) dX10_clumps_164 (Nat.le_of_ble_eq_true rfl) ?_
                            show Ev _ _ _ _ _ [(6, .int (zN ((cws (rvM H row.toNat) c g k + 0)))), (9, .int (zN (0))), (8, .int (zN ((((rvM H row.toNat) k))))), (0, .ref 20), (1, .int (zN (row))), (2, .int (zN (c))), (3, .int (zN (g))), (4, .int (zN (what))), (5, .int (zN ((H.1 s 2)))), (7, .int (zN ((k : Int))))] _ _
                            refine z_iinc (pc := 166) dX10_clumps_166 (List.Mem.tail _ (List.Mem.tail _ (List.Mem.tail _ (List.Mem.tail _ (List.Mem.tail _ (List.Mem.tail _ (List.Mem.tail _ (List.Mem.tail _ (List.Mem.tail _ (List.Mem.head _)))))))))) (Nat.le_of_ble_eq_true rfl) ?_
                            show Ev _ _ _ _ _ [(7, .int (zN ((k : Int) + 1))), (6, .int (zN ((cws (rvM H row.toNat) c g k + 0)))), (9, .int (zN (0))), (8, .int (zN ((((rvM H row.toNat) k))))), (0, .ref 20), (1, .int (zN (row))), (2, .int (zN (c))), (3, .int (zN (g))), (4, .int (zN (what))), (5, .int (zN ((H.1 s 2))))] _ _
                            refine x_goto (pc := 169) (tgt := 105) dX10_clumps_169 (by decide) ?_
                            refine x_weaken (L1 := [(0, .ref 20), (1, .int (zN (row))), (2, .int (zN (c))), (3, .int (zN (g))), (4, .int (zN (what))), (5, .int (zN ((H.1 s 2)))), (6, .int (zN (cws (rvM H row.toNat) c g (k + 1)))), (7, .int (zN ((((k + 1) : Nat) : Int))))]) (List.forall_mem_cons.mpr ⟨(List.Mem.tail _ (List.Mem.tail _ (List.Mem.tail _ (List.Mem.tail _ (List.Mem.head _))))), (List.forall_mem_cons.mpr ⟨(List.Mem.tail _ (List.Mem.tail _ (List.Mem.tail _ (List.Mem.tail _ (List.Mem.tail _ (List.Mem.head _)))))), (List.forall_mem_cons.mpr ⟨(List.Mem.tail _ (List.Mem.tail _ (List.Mem.tail _ (List.Mem.tail _ (List.Mem.tail _ (List.Mem.tail _ (List.Mem.head _))))))), (List.forall_mem_cons.mpr ⟨(List.Mem.tail _ (List.Mem.tail _ (List.Mem.tail _ (List.Mem.tail _ (List.Mem.tail _ (List.Mem.tail _ (List.Mem.tail _ (List.Mem.head _)))))))), (List.forall_mem_cons.mpr ⟨(List.Mem.tail _ (List.Mem.tail _ (List.Mem.tail _ (List.Mem.tail _ (List.Mem.tail _ (List.Mem.tail _ (List.Mem.tail _ (List.Mem.tail _ (List.Mem.head _))))))))), (List.forall_mem_cons.mpr ⟨(List.Mem.tail _ (List.Mem.tail _ (List.Mem.tail _ (List.Mem.tail _ (List.Mem.tail _ (List.Mem.tail _ (List.Mem.tail _ (List.Mem.tail _ (List.Mem.tail _ (List.Mem.head _)))))))))), (List.forall_mem_cons.mpr ⟨(mem_ci (by show cws (rvM H row.toNat) c g k + ((cgo (rvM H row.toNat) c g) k - (rvM H row.toNat) k) = _; unfold cgo; first | (rw [if_pos (by omega)]; omega) | (rw [if_neg (by omega)]; omega)) (List.Mem.tail _ (List.Mem.head _))), (List.forall_mem_cons.mpr ⟨(mem_ci (by omega) (List.Mem.head _)), (fun _ h => absurd h List.not_mem_nil)⟩)⟩)⟩)⟩)⟩)⟩)⟩)⟩) ?_
                            have he38 : (wI (wA H 24 (fun j => if j < k then (cgo (rvM H row.toNat) c g) j else H.1 24 j)) 24 k (((((rvM H row.toNat) k)) + 0))) = (wA H 24 (fun j => if j < (k + 1) then (cgo (rvM H row.toNat) c g) j else H.1 24 j)) := wA_step H 24 (cgo (rvM H row.toNat) c g) k _ (by unfold cgo; first | (rw [if_pos (by omega)]; omega) | (rw [if_neg (by omega)]; omega))
                            refine Ev_heq he38 ?_
                            have ok39 : okZ (wA H 24 (fun j => if j < (k + 1) then (cgo (rvM H row.toNat) c g) j else H.1 24 j)) := by rw [← he38]; exact ok37
                            exact ih105 ((k + 1)) ok39 (by first | assumption | omega) (by omega)
                    refine x_weaken (L1 := [(0, .ref 20), (1, .int (zN (row))), (2, .int (zN (c))), (3, .int (zN (g))), (4, .int (zN (what))), (5, .int (zN ((H.1 s 2)))), (6, .int (zN (cws (rvM H row.toNat) c g 0))), (7, .int (zN (((0 : Nat) : Int))))]) (List.forall_mem_cons.mpr ⟨(List.Mem.tail _ (List.Mem.tail _ (List.Mem.tail _ (List.Mem.head _)))), (List.forall_mem_cons.mpr ⟨(List.Mem.tail _ (List.Mem.tail _ (List.Mem.tail _ (List.Mem.tail _ (List.Mem.head _))))), (List.forall_mem_cons.mpr ⟨(List.Mem.tail _ (List.Mem.tail _ (List.Mem.tail _ (List.Mem.tail _ (List.Mem.tail _ (List.Mem.head _)))))), (List.forall_mem_cons.mpr ⟨(List.Mem.tail _ (List.Mem.tail _ (List.Mem.tail _ (List.Mem.tail _ (List.Mem.tail _ (List.Mem.tail _ (List.Mem.head _))))))), (List.forall_mem_cons.mpr ⟨(List.Mem.tail _ (List.Mem.tail _ (List.Mem.tail _ (List.Mem.tail _ (List.Mem.tail _ (List.Mem.tail _ (List.Mem.tail _ (List.Mem.head _)))))))), (List.forall_mem_cons.mpr ⟨(List.Mem.tail _ (List.Mem.tail _ (List.Mem.head _))), (List.forall_mem_cons.mpr ⟨(mem_ci (rfl) (List.Mem.tail _ (List.Mem.head _))), (List.forall_mem_cons.mpr ⟨(mem_ci (by omega) (List.Mem.head _)), (fun _ h => absurd h List.not_mem_nil)⟩)⟩)⟩)⟩)⟩)⟩)⟩)⟩) ?_
                    have he40 : H = (wA H 24 (fun j => if j < 0 then (cgo (rvM H row.toNat) c g) j else H.1 24 j)) := wA_zero H 24 (cgo (rvM H row.toNat) c g)
                    refine Ev_heq he40 ?_
                    have ok41 : okZ (wA H 24 (fun j => if j < 0 then (cgo (rvM H row.toNat) c g) j else H.1 24 j)) := by rw [← he40]; exact ok12
                    exact lp105 ((H.1 s 2).toNat - 0 + 1) (0) ok41 (by first | assumption | omega) (Nat.lt_succ_self _)
                  · skip
                    refine x_aload_n (pc := 81) dX10_clumps_81 (List.Mem.head _) ?_
                    refine z_bipush (pc := 82) dX10_clumps_82 bp_m3 ?_
                    refine z_callVip (pc := 84) (i := mX10_refuse) (S := []) [.int (zN ((-3)))] dX10_clumps_84 ml_X10_97 ok_X10_refuse rfl sh_20 rfl (Or.inl rfl) (Nat.le_of_ble_eq_true rfl) (c_X10_refuse (d := d) (code := ((-3))) (code1 := (by omega)) (code2 := (by omega)) (ok := ok12) (cn := (by first | assumption | omega))) (fun r42a r42b ok43 => ?_)
                    show Ev _ _ _ _ _ _ _ (eh (wI H 25 ((refIx ((-3)))) (H.1 25 (refIx ((-3))) + 1)))
                    refine z_ireturn (pc := 87) dX10_clumps_87 rfl (Or.inl rfl) ok43 (by omega) (by omega) ?_
                    have e : S_clumps H row c g what = (-3, 1) := by unfold S_clumps; rw [if_pos (by omega), if_pos (by omega)]; first | exact if_neg (fun q => hw q.2) | exact if_neg (fun q => by omega)
                    rw [e]
                    exact ⟨rfl, H.1 24, by rw [wA_self]; rfl⟩
          · skip
            have hw := fun q => hc13 (zwcg.trans q)
            refine z_if_eq (pc := 56) (tgt := 81) dX10_clumps_56 (by decide) (by decide) (by decide) (fun _ => ?_) (fun h => absurd h (by decide))
            refine x_aload_n (pc := 81) dX10_clumps_81 (List.Mem.head _) ?_
            refine z_bipush (pc := 82) dX10_clumps_82 bp_m3 ?_
            refine z_callVip (pc := 84) (i := mX10_refuse) (S := []) [.int (zN ((-3)))] dX10_clumps_84 ml_X10_97 ok_X10_refuse rfl sh_20 rfl (Or.inl rfl) (Nat.le_of_ble_eq_true rfl) (c_X10_refuse (d := d) (code := ((-3))) (code1 := (by omega)) (code2 := (by omega)) (ok := ok12) (cn := (by first | assumption | omega))) (fun r45a r45b ok46 => ?_)
            show Ev _ _ _ _ _ _ _ (eh (wI H 25 ((refIx ((-3)))) (H.1 25 (refIx ((-3))) + 1)))
            refine z_ireturn (pc := 87) dX10_clumps_87 rfl (Or.inl rfl) ok46 (by omega) (by omega) ?_
            have e : S_clumps H row c g what = (-3, 1) := by unfold S_clumps; rw [if_pos (by omega), if_pos (by omega)]; first | exact if_neg (fun q => hw q.2) | exact if_neg (fun q => by omega)
            rw [e]
            exact ⟨rfl, H.1 24, by rw [wA_self]; rfl⟩
        · skip
          refine x_aload_n (pc := 37) dX10_clumps_37 (List.Mem.head _) ?_
          refine z_bipush (pc := 38) dX10_clumps_38 bp_m6 ?_
          refine z_callVip (pc := 40) (i := mX10_refuse) (S := []) [.int (zN ((-6)))] dX10_clumps_40 ml_X10_97 ok_X10_refuse rfl sh_20 rfl (Or.inl rfl) (Nat.le_of_ble_eq_true rfl) (c_X10_refuse (d := d) (code := ((-6))) (code1 := (by omega)) (code2 := (by omega)) (ok := ok2) (cn := (by first | assumption | omega))) (fun r47a r47b ok48 => ?_)
          show Ev _ _ _ _ _ _ _ (eh (wI H 25 ((refIx ((-6)))) (H.1 25 (refIx ((-6))) + 1)))
          refine z_ireturn (pc := 43) dX10_clumps_43 rfl (Or.inl rfl) ok48 (by omega) (by omega) ?_
          have e : S_clumps H row c g what = (-6, 3) := by unfold S_clumps; rw [if_pos (by omega), if_neg (by omega)]
          rw [e]
          exact ⟨rfl, H.1 24, by rw [wA_self]; rfl⟩
      · skip
        refine x_aload_n (pc := 18) dX10_clumps_18 (List.Mem.head _) ?_
        refine z_bipush (pc := 19) dX10_clumps_19 bp_m2 ?_
        refine z_callVip (pc := 21) (i := mX10_refuse) (S := []) [.int (zN ((-2)))] dX10_clumps_21 ml_X10_97 ok_X10_refuse rfl sh_20 rfl (Or.inl rfl) (Nat.le_of_ble_eq_true rfl) (c_X10_refuse (d := d) (code := ((-2))) (code1 := (by omega)) (code2 := (by omega)) (ok := ok2) (cn := (by first | assumption | omega))) (fun r49a r49b ok50 => ?_)
        show Ev _ _ _ _ _ _ _ (eh (wI H 25 ((refIx ((-2)))) (H.1 25 (refIx ((-2))) + 1)))
        refine z_ireturn (pc := 24) dX10_clumps_24 rfl (Or.inl rfl) ok50 (by omega) (by omega) ?_
        have e : S_clumps H row c g what = (-2, 0) := by unfold S_clumps; rw [if_neg (by omega)]
        rw [e]
        exact ⟨rfl, H.1 24, by rw [wA_self]; rfl⟩
  · skip
    refine z_if_eq (pc := 4) (tgt := 18) dX10_clumps_4 (by decide) (by decide) (by decide) (fun _ => ?_) (fun h => absurd h (by decide))
    refine x_aload_n (pc := 18) dX10_clumps_18 (List.Mem.head _) ?_
    refine z_bipush (pc := 19) dX10_clumps_19 bp_m2 ?_
    refine z_callVip (pc := 21) (i := mX10_refuse) (S := []) [.int (zN ((-2)))] dX10_clumps_21 ml_X10_97 ok_X10_refuse rfl sh_20 rfl (Or.inl rfl) (Nat.le_of_ble_eq_true rfl) (c_X10_refuse (d := d) (code := ((-2))) (code1 := (by omega)) (code2 := (by omega)) (ok := ok2) (cn := (by first | assumption | omega))) (fun r52a r52b ok53 => ?_)
    show Ev _ _ _ _ _ _ _ (eh (wI H 25 ((refIx ((-2)))) (H.1 25 (refIx ((-2))) + 1)))
    refine z_ireturn (pc := 24) dX10_clumps_24 rfl (Or.inl rfl) ok53 (by omega) (by omega) ?_
    have e : S_clumps H row c g what = (-2, 0) := by unfold S_clumps; rw [if_neg (by omega)]
    rw [e]
    exact ⟨rfl, H.1 24, by rw [wA_self]; rfl⟩
