/-! GROUP B2: the calls on rows of numbers. -/
theorem zmuch_cg {f g : Nat → Int} {n : Nat} (h : ∀ k, k < n → f k = g k) : zmuch f n = zmuch g n := by
  induction n with
  | zero => rfl
  | succ n ih =>
    show (zmuch f n || decide (1000000 < f n)) = (zmuch g n || decide (1000000 < g n))
    rw [h n (by omega), ih (fun k hk => h k (by omega))]
theorem zwi_cg {f g : Nat → Int} {m : Int} {n : Nat} (h : ∀ k, k < n → f k = g k) : zwi f m n = zwi g m n := by
  induction n with
  | zero => rfl
  | succ n ih =>
    show (zwi f m n && decide (0 ≤ f n ∧ f n ≤ m)) = (zwi g m n && decide (0 ≤ g n ∧ g n ≤ m))
    rw [h n (by omega), ih (fun k hk => h k (by omega))]
theorem zher_cg {f g : Nat → Int} {n : Nat} (h : ∀ k, k < n → f k = g k) : zher f n = zher g n := by
  induction n with
  | zero => rfl
  | succ n ih =>
    show zher f n + (if 0 ≤ f n then 1 else 0) = zher g n + (if 0 ≤ g n then 1 else 0)
    rw [h n (by omega), ih (fun k hk => h k (by omega))]
theorem zfil_none {f : Nat → Int} {n i : Nat} (h : zher f n = 0) (hi : i < n) : zfil f n i = -1 := by
  have h2 := zher_0.mp h
  have e1 : zba f (i + 1) = -1 := by
    rcases zba_sp f (i + 1) with ⟨a, -⟩ | ⟨a, a0, -, a2⟩
    · exact a
    · have := h2 a (by omega); omega
  have e2 : (n : Int) ≤ zfw f (n - i) i := by
    rcases zfw_sp f (n - i) i with ⟨a, -⟩ | ⟨a, a0, a1, -, a3⟩
    · rw [a]; omega
    · have := h2 a (by omega); omega
  unfold zfil
  exact if_pos ⟨by omega, e2⟩
/-- FILLED of a row that has one: it is there -/
theorem zfil_bd {f : Nat → Int} {n i : Nat} (hm : ∀ k, k < n → f k ≤ 1000000) (hi : i < n) : -1 ≤ zfil f n i ∧ zfil f n i ≤ 1000000 ∧ (zher f n ≠ 0 → 0 ≤ zfil f n i) := by
  unfold zfil
  rcases zba_sp f (i + 1) with ⟨a1, a9⟩ | ⟨a, a0, a1, a2⟩ <;> rcases zfw_sp f (n - i) i with ⟨b1, b9⟩ | ⟨b, b0, b00, b1, b2⟩ <;> rw [a1, b1]
  · rw [if_pos ⟨by omega, by omega⟩]
    refine ⟨by omega, by omega, fun q => absurd (zher_0.mpr (fun k hk => ?_)) q⟩
    rcases Nat.lt_or_ge k (i + 1) with c | c
    · exact a9 k c
    · exact b9 k (by omega) (by omega)
  · rw [if_neg (by omega), if_pos (by omega), Int.toNat_natCast]
    have := hm b (by omega)
    omega
  · rw [if_neg (by omega), if_neg (by omega), if_pos (by omega), Int.toNat_natCast]
    have := hm a (by omega)
    omega
  · rw [if_neg (by omega), if_neg (by omega), if_neg (by omega), Int.toNat_natCast, Int.toNat_natCast]
    have := hm a (by omega)
    have := hm b (by omega)
    omega
theorem isRw_at {r : Nat} (h : r < 4) : isRw (125 + 2 * r) := by unfold isRw; omega
/-- the class's rows are the reference's -/
def RepR (H : ZH) : Prop := ∀ r, r < 4 → ∀ s, s = 125 + 2 * r → rwOK H s ∧ (H.1 s 0 = 1 → H.1 17 r ≠ -1 ∧ H.1 s 1 = H.1 17 r ∧ H.1 s 2 = H.1 18 r ∧ ∀ k, k < (H.1 s 2).toNat → H.2 (s + 1) k = rvM H r k) ∧ (H.1 s 0 = 0 → H.1 17 r = -1)
def S_filled (H : ZH) (row i : Int) : Int × Nat := if 0 ≤ row ∧ row ≤ 3 then (if H.1 17 row.toNat ≠ -1 then (if 0 ≤ i ∧ i < H.1 18 row.toNat then (if zmuch (rvM H row.toNat) (H.1 18 row.toNat).toNat = false then ((if zher (rvM H row.toNat) (H.1 18 row.toNat).toNat = 0 then -1 else zfil (rvM H row.toNat) (H.1 18 row.toNat).toNat i.toNat), 6) else (-3, 1)) else (-7, 4)) else (-6, 3)) else (-2, 0)
def S_write (H : ZH) (row i v : Int) : Int × Nat := if 0 ≤ row ∧ row ≤ 3 then (if H.1 17 row.toNat ≠ -1 then (if 0 ≤ i ∧ i < H.1 18 row.toNat then (zcut v (H.1 17 row.toNat), 6) else (-7, 4)) else (-6, 3)) else (-2, 0)
theorem zcut_bd {v so : Int} (h1 : -9223372036854775808 ≤ v) (h2 : v ≤ 9223372036854775807) : -9223372036854775808 ≤ zcut v so ∧ zcut v so ≤ 9223372036854775807 := by
  have a := bm8 v
  have b := bm16 v
  have c := bm32 v
  unfold zcut
  repeat' split
  all_goals omega
def S_numbers (row so n : Int) : Int × Nat := if (0 ≤ row ∧ row ≤ 3) ∧ (0 ≤ so ∧ so ≤ 3) then (if 0 ≤ n ∧ n ≤ 40 then (0, 6) else (-3, 1)) else (-2, 0)

theorem wB_lt0 (H : ZH) (c : Nat) (v : Int) : H = wB H c (fun j => if j < 0 then v else H.2 c j) := by
  unfold wB
  refine Prod.ext rfl ?_
  funext c' k'
  show H.2 c' k' = if c' = c then (if k' < 0 then v else H.2 c k') else H.2 c' k'
  split
  · next q => rw [q, if_neg (Nat.not_lt_zero _)]
  · rfl
theorem wA_lt0 (H : ZH) (c : Nat) (v : Int) : H = wA H c (fun j => if j < 0 then v else H.1 c j) := by
  unfold wA
  refine Prod.ext ?_ rfl
  funext c' k'
  show H.1 c' k' = if c' = c then (if k' < 0 then v else H.1 c k') else H.1 c' k'
  split
  · next q => rw [q, if_neg (Nat.not_lt_zero _)]
  · rfl
theorem wJB_step (H : ZH) (c k : Nat) (v : Int) : wJ (wB H c (fun j => if j < k then v else H.2 c j)) c k v = wB H c (fun j => if j < k + 1 then v else H.2 c j) := by
  unfold wJ wB
  refine Prod.ext rfl ?_
  funext c' k'
  show (if c' = c ∧ k' = k then v else if c' = c then (if k' < k then v else H.2 c k') else H.2 c' k') = if c' = c then (if k' < k + 1 then v else H.2 c k') else H.2 c' k'
  by_cases h1 : c' = c
  · by_cases h2 : k' = k
    · rw [if_pos ⟨h1, h2⟩, if_pos h1, if_pos (by omega)]
    · rw [if_neg (fun q => h2 q.2), if_pos h1, if_pos h1]
      by_cases h3 : k' < k
      · rw [if_pos h3, if_pos (by omega)]
      · rw [if_neg h3, if_neg (by omega)]
  · rw [if_neg (fun q => h1 q.1), if_neg h1, if_neg h1]
theorem wIA_step (H : ZH) (c k : Nat) (v : Int) : wI (wA H c (fun j => if j < k then v else H.1 c j)) c k v = wA H c (fun j => if j < k + 1 then v else H.1 c j) := by
  unfold wI wA
  refine Prod.ext ?_ rfl
  funext c' k'
  show (if c' = c ∧ k' = k then v else if c' = c then (if k' < k then v else H.1 c k') else H.1 c' k') = if c' = c then (if k' < k + 1 then v else H.1 c k') else H.1 c' k'
  by_cases h1 : c' = c
  · by_cases h2 : k' = k
    · rw [if_pos ⟨h1, h2⟩, if_pos h1, if_pos (by omega)]
    · rw [if_neg (fun q => h2 q.2), if_pos h1, if_pos h1]
      by_cases h3 : k' < k
      · rw [if_pos h3, if_pos (by omega)]
      · rw [if_neg h3, if_neg (by omega)]
  · rw [if_neg (fun q => h1 q.1), if_neg h1, if_neg h1]

theorem c_J7_fill_d0a16 {d : Nat} {H : ZH} (ok : okZ H) {c n : Nat} (hn : n ≤ 2000) {v : Int} (v1 : -9223372036854775808 ≤ v) (v2 : v ≤ 9223372036854775807) (sh : zX.1[c]? = some (.inr (1, n))) : EvC zX (d + 1) mJ7_fill_d0a16 [.ref c, .long (zL (v))] (eh H) (zPv (fun (Hz : ZH) => Hz = wB H c (fun k => if k < n then v else H.2 c k))) := by
  show _ ∧ Ev zX mJ7_fill_d0a16 (EvC zX d) (zPv (fun (Hz : ZH) => Hz = wB H c (fun k => if k < n then v else H.2 c k))) 0 [(0, .ref c), (1, .long (zL (v)))] [] (eh H)
  refine ⟨Nat.le_of_ble_eq_true rfl, ?_⟩
  refine z_iconst (pc := 0) dJ7_fill_d0a16_0 ?_
  refine x_istore_n (pc := 1) dJ7_fill_d0a16_1 (Nat.le_of_ble_eq_true rfl) ?_
  show Ev _ _ _ _ _ [(3, .int (zN (0))), (0, .ref c), (1, .long (zL (v)))] _ _
  refine x_aload_n (pc := 2) dJ7_fill_d0a16_2 (List.Mem.tail _ (List.Mem.head _)) ?_
  refine z_alen (pc := 3) dJ7_fill_d0a16_3 sh (by decide) ?_
  refine x_istore (pc := 4) dJ7_fill_d0a16_4 (Nat.le_of_ble_eq_true rfl) ?_
  show Ev _ _ _ _ _ [(4, .int (zN ((n : Int)))), (3, .int (zN (0))), (0, .ref c), (1, .long (zL (v)))] _ _
  have lp6 : ∀ (nF : Nat) (k : Nat) (Hl : ZH), okZ Hl → (k ≤ n) → (Hl = wB H c (fun j => if j < k then v else H.2 c j)) → n - k < nF → Ev zX mJ7_fill_d0a16 (EvC zX d) (zPv (fun (Hz : ZH) => Hz = wB H c (fun k => if k < n then v else H.2 c k))) 6 [(0, .ref c), (1, .long (zL (v))), (3, .int (zN ((k : Int)))), (4, .int (zN ((n : Int))))] [] (eh Hl) := by
    intro nF
    induction nF with
    | zero => intro k Hl okl6 hk eH hm; exact absurd hm (Nat.not_lt_zero _)
    | succ nF ih6 =>
      intro k Hl okl6 hk eH hm
      refine x_iload_n (pc := 6) dJ7_fill_d0a16_6 (List.Mem.tail _ (List.Mem.tail _ (List.Mem.head _))) ?_
      refine x_iload (pc := 7) dJ7_fill_d0a16_7 (List.Mem.tail _ (List.Mem.tail _ (List.Mem.tail _ (List.Mem.head _)))) ?_
      refine z_icmp_ge (pc := 9) (tgt := 22) dJ7_fill_d0a16_9 (by decide) (by omega) (by omega) (by omega) (by omega) (fun hb1 => ?_) (fun hb1 => ?_)
      · skip
        refine z_vreturn (pc := 22) dJ7_fill_d0a16_22 rfl okl6 ?_
        rw [eH, show k = n by omega]
      · skip
        refine x_aload_n (pc := 12) dJ7_fill_d0a16_12 (List.Mem.head _) ?_
        refine x_iload_n (pc := 13) dJ7_fill_d0a16_13 (List.Mem.tail _ (List.Mem.tail _ (List.Mem.head _))) ?_
        refine x_lload_n (pc := 14) dJ7_fill_d0a16_14 (List.Mem.tail _ (List.Mem.head _)) ?_
        refine z_last (pc := 15) (j := k) (v := v) dJ7_fill_d0a16_15 sh rfl (by omega) (by omega) ?_
        have ok2 := okJ okl6 c k (v := v) (by omega) (by omega)
        refine z_iinc (pc := 16) dJ7_fill_d0a16_16 (List.Mem.tail _ (List.Mem.tail _ (List.Mem.head _))) (Nat.le_of_ble_eq_true rfl) ?_
        show Ev _ _ _ _ _ [(3, .int (zN ((k : Int) + 1))), (0, .ref c), (1, .long (zL (v))), (4, .int (zN ((n : Int))))] _ _
        refine x_goto (pc := 19) (tgt := 6) dJ7_fill_d0a16_19 (by decide) ?_
        refine x_weaken (L1 := [(0, .ref c), (1, .long (zL (v))), (3, .int (zN ((((k + 1) : Nat) : Int)))), (4, .int (zN ((n : Int))))]) (List.forall_mem_cons.mpr ⟨(List.Mem.tail _ (List.Mem.head _)), (List.forall_mem_cons.mpr ⟨(List.Mem.tail _ (List.Mem.tail _ (List.Mem.head _))), (List.forall_mem_cons.mpr ⟨(mem_ci (by omega) (List.Mem.head _)), (List.forall_mem_cons.mpr ⟨(List.Mem.tail _ (List.Mem.tail _ (List.Mem.tail _ (List.Mem.head _)))), (fun _ h => absurd h List.not_mem_nil)⟩)⟩)⟩)⟩) ?_
        exact ih6 ((k + 1)) (wJ Hl c k (v)) ok2 (by omega) (by rw [eH]; exact wJB_step H c k v) (by omega)
  refine x_weaken (L1 := [(0, .ref c), (1, .long (zL (v))), (3, .int (zN (((0 : Nat) : Int)))), (4, .int (zN ((n : Int))))]) (List.forall_mem_cons.mpr ⟨(List.Mem.tail _ (List.Mem.tail _ (List.Mem.head _))), (List.forall_mem_cons.mpr ⟨(List.Mem.tail _ (List.Mem.tail _ (List.Mem.tail _ (List.Mem.head _)))), (List.forall_mem_cons.mpr ⟨(mem_ci (by omega) (List.Mem.tail _ (List.Mem.head _))), (List.forall_mem_cons.mpr ⟨(List.Mem.head _), (fun _ h => absurd h List.not_mem_nil)⟩)⟩)⟩)⟩) ?_
  exact lp6 (n - 0 + 1) (0) H ok (by omega) (wB_lt0 H c v) (Nat.lt_succ_self _)

theorem c_J7_fill_53178 {d : Nat} {H : ZH} (ok : okZ H) {c n : Nat} (hn : n ≤ 2000) {v : Int} (v1 : -2147483648 ≤ v) (v2 : v ≤ 2147483647) (sh : zX.1[c]? = some (.inr (0, n))) : EvC zX (d + 1) mJ7_fill_53178 [.ref c, .int (zN (v))] (eh H) (zPv (fun (Hz : ZH) => Hz = wA H c (fun k => if k < n then v else H.1 c k))) := by
  show _ ∧ Ev zX mJ7_fill_53178 (EvC zX d) (zPv (fun (Hz : ZH) => Hz = wA H c (fun k => if k < n then v else H.1 c k))) 0 [(0, .ref c), (1, .int (zN (v)))] [] (eh H)
  refine ⟨Nat.le_of_ble_eq_true rfl, ?_⟩
  refine z_iconst (pc := 0) dJ7_fill_53178_0 ?_
  refine x_istore_n (pc := 1) dJ7_fill_53178_1 (Nat.le_of_ble_eq_true rfl) ?_
  show Ev _ _ _ _ _ [(2, .int (zN (0))), (0, .ref c), (1, .int (zN (v)))] _ _
  refine x_aload_n (pc := 2) dJ7_fill_53178_2 (List.Mem.tail _ (List.Mem.head _)) ?_
  refine z_alen (pc := 3) dJ7_fill_53178_3 sh (by decide) ?_
  refine x_istore_n (pc := 4) dJ7_fill_53178_4 (Nat.le_of_ble_eq_true rfl) ?_
  show Ev _ _ _ _ _ [(3, .int (zN ((n : Int)))), (2, .int (zN (0))), (0, .ref c), (1, .int (zN (v)))] _ _
  have lp5 : ∀ (nF : Nat) (k : Nat) (Hl : ZH), okZ Hl → (k ≤ n) → (Hl = wA H c (fun j => if j < k then v else H.1 c j)) → n - k < nF → Ev zX mJ7_fill_53178 (EvC zX d) (zPv (fun (Hz : ZH) => Hz = wA H c (fun k => if k < n then v else H.1 c k))) 5 [(0, .ref c), (1, .int (zN (v))), (2, .int (zN ((k : Int)))), (3, .int (zN ((n : Int))))] [] (eh Hl) := by
    intro nF
    induction nF with
    | zero => intro k Hl okl5 hk eH hm; exact absurd hm (Nat.not_lt_zero _)
    | succ nF ih5 =>
      intro k Hl okl5 hk eH hm
      refine x_iload_n (pc := 5) dJ7_fill_53178_5 (List.Mem.tail _ (List.Mem.tail _ (List.Mem.head _))) ?_
      refine x_iload_n (pc := 6) dJ7_fill_53178_6 (List.Mem.tail _ (List.Mem.tail _ (List.Mem.tail _ (List.Mem.head _)))) ?_
      refine z_icmp_ge (pc := 7) (tgt := 20) dJ7_fill_53178_7 (by decide) (by omega) (by omega) (by omega) (by omega) (fun hb1 => ?_) (fun hb1 => ?_)
      · skip
        refine z_vreturn (pc := 20) dJ7_fill_53178_20 rfl okl5 ?_
        rw [eH, show k = n by omega]
      · skip
        refine x_aload_n (pc := 10) dJ7_fill_53178_10 (List.Mem.head _) ?_
        refine x_iload_n (pc := 11) dJ7_fill_53178_11 (List.Mem.tail _ (List.Mem.tail _ (List.Mem.head _))) ?_
        refine x_iload_n (pc := 12) dJ7_fill_53178_12 (List.Mem.tail _ (List.Mem.head _)) ?_
        refine z_iast (pc := 13) (j := k) (v := v) dJ7_fill_53178_13 sh rfl (by omega) (by omega) ?_
        have ok2 := okI okl5 c k (v := v) (by omega) (by omega)
        refine z_iinc (pc := 14) dJ7_fill_53178_14 (List.Mem.tail _ (List.Mem.tail _ (List.Mem.head _))) (Nat.le_of_ble_eq_true rfl) ?_
        show Ev _ _ _ _ _ [(2, .int (zN ((k : Int) + 1))), (0, .ref c), (1, .int (zN (v))), (3, .int (zN ((n : Int))))] _ _
        refine x_goto (pc := 17) (tgt := 5) dJ7_fill_53178_17 (by decide) ?_
        refine x_weaken (L1 := [(0, .ref c), (1, .int (zN (v))), (2, .int (zN ((((k + 1) : Nat) : Int)))), (3, .int (zN ((n : Int))))]) (List.forall_mem_cons.mpr ⟨(List.Mem.tail _ (List.Mem.head _)), (List.forall_mem_cons.mpr ⟨(List.Mem.tail _ (List.Mem.tail _ (List.Mem.head _))), (List.forall_mem_cons.mpr ⟨(mem_ci (by omega) (List.Mem.head _)), (List.forall_mem_cons.mpr ⟨(List.Mem.tail _ (List.Mem.tail _ (List.Mem.tail _ (List.Mem.head _)))), (fun _ h => absurd h List.not_mem_nil)⟩)⟩)⟩)⟩) ?_
        exact ih5 ((k + 1)) (wI Hl c k (v)) ok2 (by omega) (by rw [eH]; exact wIA_step H c k v) (by omega)
  refine x_weaken (L1 := [(0, .ref c), (1, .int (zN (v))), (2, .int (zN (((0 : Nat) : Int)))), (3, .int (zN ((n : Int))))]) (List.forall_mem_cons.mpr ⟨(List.Mem.tail _ (List.Mem.tail _ (List.Mem.head _))), (List.forall_mem_cons.mpr ⟨(List.Mem.tail _ (List.Mem.tail _ (List.Mem.tail _ (List.Mem.head _)))), (List.forall_mem_cons.mpr ⟨(mem_ci (by omega) (List.Mem.tail _ (List.Mem.head _))), (List.forall_mem_cons.mpr ⟨(List.Mem.head _), (fun _ h => absurd h List.not_mem_nil)⟩)⟩)⟩)⟩) ?_
  exact lp5 (n - 0 + 1) (0) H ok (by omega) (wA_lt0 H c v) (Nat.lt_succ_self _)

theorem c_X10_isRow {d : Nat} {H : ZH} (ok : okZ H) {row : Int} (row1 : -2147483648 ≤ row) (row2 : row ≤ 2147483647) : EvC zX (d + 1) mX10_isRow [.int (zN (row))] (eh H) (zPi (fun (rz : Int) (Hz : ZH) => rz = (if 0 ≤ row ∧ row ≤ 3 then 1 else 0) ∧ Hz = H)) := by
  show _ ∧ Ev zX mX10_isRow (EvC zX d) (zPi (fun (rz : Int) (Hz : ZH) => rz = (if 0 ≤ row ∧ row ≤ 3 then 1 else 0) ∧ Hz = H)) 0 [(0, .int (zN (row)))] [] (eh H)
  refine ⟨Nat.le_of_ble_eq_true rfl, ?_⟩
  refine x_iload_n (pc := 0) dX10_isRow_0 (List.Mem.head _) ?_
  refine z_if_lt (pc := 1) (tgt := 13) dX10_isRow_1 (by decide) (by omega) (by omega) (fun hb1 => ?_) (fun hb1 => ?_)
  · skip
    refine z_iconst (pc := 13) dX10_isRow_13 ?_
    refine z_ireturn (pc := 14) dX10_isRow_14 rfl (Or.inr ⟨rfl, by omega⟩) ok (by decide) (by decide) ?_
    exact ⟨by first | rfl | omega | simp_all, rfl⟩
  · skip
    refine x_iload_n (pc := 4) dX10_isRow_4 (List.Mem.head _) ?_
    refine z_iconst (pc := 5) dX10_isRow_5 ?_
    refine z_icmp_ge (pc := 6) (tgt := 13) dX10_isRow_6 (by decide) (by omega) (by omega) (by decide) (by decide) (fun hb2 => ?_) (fun hb2 => ?_)
    · skip
      refine z_iconst (pc := 13) dX10_isRow_13 ?_
      refine z_ireturn (pc := 14) dX10_isRow_14 rfl (Or.inr ⟨rfl, by omega⟩) ok (by decide) (by decide) ?_
      exact ⟨by first | rfl | omega | simp_all, rfl⟩
    · skip
      refine z_iconst (pc := 9) dX10_isRow_9 ?_
      refine x_goto (pc := 10) (tgt := 14) dX10_isRow_10 (by decide) ?_
      refine z_ireturn (pc := 14) dX10_isRow_14 rfl (Or.inr ⟨rfl, by omega⟩) ok (by decide) (by decide) ?_
      exact ⟨by first | rfl | omega | simp_all, rfl⟩

theorem c_X10_filled {d : Nat} {H : ZH} (ok : okZ H) {row i : Int} (row1 : -2147483648 ≤ row) (row2 : row ≤ 2147483647) (i1 : -2147483648 ≤ i) (i2 : i ≤ 2147483647) (cn : cntOK H 25) (rr : RepR H) (rm : rmOK H) : EvC zX (d + 2) mX10_filled [.ref 20, .int (zN (row)), .int (zN (i))] (eh H) (zPi (fun (r : Int) (H1 : ZH) => r = (S_filled H row i).1 ∧ H1 = bumpC (S_filled H row i).2 H)) := by
  show _ ∧ Ev zX mX10_filled (EvC zX (d + 1)) (zPi (fun (r : Int) (H1 : ZH) => r = (S_filled H row i).1 ∧ H1 = bumpC (S_filled H row i).2 H)) 0 [(0, .ref 20), (1, .int (zN (row))), (2, .int (zN (i)))] [] (eh H)
  refine ⟨Nat.le_of_ble_eq_true rfl, ?_⟩
  refine x_iload_n (pc := 0) dX10_filled_0 (List.Mem.tail _ (List.Mem.head _)) ?_
  refine z_callSbp (pc := 1) (i := mX10_isRow) (S := []) [.int (zN (row))] dX10_filled_1 ml_X10_389 ok_X10_isRow rfl (Or.inr rfl) (Nat.le_of_ble_eq_true rfl) (c_X10_isRow (d := d) (row := row) (row1 := (by omega)) (row2 := (by omega)) (ok := ok)) (fun hc3 ok2 => ?_) (fun hc3 ok2 => ?_)
  · skip
    refine z_if_ne (pc := 4) (tgt := 14) dX10_filled_4 (by decide) (by decide) (by decide) (fun _ => ?_) (fun h => absurd h (by decide))
    obtain ⟨s, es0, es, hs, hr⟩ : ∃ s, s = 125 + 2 * row.toNat ∧ zX.2 27 row.toNat = s ∧ isRw s ∧ row.toNat < 4 := ⟨125 + 2 * row.toNat, rfl, rf_27 (by omega), isRw_at (by omega), by omega⟩
    obtain ⟨rw, rq1, rq0⟩ := rr row.toNat hr s es0
    have rwc := rw
    obtain ⟨rwA, rwB, rwC⟩ := rwc
    refine x_aload_n (pc := 14) dX10_filled_14 (List.Mem.head _) ?_
    refine z_getR (pc := 15) (k := 13) (r := 27) dX10_filled_15 lf_X10_81 sh_20 rfl rf_20_13 ?_
    refine x_iload_n (pc := 18) dX10_filled_18 (List.Mem.tail _ (List.Mem.head _)) ?_
    refine z_aald4 (pc := 19) (j := row.toNat) (r := s) dX10_filled_19 sh_27 (by omega) (by omega) (by decide) es ?_
    have rd5 := ok2.1 s 0
    refine z_getI (pc := 20) (k := 0) (v := H.1 s 0) dX10_filled_20 lf_X10_392 (sh_Rw0 hs) rfl rfl ?_
    refine z_if_ne (pc := 23) (tgt := 33) dX10_filled_23 (by decide) (by omega) (by omega) (fun hb6 => ?_) (fun hb6 => ?_)
    · skip
      obtain ⟨t1, t2, t3, t4⟩ := rq1 (by omega)
      have zmcg := zmuch_cg t4
      have zfcg : ∀ i : Nat, i < (H.1 s 2).toNat → zfil (H.2 (s + 1)) (H.1 s 2).toNat i = zfil (rvM H row.toNat) (H.1 s 2).toNat i := fun i hi => zfil_cg t4 hi
      refine x_iload_n (pc := 33) dX10_filled_33 (List.Mem.tail _ (List.Mem.tail _ (List.Mem.head _))) ?_
      refine z_if_lt (pc := 34) (tgt := 50) dX10_filled_34 (by decide) (by omega) (by omega) (fun hb7 => ?_) (fun hb7 => ?_)
      · skip
        refine x_aload_n (pc := 50) dX10_filled_50 (List.Mem.head _) ?_
        refine z_bipush (pc := 51) dX10_filled_51 bp_m7 ?_
        refine z_callVip (pc := 53) (i := mX10_refuse) (S := []) [.int (zN ((-7)))] dX10_filled_53 ml_X10_97 ok_X10_refuse rfl sh_20 rfl (Or.inl rfl) (Nat.le_of_ble_eq_true rfl) (c_X10_refuse (d := d) (code := ((-7))) (code1 := (by omega)) (code2 := (by omega)) (ok := ok2) (cn := (by first | assumption | omega))) (fun r8a r8b ok9 => ?_)
        show Ev _ _ _ _ _ _ _ (eh (wI H 25 ((refIx ((-7)))) (H.1 25 (refIx ((-7))) + 1)))
        refine z_ireturn (pc := 56) dX10_filled_56 rfl (Or.inl rfl) ok9 (by omega) (by omega) ?_
        have e : S_filled H row i = (-7, 4) := by unfold S_filled; rw [if_pos (by omega), if_pos (by omega), if_neg (by omega)]
        rw [e]
        exact ⟨rfl, rfl⟩
      · skip
        refine x_iload_n (pc := 37) dX10_filled_37 (List.Mem.tail _ (List.Mem.tail _ (List.Mem.head _))) ?_
        refine x_aload_n (pc := 38) dX10_filled_38 (List.Mem.head _) ?_
        refine z_getR (pc := 39) (k := 13) (r := 27) dX10_filled_39 lf_X10_81 sh_20 rfl rf_20_13 ?_
        refine x_iload_n (pc := 42) dX10_filled_42 (List.Mem.tail _ (List.Mem.head _)) ?_
        refine z_aald4 (pc := 43) (j := row.toNat) (r := s) dX10_filled_43 sh_27 (by omega) (by omega) (by decide) es ?_
        have rd10 := ok2.1 s 2
        refine z_getI (pc := 44) (k := 2) (v := H.1 s 2) dX10_filled_44 lf_X10_400 (sh_Rw0 hs) rfl rfl ?_
        refine z_icmp_lt (pc := 47) (tgt := 57) dX10_filled_47 (by decide) (by omega) (by omega) (by omega) (by omega) (fun hb11 => ?_) (fun hb11 => ?_)
        · skip
          refine x_aload_n (pc := 57) dX10_filled_57 (List.Mem.head _) ?_
          refine z_getR (pc := 58) (k := 13) (r := 27) dX10_filled_58 lf_X10_81 sh_20 rfl rf_20_13 ?_
          refine x_iload_n (pc := 61) dX10_filled_61 (List.Mem.tail _ (List.Mem.head _)) ?_
          refine z_aald4 (pc := 62) (j := row.toNat) (r := s) dX10_filled_62 sh_27 (by omega) (by omega) (by decide) es ?_
          refine z_callVbp (pc := 63) (i := mX5_isBeyondCounts) (S := []) [] dX10_filled_63 ml_X10_425 ok_X5_isBeyondCounts rfl (sh_Rw0 hs) rfl (Or.inr rfl) (Nat.le_of_ble_eq_true rfl) (c_X5_isBeyondCounts (d := d) (s := s) (hs := hs) (ok := ok2) (rw := (by first | assumption | omega))) (fun hc14 ok13 => ?_) (fun hc14 ok13 => ?_)
          · skip
            rw [zmcg, t3] at hc14
            skip
            refine z_if_eq (pc := 66) (tgt := 76) dX10_filled_66 (by decide) (by decide) (by decide) (fun h => absurd h (by decide)) (fun _ => ?_)
            refine x_aload_n (pc := 69) dX10_filled_69 (List.Mem.head _) ?_
            refine z_bipush (pc := 70) dX10_filled_70 bp_m3 ?_
            refine z_callVip (pc := 72) (i := mX10_refuse) (S := []) [.int (zN ((-3)))] dX10_filled_72 ml_X10_97 ok_X10_refuse rfl sh_20 rfl (Or.inl rfl) (Nat.le_of_ble_eq_true rfl) (c_X10_refuse (d := d) (code := ((-3))) (code1 := (by omega)) (code2 := (by omega)) (ok := ok13) (cn := (by first | assumption | omega))) (fun r16a r16b ok17 => ?_)
            show Ev _ _ _ _ _ _ _ (eh (wI H 25 ((refIx ((-3)))) (H.1 25 (refIx ((-3))) + 1)))
            refine z_ireturn (pc := 75) dX10_filled_75 rfl (Or.inl rfl) ok17 (by omega) (by omega) ?_
            have hmt : zmuch (rvM H row.toNat) (H.1 18 row.toNat).toNat = true := by assumption
            have e : S_filled H row i = (-3, 1) := by unfold S_filled; rw [if_pos (by omega), if_pos (by omega), if_pos (by omega), if_neg (by rw [hmt]; decide)]
            rw [e]
            exact ⟨rfl, rfl⟩
          · skip
            rw [zmcg, t3] at hc14
            have hmm := zmuch_f.mp (Bool.eq_false_iff.mpr hc14)
            have hmc := zmuch_f.mp (zmcg.trans (by rw [t3]; exact Bool.eq_false_iff.mpr hc14))
            have hmx := Bool.eq_false_iff.mpr hc14
            skip
            refine z_if_eq (pc := 66) (tgt := 76) dX10_filled_66 (by decide) (by decide) (by decide) (fun _ => ?_) (fun h => absurd h (by decide))
            refine x_aload_n (pc := 76) dX10_filled_76 (List.Mem.head _) ?_
            refine z_getR (pc := 77) (k := 13) (r := 27) dX10_filled_77 lf_X10_81 sh_20 rfl rf_20_13 ?_
            refine x_iload_n (pc := 80) dX10_filled_80 (List.Mem.tail _ (List.Mem.head _)) ?_
            refine z_aald4 (pc := 81) (j := row.toNat) (r := s) dX10_filled_81 sh_27 (by omega) (by omega) (by decide) es ?_
            refine x_iload_n (pc := 82) dX10_filled_82 (List.Mem.tail _ (List.Mem.tail _ (List.Mem.head _))) ?_
            refine z_callVip (pc := 83) (i := mX5_countAt) (S := []) [.int (zN (i))] dX10_filled_83 ml_X10_429 ok_X5_countAt rfl (sh_Rw0 hs) rfl (Or.inl rfl) (Nat.le_of_ble_eq_true rfl) (by have qz := c_X5_countAt (d := d) (s := s) (hs := hs) (i := i.toNat) (hi := (by omega)) (ok := ok13) (rw := (by first | assumption | omega)) (hb := hmc); rw [show ((i.toNat : Nat) : Int) = i by omega] at qz; exact qz) (fun r19a r19b ok20 => ?_)
            refine z_ireturn (pc := 86) dX10_filled_86 rfl (Or.inl rfl) ok20 (by omega) (by omega) ?_
            have e : S_filled H row i = ((if zher (rvM H row.toNat) (H.1 18 row.toNat).toNat = 0 then -1 else zfil (rvM H row.toNat) (H.1 18 row.toNat).toNat i.toNat), 6) := by unfold S_filled; rw [if_pos (by omega), if_pos (by omega), if_pos (by omega), if_pos hmx]
            rw [e]
            refine ⟨?_, rfl⟩
            rw [zfcg i.toNat (by omega), t3]
            by_cases h0 : zher (rvM H row.toNat) (H.1 18 row.toNat).toNat = 0
            · rw [if_pos h0]; exact zfil_none h0 (by omega)
            · rw [if_neg h0]
        · skip
          refine x_aload_n (pc := 50) dX10_filled_50 (List.Mem.head _) ?_
          refine z_bipush (pc := 51) dX10_filled_51 bp_m7 ?_
          refine z_callVip (pc := 53) (i := mX10_refuse) (S := []) [.int (zN ((-7)))] dX10_filled_53 ml_X10_97 ok_X10_refuse rfl sh_20 rfl (Or.inl rfl) (Nat.le_of_ble_eq_true rfl) (c_X10_refuse (d := d) (code := ((-7))) (code1 := (by omega)) (code2 := (by omega)) (ok := ok2) (cn := (by first | assumption | omega))) (fun r21a r21b ok22 => ?_)
          show Ev _ _ _ _ _ _ _ (eh (wI H 25 ((refIx ((-7)))) (H.1 25 (refIx ((-7))) + 1)))
          refine z_ireturn (pc := 56) dX10_filled_56 rfl (Or.inl rfl) ok22 (by omega) (by omega) ?_
          have e : S_filled H row i = (-7, 4) := by unfold S_filled; rw [if_pos (by omega), if_pos (by omega), if_neg (by omega)]
          rw [e]
          exact ⟨rfl, rfl⟩
    · skip
      refine x_aload_n (pc := 26) dX10_filled_26 (List.Mem.head _) ?_
      refine z_bipush (pc := 27) dX10_filled_27 bp_m6 ?_
      refine z_callVip (pc := 29) (i := mX10_refuse) (S := []) [.int (zN ((-6)))] dX10_filled_29 ml_X10_97 ok_X10_refuse rfl sh_20 rfl (Or.inl rfl) (Nat.le_of_ble_eq_true rfl) (c_X10_refuse (d := d) (code := ((-6))) (code1 := (by omega)) (code2 := (by omega)) (ok := ok2) (cn := (by first | assumption | omega))) (fun r23a r23b ok24 => ?_)
      show Ev _ _ _ _ _ _ _ (eh (wI H 25 ((refIx ((-6)))) (H.1 25 (refIx ((-6))) + 1)))
      refine z_ireturn (pc := 32) dX10_filled_32 rfl (Or.inl rfl) ok24 (by omega) (by omega) ?_
      have e : S_filled H row i = (-6, 3) := by unfold S_filled; rw [if_pos (by omega), if_neg (by omega)]
      rw [e]
      exact ⟨rfl, rfl⟩
  · skip
    refine z_if_ne (pc := 4) (tgt := 14) dX10_filled_4 (by decide) (by decide) (by decide) (fun h => absurd h (by decide)) (fun _ => ?_)
    refine x_aload_n (pc := 7) dX10_filled_7 (List.Mem.head _) ?_
    refine z_bipush (pc := 8) dX10_filled_8 bp_m2 ?_
    refine z_callVip (pc := 10) (i := mX10_refuse) (S := []) [.int (zN ((-2)))] dX10_filled_10 ml_X10_97 ok_X10_refuse rfl sh_20 rfl (Or.inl rfl) (Nat.le_of_ble_eq_true rfl) (c_X10_refuse (d := d) (code := ((-2))) (code1 := (by omega)) (code2 := (by omega)) (ok := ok2) (cn := (by first | assumption | omega))) (fun r26a r26b ok27 => ?_)
    show Ev _ _ _ _ _ _ _ (eh (wI H 25 ((refIx ((-2)))) (H.1 25 (refIx ((-2))) + 1)))
    refine z_ireturn (pc := 13) dX10_filled_13 rfl (Or.inl rfl) ok27 (by omega) (by omega) ?_
    have e : S_filled H row i = (-2, 0) := by unfold S_filled; rw [if_neg (by omega)]
    rw [e]
    exact ⟨rfl, rfl⟩

theorem c_X11_filled {d : Nat} {H : ZH} (ok : okZ H) {row i : Int} (row1 : -2147483648 ≤ row) (row2 : row ≤ 2147483647) (i1 : -2147483648 ≤ i) (i2 : i ≤ 2147483647) (cm : cntOK H 1) (th : H.1 0 0 = 0) (rm : rmOK H) : EvC zX (d + 2) mX11_filled [.ref 0, .int (zN (row)), .int (zN (i))] (eh H) (zPi (fun (r : Int) (H1 : ZH) => r = (S_filled H row i).1 ∧ H1 = bumpM (S_filled H row i).2 H)) := by
  show _ ∧ Ev zX mX11_filled (EvC zX (d + 1)) (zPi (fun (r : Int) (H1 : ZH) => r = (S_filled H row i).1 ∧ H1 = bumpM (S_filled H row i).2 H)) 0 [(0, .ref 0), (1, .int (zN (row))), (2, .int (zN (i)))] [] (eh H)
  refine ⟨Nat.le_of_ble_eq_true rfl, ?_⟩
  refine x_aload_n (pc := 0) dX11_filled_0 (List.Mem.head _) ?_
  refine z_iconst (pc := 1) dX11_filled_1 ?_
  refine z_putI (pc := 2) (k := 0) dX11_filled_2 lp_X11_1 sh_0 rfl ?_
  have ok1 := okI ok 0 0 (v := 0) (by decide) (by decide)
  rw [wI_same th]
  refine x_iload_n (pc := 5) dX11_filled_5 (List.Mem.tail _ (List.Mem.head _)) ?_
  refine z_i2l (pc := 6) dX11_filled_6 (by omega) (by omega) ?_
  refine z_lconst (pc := 7) 0 dX11_filled_7 rfl ?_
  refine z_ldc2_w (pc := 8) 3 dX11_filled_8 cl_X11_213 (by decide) ?_
  refine z_callSbp (pc := 11) (i := mX11_within) (S := []) [.long (zL (row)), .long (zL (0)), .long (zL (3))] dX11_filled_11 ml_X11_152 ok_X11_within rfl (Or.inr rfl) (Nat.le_of_ble_eq_true rfl) (c_X11_within (d := d) (v := row) (lo := 0) (hi := 3) (v1 := (by omega)) (v2 := (by omega)) (lo1 := (by omega)) (lo2 := (by omega)) (hi1 := (by omega)) (hi2 := (by omega)) (ok := ok)) (fun hc4 ok3 => ?_) (fun hc4 ok3 => ?_)
  · skip
    refine z_if_ne (pc := 14) (tgt := 24) dX11_filled_14 (by decide) (by decide) (by decide) (fun _ => ?_) (fun h => absurd h (by decide))
    obtain ⟨⟨rmA, rmB⟩, rmC, rmD⟩ := rm row.toNat (by omega)
    have zb := zher_bd (rvM H row.toNat) (H.1 18 row.toNat).toNat
    refine x_aload_n (pc := 24) dX11_filled_24 (List.Mem.head _) ?_
    refine z_getR (pc := 25) (k := 33) (r := 17) dX11_filled_25 lf_X11_73 sh_0 rfl rf_0_33 ?_
    refine x_iload_n (pc := 28) dX11_filled_28 (List.Mem.tail _ (List.Mem.head _)) ?_
    have rd6 := ok3.1 17 row.toNat
    refine z_iald (pc := 29) (j := row.toNat) (v := H.1 17 row.toNat) dX11_filled_29 sh_17 (by omega) (by omega) (by decide) rfl ?_
    refine z_iconst (pc := 30) dX11_filled_30 ?_
    refine z_icmp_ne (pc := 31) (tgt := 41) dX11_filled_31 (by decide) (by omega) (by omega) (by decide) (by decide) (fun hb7 => ?_) (fun hb7 => ?_)
    · skip
      refine x_iload_n (pc := 41) dX11_filled_41 (List.Mem.tail _ (List.Mem.tail _ (List.Mem.head _))) ?_
      refine z_i2l (pc := 42) dX11_filled_42 (by omega) (by omega) ?_
      refine z_lconst (pc := 43) 0 dX11_filled_43 rfl ?_
      refine x_aload_n (pc := 44) dX11_filled_44 (List.Mem.head _) ?_
      refine z_getR (pc := 45) (k := 34) (r := 18) dX11_filled_45 lf_X11_76 sh_0 rfl rf_0_34 ?_
      refine x_iload_n (pc := 48) dX11_filled_48 (List.Mem.tail _ (List.Mem.head _)) ?_
      have rd8 := ok3.1 18 row.toNat
      refine z_iald (pc := 49) (j := row.toNat) (v := H.1 18 row.toNat) dX11_filled_49 sh_18 (by omega) (by omega) (by decide) rfl ?_
      refine z_iconst (pc := 50) dX11_filled_50 ?_
      refine z_isub (pc := 51) dX11_filled_51 ?_
      refine z_i2l (pc := 52) dX11_filled_52 (by omega) (by omega) ?_
      refine z_callSbp (pc := 53) (i := mX11_within) (S := []) [.long (zL (i)), .long (zL (0)), .long (zL (((H.1 18 row.toNat) - 1)))] dX11_filled_53 ml_X11_152 ok_X11_within rfl (Or.inr rfl) (Nat.le_of_ble_eq_true rfl) (c_X11_within (d := d) (v := i) (lo := 0) (hi := (((H.1 18 row.toNat) - 1))) (v1 := (by omega)) (v2 := (by omega)) (lo1 := (by omega)) (lo2 := (by omega)) (hi1 := (by omega)) (hi2 := (by omega)) (ok := ok3)) (fun hc11 ok10 => ?_) (fun hc11 ok10 => ?_)
      · skip
        refine z_if_ne (pc := 56) (tgt := 66) dX11_filled_56 (by decide) (by decide) (by decide) (fun _ => ?_) (fun h => absurd h (by decide))
        refine x_aload_n (pc := 66) dX11_filled_66 (List.Mem.head _) ?_
        refine x_iload_n (pc := 67) dX11_filled_67 (List.Mem.tail _ (List.Mem.head _)) ?_
        refine z_callVbp (pc := 68) (i := mX11_isTooMuch) (S := []) [.int (zN (row))] dX11_filled_68 ml_X11_383 ok_X11_isTooMuch rfl sh_0 rfl (Or.inr rfl) (Nat.le_of_ble_eq_true rfl) (by have qz := c_X11_isTooMuch (d := d) (r := row.toNat) (hr := (by omega)) (ok := ok10) (rm := (by first | assumption | omega)); rw [show ((row.toNat : Nat) : Int) = row by omega] at qz; exact qz) (fun hc15 ok14 => ?_) (fun hc15 ok14 => ?_)
        · skip
          have hmt : zmuch (rvM H row.toNat) (H.1 18 row.toNat).toNat = true := hc15
          refine z_if_eq (pc := 71) (tgt := 81) dX11_filled_71 (by decide) (by decide) (by decide) (fun h => absurd h (by decide)) (fun _ => ?_)
          refine x_aload_n (pc := 74) dX11_filled_74 (List.Mem.head _) ?_
          refine z_bipush (pc := 75) dX11_filled_75 bp_m3 ?_
          refine z_callVip (pc := 77) (i := mX11_no) (S := []) [.int (zN ((-3)))] dX11_filled_77 ml_X11_89 ok_X11_no rfl sh_0 rfl (Or.inl rfl) (Nat.le_of_ble_eq_true rfl) (c_X11_no (d := d) (code := ((-3))) (code1 := (by omega)) (code2 := (by omega)) (ok := ok14) (cn := (by first | assumption | omega))) (fun r17a r17b ok18 => ?_)
          show Ev _ _ _ _ _ _ _ (eh (wI H 1 ((refIx ((-3)))) (H.1 1 (refIx ((-3))) + 1)))
          refine z_ireturn (pc := 80) dX11_filled_80 rfl (Or.inl rfl) ok18 (by omega) (by omega) ?_
          have e : S_filled H row i = (-3, 1) := by unfold S_filled; rw [if_pos (by omega), if_pos (by omega), if_pos (by omega), if_neg (by rw [hmt]; decide)]
          rw [e]
          exact ⟨rfl, rfl⟩
        · skip
          have hmx := Bool.eq_false_iff.mpr hc15
          have hmm := zmuch_f.mp hmx
          refine z_if_eq (pc := 71) (tgt := 81) dX11_filled_71 (by decide) (by decide) (by decide) (fun _ => ?_) (fun h => absurd h (by decide))
          refine x_aload_n (pc := 81) dX11_filled_81 (List.Mem.head _) ?_
          refine x_iload_n (pc := 82) dX11_filled_82 (List.Mem.tail _ (List.Mem.head _)) ?_
          refine z_callVip (pc := 83) (i := mX11_hereIn) (S := []) [.int (zN (row))] dX11_filled_83 ml_X11_386 ok_X11_hereIn rfl sh_0 rfl (Or.inl rfl) (Nat.le_of_ble_eq_true rfl) (by have qz := c_X11_hereIn (d := d) (r := row.toNat) (hr := (by omega)) (ok := ok14) (rm := (by first | assumption | omega)); rw [show ((row.toNat : Nat) : Int) = row by omega] at qz; exact qz) (fun r20a r20b ok21 => ?_)
          refine z_if_ne (pc := 86) (tgt := 93) dX11_filled_86 (by decide) (by omega) (by omega) (fun hb22 => ?_) (fun hb22 => ?_)
          · skip
            refine x_aload_n (pc := 93) dX11_filled_93 (List.Mem.head _) ?_
            refine x_iload_n (pc := 94) dX11_filled_94 (List.Mem.tail _ (List.Mem.head _)) ?_
            refine x_iload_n (pc := 95) dX11_filled_95 (List.Mem.tail _ (List.Mem.tail _ (List.Mem.head _))) ?_
            refine z_callVip (pc := 96) (i := mX11_filledAt) (S := []) [.int (zN (row)), .int (zN (i))] dX11_filled_96 ml_X11_389 ok_X11_filledAt rfl sh_0 rfl (Or.inl rfl) (Nat.le_of_ble_eq_true rfl) (by have qz := c_X11_filledAt (d := d) (r := row.toNat) (hr := (by omega)) (i := i.toNat) (hi := (by omega)) (ok := ok21) (rm := (by first | assumption | omega)) (hb := hmm) (hh := (by omega)); rw [show ((row.toNat : Nat) : Int) = row by omega] at qz; rw [show ((i.toNat : Nat) : Int) = i by omega] at qz; exact qz) (fun r23a r23b ok24 => ?_)
            refine z_ireturn (pc := 99) dX11_filled_99 rfl (Or.inl rfl) ok24 (by omega) (by omega) ?_
            have e : S_filled H row i = ((if zher (rvM H row.toNat) (H.1 18 row.toNat).toNat = 0 then -1 else zfil (rvM H row.toNat) (H.1 18 row.toNat).toNat i.toNat), 6) := by unfold S_filled; rw [if_pos (by omega), if_pos (by omega), if_pos (by omega), if_pos hmx]
            rw [e]
            refine ⟨?_, rfl⟩
            first | exact (if_pos (by omega)).symm | exact (if_neg (by omega)).symm
          · skip
            refine z_iconst (pc := 89) dX11_filled_89 ?_
            refine x_goto (pc := 90) (tgt := 99) dX11_filled_90 (by decide) ?_
            refine z_ireturn (pc := 99) dX11_filled_99 rfl (Or.inl rfl) ok21 (by decide) (by decide) ?_
            have e : S_filled H row i = ((if zher (rvM H row.toNat) (H.1 18 row.toNat).toNat = 0 then -1 else zfil (rvM H row.toNat) (H.1 18 row.toNat).toNat i.toNat), 6) := by unfold S_filled; rw [if_pos (by omega), if_pos (by omega), if_pos (by omega), if_pos hmx]
            rw [e]
            refine ⟨?_, rfl⟩
            first | exact (if_pos (by omega)).symm | exact (if_neg (by omega)).symm
      · skip
        refine z_if_ne (pc := 56) (tgt := 66) dX11_filled_56 (by decide) (by decide) (by decide) (fun h => absurd h (by decide)) (fun _ => ?_)
        refine x_aload_n (pc := 59) dX11_filled_59 (List.Mem.head _) ?_
        refine z_bipush (pc := 60) dX11_filled_60 bp_m7 ?_
        refine z_callVip (pc := 62) (i := mX11_no) (S := []) [.int (zN ((-7)))] dX11_filled_62 ml_X11_89 ok_X11_no rfl sh_0 rfl (Or.inl rfl) (Nat.le_of_ble_eq_true rfl) (c_X11_no (d := d) (code := ((-7))) (code1 := (by omega)) (code2 := (by omega)) (ok := ok10) (cn := (by first | assumption | omega))) (fun r26a r26b ok27 => ?_)
        show Ev _ _ _ _ _ _ _ (eh (wI H 1 ((refIx ((-7)))) (H.1 1 (refIx ((-7))) + 1)))
        refine z_ireturn (pc := 65) dX11_filled_65 rfl (Or.inl rfl) ok27 (by omega) (by omega) ?_
        have e : S_filled H row i = (-7, 4) := by unfold S_filled; rw [if_pos (by omega), if_pos (by omega), if_neg (by omega)]
        rw [e]
        exact ⟨rfl, rfl⟩
    · skip
      refine x_aload_n (pc := 34) dX11_filled_34 (List.Mem.head _) ?_
      refine z_bipush (pc := 35) dX11_filled_35 bp_m6 ?_
      refine z_callVip (pc := 37) (i := mX11_no) (S := []) [.int (zN ((-6)))] dX11_filled_37 ml_X11_89 ok_X11_no rfl sh_0 rfl (Or.inl rfl) (Nat.le_of_ble_eq_true rfl) (c_X11_no (d := d) (code := ((-6))) (code1 := (by omega)) (code2 := (by omega)) (ok := ok3) (cn := (by first | assumption | omega))) (fun r28a r28b ok29 => ?_)
      show Ev _ _ _ _ _ _ _ (eh (wI H 1 ((refIx ((-6)))) (H.1 1 (refIx ((-6))) + 1)))
      refine z_ireturn (pc := 40) dX11_filled_40 rfl (Or.inl rfl) ok29 (by omega) (by omega) ?_
      have e : S_filled H row i = (-6, 3) := by unfold S_filled; rw [if_pos (by omega), if_neg (by omega)]
      rw [e]
      exact ⟨rfl, rfl⟩
  · skip
    refine z_if_ne (pc := 14) (tgt := 24) dX11_filled_14 (by decide) (by decide) (by decide) (fun h => absurd h (by decide)) (fun _ => ?_)
    refine x_aload_n (pc := 17) dX11_filled_17 (List.Mem.head _) ?_
    refine z_bipush (pc := 18) dX11_filled_18 bp_m2 ?_
    refine z_callVip (pc := 20) (i := mX11_no) (S := []) [.int (zN ((-2)))] dX11_filled_20 ml_X11_89 ok_X11_no rfl sh_0 rfl (Or.inl rfl) (Nat.le_of_ble_eq_true rfl) (c_X11_no (d := d) (code := ((-2))) (code1 := (by omega)) (code2 := (by omega)) (ok := ok3) (cn := (by first | assumption | omega))) (fun r31a r31b ok32 => ?_)
    show Ev _ _ _ _ _ _ _ (eh (wI H 1 ((refIx ((-2)))) (H.1 1 (refIx ((-2))) + 1)))
    refine z_ireturn (pc := 23) dX11_filled_23 rfl (Or.inl rfl) ok32 (by omega) (by omega) ?_
    have e : S_filled H row i = (-2, 0) := by unfold S_filled; rw [if_neg (by omega)]
    rw [e]
    exact ⟨rfl, rfl⟩

theorem wB_zero (H : ZH) (b : Nat) (c : Nat) : wB H c (fun j => if b ≤ j ∧ j < b + 0 then 0 else H.2 c j) = H := by
  unfold wB
  refine Prod.ext rfl ?_
  funext c' k'
  show (if c' = c then (if b ≤ k' ∧ k' < b + 0 then 0 else H.2 c k') else H.2 c' k') = H.2 c' k'
  split
  · next q => rw [q, if_neg (by omega)]
  · rfl
theorem wB_grow (H : ZH) (b c k : Nat) : wJ (wB H c (fun j => if b ≤ j ∧ j < b + k then 0 else H.2 c j)) c (b + k) 0 = wB H c (fun j => if b ≤ j ∧ j < b + (k + 1) then 0 else H.2 c j) := by
  unfold wJ wB
  refine Prod.ext rfl ?_
  funext c' k'
  show (if c' = c ∧ k' = b + k then 0 else if c' = c then (if b ≤ k' ∧ k' < b + k then 0 else H.2 c k') else H.2 c' k') = if c' = c then (if b ≤ k' ∧ k' < b + (k + 1) then 0 else H.2 c k') else H.2 c' k'
  by_cases h1 : c' = c
  · by_cases h2 : k' = b + k
    · rw [if_pos ⟨h1, h2⟩, if_pos h1, if_pos (by omega)]
    · rw [if_neg (fun q => h2 q.2), if_pos h1, if_pos h1]
      by_cases h3 : b ≤ k' ∧ k' < b + k
      · rw [if_pos h3, if_pos (by omega)]
      · rw [if_neg h3, if_neg (by omega)]
  · rw [if_neg (fun q => h1 q.1), if_neg h1, if_neg h1]

theorem c_X10_numbers {d : Nat} {H : ZH} (ok : okZ H) {row so n : Int} (row1 : -2147483648 ≤ row) (row2 : row ≤ 2147483647) (so1 : -2147483648 ≤ so) (so2 : so ≤ 2147483647) (n1 : -2147483648 ≤ n) (n2 : n ≤ 2147483647) (cn : cntOK H 25) (rr : RepR H) : EvC zX (d + 2) mX10_numbers [.ref 20, .int (zN (row)), .int (zN (so)), .int (zN (n))] (eh H) (zPi (fun (r : Int) (H1 : ZH) => r = (S_numbers row so n).1 ∧ H1 = if (S_numbers row so n).2 = 6 then (wB (wI (wI (wI H (125 + 2 * row.toNat) 0 1) (125 + 2 * row.toNat) 1 so) (125 + 2 * row.toNat) 2 n) (125 + 2 * row.toNat + 1) (fun k => if k < 40 then 0 else H.2 (125 + 2 * row.toNat + 1) k)) else bumpC (S_numbers row so n).2 H)) := by
  show _ ∧ Ev zX mX10_numbers (EvC zX (d + 1)) (zPi (fun (r : Int) (H1 : ZH) => r = (S_numbers row so n).1 ∧ H1 = if (S_numbers row so n).2 = 6 then (wB (wI (wI (wI H (125 + 2 * row.toNat) 0 1) (125 + 2 * row.toNat) 1 so) (125 + 2 * row.toNat) 2 n) (125 + 2 * row.toNat + 1) (fun k => if k < 40 then 0 else H.2 (125 + 2 * row.toNat + 1) k)) else bumpC (S_numbers row so n).2 H)) 0 [(0, .ref 20), (1, .int (zN (row))), (2, .int (zN (so))), (3, .int (zN (n)))] [] (eh H)
  refine ⟨Nat.le_of_ble_eq_true rfl, ?_⟩
  refine x_iload_n (pc := 0) dX10_numbers_0 (List.Mem.tail _ (List.Mem.head _)) ?_
  refine z_callSbp (pc := 1) (i := mX10_isRow) (S := []) [.int (zN (row))] dX10_numbers_1 ml_X10_389 ok_X10_isRow rfl (Or.inr rfl) (Nat.le_of_ble_eq_true rfl) (c_X10_isRow (d := d) (row := row) (row1 := (by omega)) (row2 := (by omega)) (ok := ok)) (fun hc3 ok2 => ?_) (fun hc3 ok2 => ?_)
  · skip
    refine z_if_eq (pc := 4) (tgt := 16) dX10_numbers_4 (by decide) (by decide) (by decide) (fun h => absurd h (by decide)) (fun _ => ?_)
    refine x_iload_n (pc := 7) dX10_numbers_7 (List.Mem.tail _ (List.Mem.tail _ (List.Mem.head _))) ?_
    refine z_if_lt (pc := 8) (tgt := 16) dX10_numbers_8 (by decide) (by omega) (by omega) (fun hb5 => ?_) (fun hb5 => ?_)
    · skip
      refine x_aload_n (pc := 16) dX10_numbers_16 (List.Mem.head _) ?_
      refine z_bipush (pc := 17) dX10_numbers_17 bp_m2 ?_
      refine z_callVip (pc := 19) (i := mX10_refuse) (S := []) [.int (zN ((-2)))] dX10_numbers_19 ml_X10_97 ok_X10_refuse rfl sh_20 rfl (Or.inl rfl) (Nat.le_of_ble_eq_true rfl) (c_X10_refuse (d := d) (code := ((-2))) (code1 := (by omega)) (code2 := (by omega)) (ok := ok2) (cn := (by first | assumption | omega))) (fun r6a r6b ok7 => ?_)
      show Ev _ _ _ _ _ _ _ (eh (wI H 25 ((refIx ((-2)))) (H.1 25 (refIx ((-2))) + 1)))
      refine z_ireturn (pc := 22) dX10_numbers_22 rfl (Or.inl rfl) ok7 (by omega) (by omega) ?_
      have e : S_numbers row so n = (-2, 0) := by unfold S_numbers; rw [if_neg (by omega)]
      rw [e]
      exact ⟨rfl, rfl⟩
    · skip
      refine x_iload_n (pc := 11) dX10_numbers_11 (List.Mem.tail _ (List.Mem.tail _ (List.Mem.head _))) ?_
      refine z_iconst (pc := 12) dX10_numbers_12 ?_
      refine z_icmp_le (pc := 13) (tgt := 23) dX10_numbers_13 (by decide) (by omega) (by omega) (by decide) (by decide) (fun hb8 => ?_) (fun hb8 => ?_)
      · skip
        refine x_iload_n (pc := 23) dX10_numbers_23 (List.Mem.tail _ (List.Mem.tail _ (List.Mem.tail _ (List.Mem.head _)))) ?_
        refine z_bipush (pc := 24) dX10_numbers_24 bp_40 ?_
        refine z_callSbp (pc := 26) (i := mX10_isWithin) (S := []) [.int (zN (n)), .int (zN (40))] dX10_numbers_26 ml_X10_302 ok_X10_isWithin rfl (Or.inr rfl) (Nat.le_of_ble_eq_true rfl) (c_X10_isWithin (d := d) (v := n) (hi := 40) (v1 := (by omega)) (v2 := (by omega)) (hi1 := (by omega)) (hi2 := (by omega)) (ok := ok2)) (fun hc11 ok10 => ?_) (fun hc11 ok10 => ?_)
        · skip
          refine z_if_ne (pc := 29) (tgt := 39) dX10_numbers_29 (by decide) (by decide) (by decide) (fun _ => ?_) (fun h => absurd h (by decide))
          obtain ⟨s, es0, es, hs, hr⟩ : ∃ s, s = 125 + 2 * row.toNat ∧ zX.2 27 row.toNat = s ∧ isRw s ∧ row.toNat < 4 := ⟨125 + 2 * row.toNat, rfl, rf_27 (by omega), isRw_at (by omega), by omega⟩
          obtain ⟨rw, rq1, rq0⟩ := rr row.toNat hr s es0
          have rwc := rw
          obtain ⟨rwA, rwB, rwC⟩ := rwc
          refine x_aload_n (pc := 39) dX10_numbers_39 (List.Mem.head _) ?_
          refine z_getR (pc := 40) (k := 13) (r := 27) dX10_numbers_40 lf_X10_81 sh_20 rfl rf_20_13 ?_
          refine x_iload_n (pc := 43) dX10_numbers_43 (List.Mem.tail _ (List.Mem.head _)) ?_
          refine z_aald4 (pc := 44) (j := row.toNat) (r := s) dX10_numbers_44 sh_27 (by omega) (by omega) (by decide) es ?_
          refine z_iconst (pc := 45) dX10_numbers_45 ?_
          refine z_putZ (pc := 46) (k := 0) dX10_numbers_46 lp_X10_392 (sh_Rw0 hs) rfl (by omega) ?_
          have ok13 := okI ok10 s 0 (v := 1) (by decide) (by decide)
          refine x_aload_n (pc := 49) dX10_numbers_49 (List.Mem.head _) ?_
          refine z_getR (pc := 50) (k := 13) (r := 27) dX10_numbers_50 lf_X10_81 sh_20 rfl rf_20_13 ?_
          refine x_iload_n (pc := 53) dX10_numbers_53 (List.Mem.tail _ (List.Mem.head _)) ?_
          refine z_aald4 (pc := 54) (j := row.toNat) (r := s) dX10_numbers_54 sh_27 (by omega) (by omega) (by decide) es ?_
          refine x_iload_n (pc := 55) dX10_numbers_55 (List.Mem.tail _ (List.Mem.tail _ (List.Mem.head _))) ?_
          refine z_putI (pc := 56) (k := 1) dX10_numbers_56 lp_X10_442 (sh_Rw0 hs) rfl ?_
          have ok14 := okI ok13 s 1 (v := so) (by omega) (by omega)
          refine x_aload_n (pc := 59) dX10_numbers_59 (List.Mem.head _) ?_
          refine z_getR (pc := 60) (k := 13) (r := 27) dX10_numbers_60 lf_X10_81 sh_20 rfl rf_20_13 ?_
          refine x_iload_n (pc := 63) dX10_numbers_63 (List.Mem.tail _ (List.Mem.head _)) ?_
          refine z_aald4 (pc := 64) (j := row.toNat) (r := s) dX10_numbers_64 sh_27 (by omega) (by omega) (by decide) es ?_
          refine x_iload_n (pc := 65) dX10_numbers_65 (List.Mem.tail _ (List.Mem.tail _ (List.Mem.tail _ (List.Mem.head _)))) ?_
          refine z_putI (pc := 66) (k := 2) dX10_numbers_66 lp_X10_400 (sh_Rw0 hs) rfl ?_
          have ok15 := okI ok14 s 2 (v := n) (by omega) (by omega)
          refine x_aload_n (pc := 69) dX10_numbers_69 (List.Mem.head _) ?_
          refine z_getR (pc := 70) (k := 13) (r := 27) dX10_numbers_70 lf_X10_81 sh_20 rfl rf_20_13 ?_
          refine x_iload_n (pc := 73) dX10_numbers_73 (List.Mem.tail _ (List.Mem.head _)) ?_
          refine z_aald4 (pc := 74) (j := row.toNat) (r := s) dX10_numbers_74 sh_27 (by omega) (by omega) (by decide) es ?_
          refine z_getR (pc := 75) (k := 3) (r := (s + 1)) dX10_numbers_75 lf_X10_401 (sh_Rw0 hs) rfl (rf_Rw_3 hs) ?_
          refine z_lconst (pc := 78) 0 dX10_numbers_78 rfl ?_
          refine z_callSvp (pc := 79) (i := mJ7_fill_d0a16) (S := []) [.ref (s + 1), .long (zL (0))] dX10_numbers_79 ml_X10_245 ok_J7_fill_d0a16 rfl rfl (Nat.le_of_ble_eq_true rfl) (c_J7_fill_d0a16 (d := d) (c := (s + 1)) (n := 40) (hn := (by omega)) (v := 0) (v1 := (by omega)) (v2 := (by omega)) (ok := ok15) (sh := (sh_Rw1 hs))) (fun ok17 => ?_)
          refine z_iconst (pc := 82) dX10_numbers_82 ?_
          refine z_ireturn (pc := 83) dX10_numbers_83 rfl (Or.inl rfl) ok17 (by decide) (by decide) ?_
          have e : S_numbers row so n = (0, 6) := by unfold S_numbers; rw [if_pos (by omega), if_pos (by omega)]
          rw [e]
          subst es0
          exact ⟨rfl, rfl⟩
        · skip
          refine z_if_ne (pc := 29) (tgt := 39) dX10_numbers_29 (by decide) (by decide) (by decide) (fun h => absurd h (by decide)) (fun _ => ?_)
          refine x_aload_n (pc := 32) dX10_numbers_32 (List.Mem.head _) ?_
          refine z_bipush (pc := 33) dX10_numbers_33 bp_m3 ?_
          refine z_callVip (pc := 35) (i := mX10_refuse) (S := []) [.int (zN ((-3)))] dX10_numbers_35 ml_X10_97 ok_X10_refuse rfl sh_20 rfl (Or.inl rfl) (Nat.le_of_ble_eq_true rfl) (c_X10_refuse (d := d) (code := ((-3))) (code1 := (by omega)) (code2 := (by omega)) (ok := ok10) (cn := (by first | assumption | omega))) (fun r19a r19b ok20 => ?_)
          show Ev _ _ _ _ _ _ _ (eh (wI H 25 ((refIx ((-3)))) (H.1 25 (refIx ((-3))) + 1)))
          refine z_ireturn (pc := 38) dX10_numbers_38 rfl (Or.inl rfl) ok20 (by omega) (by omega) ?_
          have e : S_numbers row so n = (-3, 1) := by unfold S_numbers; rw [if_pos (by omega), if_neg (by omega)]
          rw [e]
          exact ⟨rfl, rfl⟩
      · skip
        refine x_aload_n (pc := 16) dX10_numbers_16 (List.Mem.head _) ?_
        refine z_bipush (pc := 17) dX10_numbers_17 bp_m2 ?_
        refine z_callVip (pc := 19) (i := mX10_refuse) (S := []) [.int (zN ((-2)))] dX10_numbers_19 ml_X10_97 ok_X10_refuse rfl sh_20 rfl (Or.inl rfl) (Nat.le_of_ble_eq_true rfl) (c_X10_refuse (d := d) (code := ((-2))) (code1 := (by omega)) (code2 := (by omega)) (ok := ok2) (cn := (by first | assumption | omega))) (fun r21a r21b ok22 => ?_)
        show Ev _ _ _ _ _ _ _ (eh (wI H 25 ((refIx ((-2)))) (H.1 25 (refIx ((-2))) + 1)))
        refine z_ireturn (pc := 22) dX10_numbers_22 rfl (Or.inl rfl) ok22 (by omega) (by omega) ?_
        have e : S_numbers row so n = (-2, 0) := by unfold S_numbers; rw [if_neg (by omega)]
        rw [e]
        exact ⟨rfl, rfl⟩
  · skip
    refine z_if_eq (pc := 4) (tgt := 16) dX10_numbers_4 (by decide) (by decide) (by decide) (fun _ => ?_) (fun h => absurd h (by decide))
    refine x_aload_n (pc := 16) dX10_numbers_16 (List.Mem.head _) ?_
    refine z_bipush (pc := 17) dX10_numbers_17 bp_m2 ?_
    refine z_callVip (pc := 19) (i := mX10_refuse) (S := []) [.int (zN ((-2)))] dX10_numbers_19 ml_X10_97 ok_X10_refuse rfl sh_20 rfl (Or.inl rfl) (Nat.le_of_ble_eq_true rfl) (c_X10_refuse (d := d) (code := ((-2))) (code1 := (by omega)) (code2 := (by omega)) (ok := ok2) (cn := (by first | assumption | omega))) (fun r24a r24b ok25 => ?_)
    show Ev _ _ _ _ _ _ _ (eh (wI H 25 ((refIx ((-2)))) (H.1 25 (refIx ((-2))) + 1)))
    refine z_ireturn (pc := 22) dX10_numbers_22 rfl (Or.inl rfl) ok25 (by omega) (by omega) ?_
    have e : S_numbers row so n = (-2, 0) := by unfold S_numbers; rw [if_neg (by omega)]
    rw [e]
    exact ⟨rfl, rfl⟩

theorem c_X11_numbers {d : Nat} {H : ZH} (ok : okZ H) {row so n : Int} (row1 : -2147483648 ≤ row) (row2 : row ≤ 2147483647) (so1 : -2147483648 ≤ so) (so2 : so ≤ 2147483647) (n1 : -2147483648 ≤ n) (n2 : n ≤ 2147483647) (cm : cntOK H 1) (th : H.1 0 0 = 0) : EvC zX (d + 2) mX11_numbers [.ref 0, .int (zN (row)), .int (zN (so)), .int (zN (n))] (eh H) (zPi (fun (r : Int) (H1 : ZH) => r = (S_numbers row so n).1 ∧ H1 = if (S_numbers row so n).2 = 6 then (wB (wI (wI H 17 row.toNat so) 18 row.toNat n) 19 (fun k => if 40 * row.toNat ≤ k ∧ k < 40 * row.toNat + n.toNat then 0 else H.2 19 k)) else bumpM (S_numbers row so n).2 H)) := by
  show _ ∧ Ev zX mX11_numbers (EvC zX (d + 1)) (zPi (fun (r : Int) (H1 : ZH) => r = (S_numbers row so n).1 ∧ H1 = if (S_numbers row so n).2 = 6 then (wB (wI (wI H 17 row.toNat so) 18 row.toNat n) 19 (fun k => if 40 * row.toNat ≤ k ∧ k < 40 * row.toNat + n.toNat then 0 else H.2 19 k)) else bumpM (S_numbers row so n).2 H)) 0 [(0, .ref 0), (1, .int (zN (row))), (2, .int (zN (so))), (3, .int (zN (n)))] [] (eh H)
  refine ⟨Nat.le_of_ble_eq_true rfl, ?_⟩
  refine x_aload_n (pc := 0) dX11_numbers_0 (List.Mem.head _) ?_
  refine z_iconst (pc := 1) dX11_numbers_1 ?_
  refine z_putI (pc := 2) (k := 0) dX11_numbers_2 lp_X11_1 sh_0 rfl ?_
  have ok1 := okI ok 0 0 (v := 0) (by decide) (by decide)
  rw [wI_same th]
  refine x_iload_n (pc := 5) dX11_numbers_5 (List.Mem.tail _ (List.Mem.head _)) ?_
  refine z_i2l (pc := 6) dX11_numbers_6 (by omega) (by omega) ?_
  refine z_lconst (pc := 7) 0 dX11_numbers_7 rfl ?_
  refine z_ldc2_w (pc := 8) 3 dX11_numbers_8 cl_X11_213 (by decide) ?_
  refine z_callSbp (pc := 11) (i := mX11_within) (S := []) [.long (zL (row)), .long (zL (0)), .long (zL (3))] dX11_numbers_11 ml_X11_152 ok_X11_within rfl (Or.inr rfl) (Nat.le_of_ble_eq_true rfl) (c_X11_within (d := d) (v := row) (lo := 0) (hi := 3) (v1 := (by omega)) (v2 := (by omega)) (lo1 := (by omega)) (lo2 := (by omega)) (hi1 := (by omega)) (hi2 := (by omega)) (ok := ok)) (fun hc4 ok3 => ?_) (fun hc4 ok3 => ?_)
  · skip
    refine z_if_eq (pc := 14) (tgt := 29) dX11_numbers_14 (by decide) (by decide) (by decide) (fun h => absurd h (by decide)) (fun _ => ?_)
    refine x_iload_n (pc := 17) dX11_numbers_17 (List.Mem.tail _ (List.Mem.tail _ (List.Mem.head _))) ?_
    refine z_i2l (pc := 18) dX11_numbers_18 (by omega) (by omega) ?_
    refine z_lconst (pc := 19) 0 dX11_numbers_19 rfl ?_
    refine z_ldc2_w (pc := 20) 3 dX11_numbers_20 cl_X11_213 (by decide) ?_
    refine z_callSbp (pc := 23) (i := mX11_within) (S := []) [.long (zL (so)), .long (zL (0)), .long (zL (3))] dX11_numbers_23 ml_X11_152 ok_X11_within rfl (Or.inr rfl) (Nat.le_of_ble_eq_true rfl) (c_X11_within (d := d) (v := so) (lo := 0) (hi := 3) (v1 := (by omega)) (v2 := (by omega)) (lo1 := (by omega)) (lo2 := (by omega)) (hi1 := (by omega)) (hi2 := (by omega)) (ok := ok3)) (fun hc8 ok7 => ?_) (fun hc8 ok7 => ?_)
    · skip
      refine z_if_ne (pc := 26) (tgt := 36) dX11_numbers_26 (by decide) (by decide) (by decide) (fun _ => ?_) (fun h => absurd h (by decide))
      refine x_iload_n (pc := 36) dX11_numbers_36 (List.Mem.tail _ (List.Mem.tail _ (List.Mem.tail _ (List.Mem.head _)))) ?_
      refine z_i2l (pc := 37) dX11_numbers_37 (by omega) (by omega) ?_
      refine z_lconst (pc := 38) 0 dX11_numbers_38 rfl ?_
      refine z_ldc2_w (pc := 39) 40 dX11_numbers_39 cl_X11_395 (by decide) ?_
      refine z_callSbp (pc := 42) (i := mX11_within) (S := []) [.long (zL (n)), .long (zL (0)), .long (zL (40))] dX11_numbers_42 ml_X11_152 ok_X11_within rfl (Or.inr rfl) (Nat.le_of_ble_eq_true rfl) (c_X11_within (d := d) (v := n) (lo := 0) (hi := 40) (v1 := (by omega)) (v2 := (by omega)) (lo1 := (by omega)) (lo2 := (by omega)) (hi1 := (by omega)) (hi2 := (by omega)) (ok := ok7)) (fun hc12 ok11 => ?_) (fun hc12 ok11 => ?_)
      · skip
        refine z_if_ne (pc := 45) (tgt := 55) dX11_numbers_45 (by decide) (by decide) (by decide) (fun _ => ?_) (fun h => absurd h (by decide))
        refine x_aload_n (pc := 55) dX11_numbers_55 (List.Mem.head _) ?_
        refine z_getR (pc := 56) (k := 33) (r := 17) dX11_numbers_56 lf_X11_73 sh_0 rfl rf_0_33 ?_
        refine x_iload_n (pc := 59) dX11_numbers_59 (List.Mem.tail _ (List.Mem.head _)) ?_
        refine x_iload_n (pc := 60) dX11_numbers_60 (List.Mem.tail _ (List.Mem.tail _ (List.Mem.head _))) ?_
        refine z_iast (pc := 61) (j := row.toNat) (v := so) dX11_numbers_61 sh_17 (by omega) (by omega) (by decide) ?_
        have ok14 := okI ok11 17 row.toNat (v := so) (by omega) (by omega)
        refine x_aload_n (pc := 62) dX11_numbers_62 (List.Mem.head _) ?_
        refine z_getR (pc := 63) (k := 34) (r := 18) dX11_numbers_63 lf_X11_76 sh_0 rfl rf_0_34 ?_
        refine x_iload_n (pc := 66) dX11_numbers_66 (List.Mem.tail _ (List.Mem.head _)) ?_
        refine x_iload_n (pc := 67) dX11_numbers_67 (List.Mem.tail _ (List.Mem.tail _ (List.Mem.tail _ (List.Mem.head _)))) ?_
        refine z_iast (pc := 68) (j := row.toNat) (v := n) dX11_numbers_68 sh_18 (by omega) (by omega) (by decide) ?_
        have ok15 := okI ok14 18 row.toNat (v := n) (by omega) (by omega)
        refine z_iconst (pc := 69) dX11_numbers_69 ?_
        refine x_istore (pc := 70) dX11_numbers_70 (Nat.le_of_ble_eq_true rfl) ?_
        show Ev _ _ _ _ _ [(4, .int (zN (0))), (0, .ref 0), (1, .int (zN (row))), (2, .int (zN (so))), (3, .int (zN (n)))] _ _
        have lp72 : ∀ (nF : Nat) (k : Nat) (Hl : ZH), okZ Hl → ((k : Int) ≤ n) → (Hl = wB (wI (wI H 17 row.toNat so) 18 row.toNat n) 19 (fun j => if 40 * row.toNat ≤ j ∧ j < 40 * row.toNat + k then 0 else H.2 19 j)) → n.toNat - k < nF → Ev zX mX11_numbers (EvC zX (d + 1)) (zPi (fun (r : Int) (H1 : ZH) => r = (S_numbers row so n).1 ∧ H1 = if (S_numbers row so n).2 = 6 then (wB (wI (wI H 17 row.toNat so) 18 row.toNat n) 19 (fun k => if 40 * row.toNat ≤ k ∧ k < 40 * row.toNat + n.toNat then 0 else H.2 19 k)) else bumpM (S_numbers row so n).2 H)) 72 [(0, .ref 0), (1, .int (zN (row))), (2, .int (zN (so))), (3, .int (zN (n))), (4, .int (zN ((k : Int))))] [] (eh Hl) := by
          intro nF
          induction nF with
          | zero => intro k Hl okl72 hk eH hm; exact absurd hm (Nat.not_lt_zero _)
          | succ nF ih72 =>
            intro k Hl okl72 hk eH hm
            refine x_iload (pc := 72) dX11_numbers_72 (List.Mem.tail _ (List.Mem.tail _ (List.Mem.tail _ (List.Mem.tail _ (List.Mem.head _))))) ?_
            refine x_iload_n (pc := 74) dX11_numbers_74 (List.Mem.tail _ (List.Mem.tail _ (List.Mem.tail _ (List.Mem.head _)))) ?_
            refine z_icmp_ge (pc := 75) (tgt := 97) dX11_numbers_75 (by decide) (by omega) (by omega) (by omega) (by omega) (fun hb16 => ?_) (fun hb16 => ?_)
            · skip
              refine z_iconst (pc := 97) dX11_numbers_97 ?_
              refine z_ireturn (pc := 98) dX11_numbers_98 rfl (Or.inl rfl) okl72 (by decide) (by decide) ?_
              have e : S_numbers row so n = (0, 6) := by unfold S_numbers; rw [if_pos (by omega), if_pos (by omega)]
              rw [e]
              exact ⟨rfl, by rw [eH, show k = n.toNat by omega]; rfl⟩
            · skip
              refine x_aload_n (pc := 78) dX11_numbers_78 (List.Mem.head _) ?_
              refine z_getR (pc := 79) (k := 35) (r := 19) dX11_numbers_79 lf_X11_79 sh_0 rfl rf_0_35 ?_
              refine z_bipush (pc := 82) dX11_numbers_82 bp_40 ?_
              refine x_iload_n (pc := 84) dX11_numbers_84 (List.Mem.tail _ (List.Mem.head _)) ?_
              refine z_imul (pc := 85) dX11_numbers_85 ?_
              refine x_iload (pc := 86) dX11_numbers_86 (List.Mem.tail _ (List.Mem.tail _ (List.Mem.tail _ (List.Mem.tail _ (List.Mem.head _))))) ?_
              refine z_iadd (pc := 88) dX11_numbers_88 ?_
              refine z_lconst (pc := 89) 0 dX11_numbers_89 rfl ?_
              refine z_last (pc := 90) (j := 40 * row.toNat + k) (v := 0) dX11_numbers_90 sh_19 (by omega) (by omega) (by decide) ?_
              have ok17 := okJ okl72 19 (40 * row.toNat + k) (v := 0) (by decide) (by decide)
              refine z_iinc (pc := 91) dX11_numbers_91 (List.Mem.tail _ (List.Mem.tail _ (List.Mem.tail _ (List.Mem.tail _ (List.Mem.head _))))) (Nat.le_of_ble_eq_true rfl) ?_
              show Ev _ _ _ _ _ [(4, .int (zN ((k : Int) + 1))), (0, .ref 0), (1, .int (zN (row))), (2, .int (zN (so))), (3, .int (zN (n)))] _ _
              refine x_goto (pc := 94) (tgt := 72) dX11_numbers_94 (by decide) ?_
              refine x_weaken (L1 := [(0, .ref 0), (1, .int (zN (row))), (2, .int (zN (so))), (3, .int (zN (n))), (4, .int (zN ((((k + 1) : Nat) : Int))))]) (List.forall_mem_cons.mpr ⟨(List.Mem.tail _ (List.Mem.head _)), (List.forall_mem_cons.mpr ⟨(List.Mem.tail _ (List.Mem.tail _ (List.Mem.head _))), (List.forall_mem_cons.mpr ⟨(List.Mem.tail _ (List.Mem.tail _ (List.Mem.tail _ (List.Mem.head _)))), (List.forall_mem_cons.mpr ⟨(List.Mem.tail _ (List.Mem.tail _ (List.Mem.tail _ (List.Mem.tail _ (List.Mem.head _))))), (List.forall_mem_cons.mpr ⟨(mem_ci (by omega) (List.Mem.head _)), (fun _ h => absurd h List.not_mem_nil)⟩)⟩)⟩)⟩)⟩) ?_
              exact ih72 ((k + 1)) (wJ Hl 19 (40 * row.toNat + k) (0)) ok17 (by first | assumption | omega) (by rw [eH]; exact wB_grow _ _ _ _) (by omega)
        refine x_weaken (L1 := [(0, .ref 0), (1, .int (zN (row))), (2, .int (zN (so))), (3, .int (zN (n))), (4, .int (zN (((0 : Nat) : Int))))]) (List.forall_mem_cons.mpr ⟨(List.Mem.tail _ (List.Mem.head _)), (List.forall_mem_cons.mpr ⟨(List.Mem.tail _ (List.Mem.tail _ (List.Mem.head _))), (List.forall_mem_cons.mpr ⟨(List.Mem.tail _ (List.Mem.tail _ (List.Mem.tail _ (List.Mem.head _)))), (List.forall_mem_cons.mpr ⟨(List.Mem.tail _ (List.Mem.tail _ (List.Mem.tail _ (List.Mem.tail _ (List.Mem.head _))))), (List.forall_mem_cons.mpr ⟨(mem_ci (by omega) (List.Mem.head _)), (fun _ h => absurd h List.not_mem_nil)⟩)⟩)⟩)⟩)⟩) ?_
        exact lp72 (n.toNat - 0 + 1) (0) (wI (wI H 17 (row.toNat) (so)) 18 (row.toNat) (n)) ok15 (by first | assumption | omega) ((wB_zero _ _ _).symm) (Nat.lt_succ_self _)
      · skip
        refine z_if_ne (pc := 45) (tgt := 55) dX11_numbers_45 (by decide) (by decide) (by decide) (fun h => absurd h (by decide)) (fun _ => ?_)
        refine x_aload_n (pc := 48) dX11_numbers_48 (List.Mem.head _) ?_
        refine z_bipush (pc := 49) dX11_numbers_49 bp_m3 ?_
        refine z_callVip (pc := 51) (i := mX11_no) (S := []) [.int (zN ((-3)))] dX11_numbers_51 ml_X11_89 ok_X11_no rfl sh_0 rfl (Or.inl rfl) (Nat.le_of_ble_eq_true rfl) (c_X11_no (d := d) (code := ((-3))) (code1 := (by omega)) (code2 := (by omega)) (ok := ok11) (cn := (by first | assumption | omega))) (fun r19a r19b ok20 => ?_)
        show Ev _ _ _ _ _ _ _ (eh (wI H 1 ((refIx ((-3)))) (H.1 1 (refIx ((-3))) + 1)))
        refine z_ireturn (pc := 54) dX11_numbers_54 rfl (Or.inl rfl) ok20 (by omega) (by omega) ?_
        have e : S_numbers row so n = (-3, 1) := by unfold S_numbers; rw [if_pos (by omega), if_neg (by omega)]
        rw [e]
        exact ⟨rfl, rfl⟩
    · skip
      refine z_if_ne (pc := 26) (tgt := 36) dX11_numbers_26 (by decide) (by decide) (by decide) (fun h => absurd h (by decide)) (fun _ => ?_)
      refine x_aload_n (pc := 29) dX11_numbers_29 (List.Mem.head _) ?_
      refine z_bipush (pc := 30) dX11_numbers_30 bp_m2 ?_
      refine z_callVip (pc := 32) (i := mX11_no) (S := []) [.int (zN ((-2)))] dX11_numbers_32 ml_X11_89 ok_X11_no rfl sh_0 rfl (Or.inl rfl) (Nat.le_of_ble_eq_true rfl) (c_X11_no (d := d) (code := ((-2))) (code1 := (by omega)) (code2 := (by omega)) (ok := ok7) (cn := (by first | assumption | omega))) (fun r22a r22b ok23 => ?_)
      show Ev _ _ _ _ _ _ _ (eh (wI H 1 ((refIx ((-2)))) (H.1 1 (refIx ((-2))) + 1)))
      refine z_ireturn (pc := 35) dX11_numbers_35 rfl (Or.inl rfl) ok23 (by omega) (by omega) ?_
      have e : S_numbers row so n = (-2, 0) := by unfold S_numbers; rw [if_neg (by omega)]
      rw [e]
      exact ⟨rfl, rfl⟩
  · skip
    refine z_if_eq (pc := 14) (tgt := 29) dX11_numbers_14 (by decide) (by decide) (by decide) (fun _ => ?_) (fun h => absurd h (by decide))
    refine x_aload_n (pc := 29) dX11_numbers_29 (List.Mem.head _) ?_
    refine z_bipush (pc := 30) dX11_numbers_30 bp_m2 ?_
    refine z_callVip (pc := 32) (i := mX11_no) (S := []) [.int (zN ((-2)))] dX11_numbers_32 ml_X11_89 ok_X11_no rfl sh_0 rfl (Or.inl rfl) (Nat.le_of_ble_eq_true rfl) (c_X11_no (d := d) (code := ((-2))) (code1 := (by omega)) (code2 := (by omega)) (ok := ok3) (cn := (by first | assumption | omega))) (fun r25a r25b ok26 => ?_)
    show Ev _ _ _ _ _ _ _ (eh (wI H 1 ((refIx ((-2)))) (H.1 1 (refIx ((-2))) + 1)))
    refine z_ireturn (pc := 35) dX11_numbers_35 rfl (Or.inl rfl) ok26 (by omega) (by omega) ?_
    have e : S_numbers row so n = (-2, 0) := by unfold S_numbers; rw [if_neg (by omega)]
    rw [e]
    exact ⟨rfl, rfl⟩

theorem c_X10_write {d : Nat} {H : ZH} (ok : okZ H) {row i v : Int} (row1 : -2147483648 ≤ row) (row2 : row ≤ 2147483647) (i1 : -2147483648 ≤ i) (i2 : i ≤ 2147483647) (v1 : -9223372036854775808 ≤ v) (v2 : v ≤ 9223372036854775807) (cn : cntOK H 25) (rr : RepR H) : EvC zX (d + 2) mX10_write [.ref 20, .int (zN (row)), .int (zN (i)), .long (zL (v))] (eh H) (zPl (fun (r : Int) (H1 : ZH) => r = (S_write H row i v).1 ∧ H1 = if (S_write H row i v).2 = 6 then wJ H (125 + 2 * row.toNat + 1) i.toNat (zcut v (H.1 17 row.toNat)) else bumpC (S_write H row i v).2 H)) := by
  show _ ∧ Ev zX mX10_write (EvC zX (d + 1)) (zPl (fun (r : Int) (H1 : ZH) => r = (S_write H row i v).1 ∧ H1 = if (S_write H row i v).2 = 6 then wJ H (125 + 2 * row.toNat + 1) i.toNat (zcut v (H.1 17 row.toNat)) else bumpC (S_write H row i v).2 H)) 0 [(0, .ref 20), (1, .int (zN (row))), (2, .int (zN (i))), (3, .long (zL (v)))] [] (eh H)
  refine ⟨Nat.le_of_ble_eq_true rfl, ?_⟩
  refine x_iload_n (pc := 0) dX10_write_0 (List.Mem.tail _ (List.Mem.head _)) ?_
  refine z_callSbp (pc := 1) (i := mX10_isRow) (S := []) [.int (zN (row))] dX10_write_1 ml_X10_389 ok_X10_isRow rfl (Or.inr rfl) (Nat.le_of_ble_eq_true rfl) (c_X10_isRow (d := d) (row := row) (row1 := (by omega)) (row2 := (by omega)) (ok := ok)) (fun hc3 ok2 => ?_) (fun hc3 ok2 => ?_)
  · skip
    refine z_if_ne (pc := 4) (tgt := 15) dX10_write_4 (by decide) (by decide) (by decide) (fun _ => ?_) (fun h => absurd h (by decide))
    obtain ⟨s, es0, es, hs, hr⟩ : ∃ s, s = 125 + 2 * row.toNat ∧ zX.2 27 row.toNat = s ∧ isRw s ∧ row.toNat < 4 := ⟨125 + 2 * row.toNat, rfl, rf_27 (by omega), isRw_at (by omega), by omega⟩
    obtain ⟨rw, rq1, rq0⟩ := rr row.toNat hr s es0
    have rwc := rw
    obtain ⟨rwA, rwB, rwC⟩ := rwc
    refine x_aload_n (pc := 15) dX10_write_15 (List.Mem.head _) ?_
    refine z_getR (pc := 16) (k := 13) (r := 27) dX10_write_16 lf_X10_81 sh_20 rfl rf_20_13 ?_
    refine x_iload_n (pc := 19) dX10_write_19 (List.Mem.tail _ (List.Mem.head _)) ?_
    refine z_aald4 (pc := 20) (j := row.toNat) (r := s) dX10_write_20 sh_27 (by omega) (by omega) (by decide) es ?_
    have rd5 := ok2.1 s 0
    refine z_getI (pc := 21) (k := 0) (v := H.1 s 0) dX10_write_21 lf_X10_392 (sh_Rw0 hs) rfl rfl ?_
    refine z_if_ne (pc := 24) (tgt := 35) dX10_write_24 (by decide) (by omega) (by omega) (fun hb6 => ?_) (fun hb6 => ?_)
    · skip
      obtain ⟨t1, t2, t3, t4⟩ := rq1 (by omega)
      refine x_iload_n (pc := 35) dX10_write_35 (List.Mem.tail _ (List.Mem.tail _ (List.Mem.head _))) ?_
      refine z_if_lt (pc := 36) (tgt := 52) dX10_write_36 (by decide) (by omega) (by omega) (fun hb7 => ?_) (fun hb7 => ?_)
      · skip
        refine x_aload_n (pc := 52) dX10_write_52 (List.Mem.head _) ?_
        refine z_bipush (pc := 53) dX10_write_53 bp_m7 ?_
        refine z_callVip (pc := 55) (i := mX10_refuse) (S := []) [.int (zN ((-7)))] dX10_write_55 ml_X10_97 ok_X10_refuse rfl sh_20 rfl (Or.inl rfl) (Nat.le_of_ble_eq_true rfl) (c_X10_refuse (d := d) (code := ((-7))) (code1 := (by omega)) (code2 := (by omega)) (ok := ok2) (cn := (by first | assumption | omega))) (fun r8a r8b ok9 => ?_)
        show Ev _ _ _ _ _ _ _ (eh (wI H 25 ((refIx ((-7)))) (H.1 25 (refIx ((-7))) + 1)))
        refine z_i2l (pc := 58) dX10_write_58 (by omega) (by omega) ?_
        refine z_lreturn (pc := 59) dX10_write_59 rfl ok9 (by omega) (by omega) ?_
        have e : S_write H row i v = (-7, 4) := by unfold S_write; rw [if_pos (by omega), if_pos (by omega), if_neg (by omega)]
        rw [e]
        exact ⟨rfl, rfl⟩
      · skip
        refine x_iload_n (pc := 39) dX10_write_39 (List.Mem.tail _ (List.Mem.tail _ (List.Mem.head _))) ?_
        refine x_aload_n (pc := 40) dX10_write_40 (List.Mem.head _) ?_
        refine z_getR (pc := 41) (k := 13) (r := 27) dX10_write_41 lf_X10_81 sh_20 rfl rf_20_13 ?_
        refine x_iload_n (pc := 44) dX10_write_44 (List.Mem.tail _ (List.Mem.head _)) ?_
        refine z_aald4 (pc := 45) (j := row.toNat) (r := s) dX10_write_45 sh_27 (by omega) (by omega) (by decide) es ?_
        have rd10 := ok2.1 s 2
        refine z_getI (pc := 46) (k := 2) (v := H.1 s 2) dX10_write_46 lf_X10_400 (sh_Rw0 hs) rfl rfl ?_
        refine z_icmp_lt (pc := 49) (tgt := 60) dX10_write_49 (by decide) (by omega) (by omega) (by omega) (by omega) (fun hb11 => ?_) (fun hb11 => ?_)
        · skip
          have zcb := zcut_bd (so := H.1 s 1) v1 v2
          refine x_aload_n (pc := 60) dX10_write_60 (List.Mem.head _) ?_
          refine z_getR (pc := 61) (k := 13) (r := 27) dX10_write_61 lf_X10_81 sh_20 rfl rf_20_13 ?_
          refine x_iload_n (pc := 64) dX10_write_64 (List.Mem.tail _ (List.Mem.head _)) ?_
          refine z_aald4 (pc := 65) (j := row.toNat) (r := s) dX10_write_65 sh_27 (by omega) (by omega) (by decide) es ?_
          refine z_getR (pc := 66) (k := 3) (r := (s + 1)) dX10_write_66 lf_X10_401 (sh_Rw0 hs) rfl (rf_Rw_3 hs) ?_
          refine x_iload_n (pc := 69) dX10_write_69 (List.Mem.tail _ (List.Mem.tail _ (List.Mem.head _))) ?_
          refine x_aload_n (pc := 70) dX10_write_70 (List.Mem.head _) ?_
          refine z_getR (pc := 71) (k := 13) (r := 27) dX10_write_71 lf_X10_81 sh_20 rfl rf_20_13 ?_
          refine x_iload_n (pc := 74) dX10_write_74 (List.Mem.tail _ (List.Mem.head _)) ?_
          refine z_aald4 (pc := 75) (j := row.toNat) (r := s) dX10_write_75 sh_27 (by omega) (by omega) (by decide) es ?_
          refine x_lload_n (pc := 76) dX10_write_76 (List.Mem.tail _ (List.Mem.tail _ (List.Mem.tail _ (List.Mem.head _)))) ?_
          refine z_callVlp (pc := 77) (i := mX5_cut) (S := [.int (zN (i)), .ref (s + 1)]) [.long (zL (v))] dX10_write_77 ml_X10_445 ok_X5_cut rfl (sh_Rw0 hs) rfl rfl (Nat.le_of_ble_eq_true rfl) (c_X5_cut (d := d) (s := s) (hs := hs) (v := v) (v1 := (by omega)) (v2 := (by omega)) (ok := ok2) (rw := (by first | assumption | omega))) (fun r12a r12b ok13 => ?_)
          refine z_last (pc := 80) (j := i.toNat) (v := (zcut v (H.1 s 1))) dX10_write_80 (sh_Rw1 hs) (by omega) (by omega) (by decide) ?_
          have ok14 := okJ ok13 (s + 1) i.toNat (v := (zcut v (H.1 s 1))) (by omega) (by omega)
          refine x_aload_n (pc := 81) dX10_write_81 (List.Mem.head _) ?_
          refine z_getR (pc := 82) (k := 13) (r := 27) dX10_write_82 lf_X10_81 sh_20 rfl rf_20_13 ?_
          refine x_iload_n (pc := 85) dX10_write_85 (List.Mem.tail _ (List.Mem.head _)) ?_
          refine z_aald4 (pc := 86) (j := row.toNat) (r := s) dX10_write_86 sh_27 (by omega) (by omega) (by decide) es ?_
          refine z_getR (pc := 87) (k := 3) (r := (s + 1)) dX10_write_87 lf_X10_401 (sh_Rw0 hs) rfl (rf_Rw_3 hs) ?_
          refine x_iload_n (pc := 90) dX10_write_90 (List.Mem.tail _ (List.Mem.tail _ (List.Mem.head _))) ?_
          refine z_lald (pc := 91) (j := i.toNat) (v := (zcut v (H.1 s 1))) dX10_write_91 (sh_Rw1 hs) (by omega) (by omega) (by decide) (by rw [wJ1]) ?_
          refine z_lreturn (pc := 92) dX10_write_92 rfl ok14 (by omega) (by omega) ?_
          have e : S_write H row i v = (zcut v (H.1 17 row.toNat), 6) := by unfold S_write; rw [if_pos (by omega), if_pos (by omega), if_pos (by omega)]
          rw [e]
          rw [t2]
          subst es0
          exact ⟨rfl, rfl⟩
        · skip
          refine x_aload_n (pc := 52) dX10_write_52 (List.Mem.head _) ?_
          refine z_bipush (pc := 53) dX10_write_53 bp_m7 ?_
          refine z_callVip (pc := 55) (i := mX10_refuse) (S := []) [.int (zN ((-7)))] dX10_write_55 ml_X10_97 ok_X10_refuse rfl sh_20 rfl (Or.inl rfl) (Nat.le_of_ble_eq_true rfl) (c_X10_refuse (d := d) (code := ((-7))) (code1 := (by omega)) (code2 := (by omega)) (ok := ok2) (cn := (by first | assumption | omega))) (fun r15a r15b ok16 => ?_)
          show Ev _ _ _ _ _ _ _ (eh (wI H 25 ((refIx ((-7)))) (H.1 25 (refIx ((-7))) + 1)))
          refine z_i2l (pc := 58) dX10_write_58 (by omega) (by omega) ?_
          refine z_lreturn (pc := 59) dX10_write_59 rfl ok16 (by omega) (by omega) ?_
          have e : S_write H row i v = (-7, 4) := by unfold S_write; rw [if_pos (by omega), if_pos (by omega), if_neg (by omega)]
          rw [e]
          exact ⟨rfl, rfl⟩
    · skip
      refine x_aload_n (pc := 27) dX10_write_27 (List.Mem.head _) ?_
      refine z_bipush (pc := 28) dX10_write_28 bp_m6 ?_
      refine z_callVip (pc := 30) (i := mX10_refuse) (S := []) [.int (zN ((-6)))] dX10_write_30 ml_X10_97 ok_X10_refuse rfl sh_20 rfl (Or.inl rfl) (Nat.le_of_ble_eq_true rfl) (c_X10_refuse (d := d) (code := ((-6))) (code1 := (by omega)) (code2 := (by omega)) (ok := ok2) (cn := (by first | assumption | omega))) (fun r17a r17b ok18 => ?_)
      show Ev _ _ _ _ _ _ _ (eh (wI H 25 ((refIx ((-6)))) (H.1 25 (refIx ((-6))) + 1)))
      refine z_i2l (pc := 33) dX10_write_33 (by omega) (by omega) ?_
      refine z_lreturn (pc := 34) dX10_write_34 rfl ok18 (by omega) (by omega) ?_
      have e : S_write H row i v = (-6, 3) := by unfold S_write; rw [if_pos (by omega), if_neg (by omega)]
      rw [e]
      exact ⟨rfl, rfl⟩
  · skip
    refine z_if_ne (pc := 4) (tgt := 15) dX10_write_4 (by decide) (by decide) (by decide) (fun h => absurd h (by decide)) (fun _ => ?_)
    refine x_aload_n (pc := 7) dX10_write_7 (List.Mem.head _) ?_
    refine z_bipush (pc := 8) dX10_write_8 bp_m2 ?_
    refine z_callVip (pc := 10) (i := mX10_refuse) (S := []) [.int (zN ((-2)))] dX10_write_10 ml_X10_97 ok_X10_refuse rfl sh_20 rfl (Or.inl rfl) (Nat.le_of_ble_eq_true rfl) (c_X10_refuse (d := d) (code := ((-2))) (code1 := (by omega)) (code2 := (by omega)) (ok := ok2) (cn := (by first | assumption | omega))) (fun r20a r20b ok21 => ?_)
    show Ev _ _ _ _ _ _ _ (eh (wI H 25 ((refIx ((-2)))) (H.1 25 (refIx ((-2))) + 1)))
    refine z_i2l (pc := 13) dX10_write_13 (by omega) (by omega) ?_
    refine z_lreturn (pc := 14) dX10_write_14 rfl ok21 (by omega) (by omega) ?_
    have e : S_write H row i v = (-2, 0) := by unfold S_write; rw [if_neg (by omega)]
    rw [e]
    exact ⟨rfl, rfl⟩

theorem c_X11_write {d : Nat} {H : ZH} (ok : okZ H) {row i v : Int} (row1 : -2147483648 ≤ row) (row2 : row ≤ 2147483647) (i1 : -2147483648 ≤ i) (i2 : i ≤ 2147483647) (v1 : -9223372036854775808 ≤ v) (v2 : v ≤ 9223372036854775807) (cm : cntOK H 1) (th : H.1 0 0 = 0) (rm : rmOK H) : EvC zX (d + 2) mX11_write [.ref 0, .int (zN (row)), .int (zN (i)), .long (zL (v))] (eh H) (zPl (fun (r : Int) (H1 : ZH) => r = (S_write H row i v).1 ∧ H1 = if (S_write H row i v).2 = 6 then wJ H 19 (40 * row.toNat + i.toNat) (zcut v (H.1 17 row.toNat)) else bumpM (S_write H row i v).2 H)) := by
  show _ ∧ Ev zX mX11_write (EvC zX (d + 1)) (zPl (fun (r : Int) (H1 : ZH) => r = (S_write H row i v).1 ∧ H1 = if (S_write H row i v).2 = 6 then wJ H 19 (40 * row.toNat + i.toNat) (zcut v (H.1 17 row.toNat)) else bumpM (S_write H row i v).2 H)) 0 [(0, .ref 0), (1, .int (zN (row))), (2, .int (zN (i))), (3, .long (zL (v)))] [] (eh H)
  refine ⟨Nat.le_of_ble_eq_true rfl, ?_⟩
  refine x_aload_n (pc := 0) dX11_write_0 (List.Mem.head _) ?_
  refine z_iconst (pc := 1) dX11_write_1 ?_
  refine z_putI (pc := 2) (k := 0) dX11_write_2 lp_X11_1 sh_0 rfl ?_
  have ok1 := okI ok 0 0 (v := 0) (by decide) (by decide)
  rw [wI_same th]
  refine x_iload_n (pc := 5) dX11_write_5 (List.Mem.tail _ (List.Mem.head _)) ?_
  refine z_i2l (pc := 6) dX11_write_6 (by omega) (by omega) ?_
  refine z_lconst (pc := 7) 0 dX11_write_7 rfl ?_
  refine z_ldc2_w (pc := 8) 3 dX11_write_8 cl_X11_213 (by decide) ?_
  refine z_callSbp (pc := 11) (i := mX11_within) (S := []) [.long (zL (row)), .long (zL (0)), .long (zL (3))] dX11_write_11 ml_X11_152 ok_X11_within rfl (Or.inr rfl) (Nat.le_of_ble_eq_true rfl) (c_X11_within (d := d) (v := row) (lo := 0) (hi := 3) (v1 := (by omega)) (v2 := (by omega)) (lo1 := (by omega)) (lo2 := (by omega)) (hi1 := (by omega)) (hi2 := (by omega)) (ok := ok)) (fun hc4 ok3 => ?_) (fun hc4 ok3 => ?_)
  · skip
    refine z_if_ne (pc := 14) (tgt := 25) dX11_write_14 (by decide) (by decide) (by decide) (fun _ => ?_) (fun h => absurd h (by decide))
    obtain ⟨⟨rmA, rmB⟩, rmC, rmD⟩ := rm row.toNat (by omega)
    refine x_aload_n (pc := 25) dX11_write_25 (List.Mem.head _) ?_
    refine z_getR (pc := 26) (k := 33) (r := 17) dX11_write_26 lf_X11_73 sh_0 rfl rf_0_33 ?_
    refine x_iload_n (pc := 29) dX11_write_29 (List.Mem.tail _ (List.Mem.head _)) ?_
    have rd6 := ok3.1 17 row.toNat
    refine z_iald (pc := 30) (j := row.toNat) (v := H.1 17 row.toNat) dX11_write_30 sh_17 (by omega) (by omega) (by decide) rfl ?_
    refine z_iconst (pc := 31) dX11_write_31 ?_
    refine z_icmp_ne (pc := 32) (tgt := 43) dX11_write_32 (by decide) (by omega) (by omega) (by decide) (by decide) (fun hb7 => ?_) (fun hb7 => ?_)
    · skip
      refine x_iload_n (pc := 43) dX11_write_43 (List.Mem.tail _ (List.Mem.tail _ (List.Mem.head _))) ?_
      refine z_i2l (pc := 44) dX11_write_44 (by omega) (by omega) ?_
      refine z_lconst (pc := 45) 0 dX11_write_45 rfl ?_
      refine x_aload_n (pc := 46) dX11_write_46 (List.Mem.head _) ?_
      refine z_getR (pc := 47) (k := 34) (r := 18) dX11_write_47 lf_X11_76 sh_0 rfl rf_0_34 ?_
      refine x_iload_n (pc := 50) dX11_write_50 (List.Mem.tail _ (List.Mem.head _)) ?_
      have rd8 := ok3.1 18 row.toNat
      refine z_iald (pc := 51) (j := row.toNat) (v := H.1 18 row.toNat) dX11_write_51 sh_18 (by omega) (by omega) (by decide) rfl ?_
      refine z_iconst (pc := 52) dX11_write_52 ?_
      refine z_isub (pc := 53) dX11_write_53 ?_
      refine z_i2l (pc := 54) dX11_write_54 (by omega) (by omega) ?_
      refine z_callSbp (pc := 55) (i := mX11_within) (S := []) [.long (zL (i)), .long (zL (0)), .long (zL (((H.1 18 row.toNat) - 1)))] dX11_write_55 ml_X11_152 ok_X11_within rfl (Or.inr rfl) (Nat.le_of_ble_eq_true rfl) (c_X11_within (d := d) (v := i) (lo := 0) (hi := (((H.1 18 row.toNat) - 1))) (v1 := (by omega)) (v2 := (by omega)) (lo1 := (by omega)) (lo2 := (by omega)) (hi1 := (by omega)) (hi2 := (by omega)) (ok := ok3)) (fun hc11 ok10 => ?_) (fun hc11 ok10 => ?_)
      · skip
        refine z_if_ne (pc := 58) (tgt := 69) dX11_write_58 (by decide) (by decide) (by decide) (fun _ => ?_) (fun h => absurd h (by decide))
        have zcb := zcut_bd (so := H.1 17 row.toNat) v1 v2
        refine x_aload_n (pc := 69) dX11_write_69 (List.Mem.head _) ?_
        refine z_getR (pc := 70) (k := 35) (r := 19) dX11_write_70 lf_X11_79 sh_0 rfl rf_0_35 ?_
        refine z_bipush (pc := 73) dX11_write_73 bp_40 ?_
        refine x_iload_n (pc := 75) dX11_write_75 (List.Mem.tail _ (List.Mem.head _)) ?_
        refine z_imul (pc := 76) dX11_write_76 ?_
        refine x_iload_n (pc := 77) dX11_write_77 (List.Mem.tail _ (List.Mem.tail _ (List.Mem.head _))) ?_
        refine z_iadd (pc := 78) dX11_write_78 ?_
        refine x_lload_n (pc := 79) dX11_write_79 (List.Mem.tail _ (List.Mem.tail _ (List.Mem.tail _ (List.Mem.head _)))) ?_
        refine x_aload_n (pc := 80) dX11_write_80 (List.Mem.head _) ?_
        refine z_getR (pc := 81) (k := 33) (r := 17) dX11_write_81 lf_X11_73 sh_0 rfl rf_0_33 ?_
        refine x_iload_n (pc := 84) dX11_write_84 (List.Mem.tail _ (List.Mem.head _)) ?_
        have rd13 := ok10.1 17 row.toNat
        refine z_iald (pc := 85) (j := row.toNat) (v := H.1 17 row.toNat) dX11_write_85 sh_17 (by omega) (by omega) (by decide) rfl ?_
        refine z_callSlp (pc := 86) (i := mX11_cut) (S := [.int (zN (((40 * row) + i))), .ref 19]) [.long (zL (v)), .int (zN ((H.1 17 row.toNat)))] dX11_write_86 ml_X11_397 ok_X11_cut rfl rfl (Nat.le_of_ble_eq_true rfl) (c_X11_cut (d := d) (v := v) (so := ((H.1 17 row.toNat))) (v1 := (by omega)) (v2 := (by omega)) (so1 := (by omega)) (so2 := (by omega)) (ok := ok10)) (fun r14a r14b ok15 => ?_)
        refine z_last (pc := 89) (j := 40 * row.toNat + i.toNat) (v := (zcut v ((H.1 17 row.toNat)))) dX11_write_89 sh_19 (by omega) (by omega) (by decide) ?_
        have ok16 := okJ ok15 19 (40 * row.toNat + i.toNat) (v := (zcut v ((H.1 17 row.toNat)))) (by omega) (by omega)
        refine x_aload_n (pc := 90) dX11_write_90 (List.Mem.head _) ?_
        refine z_getR (pc := 91) (k := 35) (r := 19) dX11_write_91 lf_X11_79 sh_0 rfl rf_0_35 ?_
        refine z_bipush (pc := 94) dX11_write_94 bp_40 ?_
        refine x_iload_n (pc := 96) dX11_write_96 (List.Mem.tail _ (List.Mem.head _)) ?_
        refine z_imul (pc := 97) dX11_write_97 ?_
        refine x_iload_n (pc := 98) dX11_write_98 (List.Mem.tail _ (List.Mem.tail _ (List.Mem.head _))) ?_
        refine z_iadd (pc := 99) dX11_write_99 ?_
        refine z_lald (pc := 100) (j := 40 * row.toNat + i.toNat) (v := (zcut v ((H.1 17 row.toNat)))) dX11_write_100 sh_19 (by omega) (by omega) (by decide) (by rw [wJ1]) ?_
        refine z_lreturn (pc := 101) dX11_write_101 rfl ok16 (by omega) (by omega) ?_
        have e : S_write H row i v = (zcut v (H.1 17 row.toNat), 6) := by unfold S_write; rw [if_pos (by omega), if_pos (by omega), if_pos (by omega)]
        rw [e]
        exact ⟨rfl, rfl⟩
      · skip
        refine z_if_ne (pc := 58) (tgt := 69) dX11_write_58 (by decide) (by decide) (by decide) (fun h => absurd h (by decide)) (fun _ => ?_)
        refine x_aload_n (pc := 61) dX11_write_61 (List.Mem.head _) ?_
        refine z_bipush (pc := 62) dX11_write_62 bp_m7 ?_
        refine z_callVip (pc := 64) (i := mX11_no) (S := []) [.int (zN ((-7)))] dX11_write_64 ml_X11_89 ok_X11_no rfl sh_0 rfl (Or.inl rfl) (Nat.le_of_ble_eq_true rfl) (c_X11_no (d := d) (code := ((-7))) (code1 := (by omega)) (code2 := (by omega)) (ok := ok10) (cn := (by first | assumption | omega))) (fun r18a r18b ok19 => ?_)
        show Ev _ _ _ _ _ _ _ (eh (wI H 1 ((refIx ((-7)))) (H.1 1 (refIx ((-7))) + 1)))
        refine z_i2l (pc := 67) dX11_write_67 (by omega) (by omega) ?_
        refine z_lreturn (pc := 68) dX11_write_68 rfl ok19 (by omega) (by omega) ?_
        have e : S_write H row i v = (-7, 4) := by unfold S_write; rw [if_pos (by omega), if_pos (by omega), if_neg (by omega)]
        rw [e]
        exact ⟨rfl, rfl⟩
    · skip
      refine x_aload_n (pc := 35) dX11_write_35 (List.Mem.head _) ?_
      refine z_bipush (pc := 36) dX11_write_36 bp_m6 ?_
      refine z_callVip (pc := 38) (i := mX11_no) (S := []) [.int (zN ((-6)))] dX11_write_38 ml_X11_89 ok_X11_no rfl sh_0 rfl (Or.inl rfl) (Nat.le_of_ble_eq_true rfl) (c_X11_no (d := d) (code := ((-6))) (code1 := (by omega)) (code2 := (by omega)) (ok := ok3) (cn := (by first | assumption | omega))) (fun r20a r20b ok21 => ?_)
      show Ev _ _ _ _ _ _ _ (eh (wI H 1 ((refIx ((-6)))) (H.1 1 (refIx ((-6))) + 1)))
      refine z_i2l (pc := 41) dX11_write_41 (by omega) (by omega) ?_
      refine z_lreturn (pc := 42) dX11_write_42 rfl ok21 (by omega) (by omega) ?_
      have e : S_write H row i v = (-6, 3) := by unfold S_write; rw [if_pos (by omega), if_neg (by omega)]
      rw [e]
      exact ⟨rfl, rfl⟩
  · skip
    refine z_if_ne (pc := 14) (tgt := 25) dX11_write_14 (by decide) (by decide) (by decide) (fun h => absurd h (by decide)) (fun _ => ?_)
    refine x_aload_n (pc := 17) dX11_write_17 (List.Mem.head _) ?_
    refine z_bipush (pc := 18) dX11_write_18 bp_m2 ?_
    refine z_callVip (pc := 20) (i := mX11_no) (S := []) [.int (zN ((-2)))] dX11_write_20 ml_X11_89 ok_X11_no rfl sh_0 rfl (Or.inl rfl) (Nat.le_of_ble_eq_true rfl) (c_X11_no (d := d) (code := ((-2))) (code1 := (by omega)) (code2 := (by omega)) (ok := ok3) (cn := (by first | assumption | omega))) (fun r23a r23b ok24 => ?_)
    show Ev _ _ _ _ _ _ _ (eh (wI H 1 ((refIx ((-2)))) (H.1 1 (refIx ((-2))) + 1)))
    refine z_i2l (pc := 23) dX11_write_23 (by omega) (by omega) ?_
    refine z_lreturn (pc := 24) dX11_write_24 rfl ok24 (by omega) (by omega) ?_
    have e : S_write H row i v = (-2, 0) := by unfold S_write; rw [if_neg (by omega)]
    rw [e]
    exact ⟨rfl, rfl⟩
