/-! GROUP G9: the class's bits of a TEST. -/
theorem andm2 (m : Nat) (h : m < 4294967296) : m &&& 4294967294 = m / 2 * 2 := by
  have h1 : (m &&& 4294967294) / 2 ^ 1 = m / 2 ^ 1 &&& 4294967294 / 2 ^ 1 := Nat.and_div_two_pow
  have h2 : (m &&& 4294967294) % 2 ^ 1 = m % 2 ^ 1 &&& 4294967294 % 2 ^ 1 := Nat.and_mod_two_pow
  have h3 : m / 2 &&& (2 ^ 31 - 1) = m / 2 % 2 ^ 31 := Nat.and_two_pow_sub_one_eq_mod (m / 2) 31
  have h4 : m % 2 ^ 1 &&& 4294967294 % 2 ^ 1 = 0 := Nat.and_zero _
  have h5 : (m &&& 4294967294) / 2 = m / 2 % 2 ^ 31 := h1.trans h3
  have h6 : (m &&& 4294967294) % 2 = 0 := h2.trans h4
  omega
theorem zN_andm2 {a : Int} (h1 : 0 ≤ a) (h2 : a ≤ 2147483647) : zN a &&& zN (-2) = zN (a / 2 * 2) := by
  obtain ⟨m, rfl⟩ := Int.eq_ofNat_of_zero_le h1
  apply Int32.toBitVec_inj.mp
  apply BitVec.eq_of_toNat_eq
  show (BitVec.ofInt 32 (m : Int) &&& BitVec.ofInt 32 (-2)).toNat = (BitVec.ofInt 32 ((m : Int) / 2 * 2)).toNat
  rw [BitVec.toNat_and, BitVec.toNat_ofInt, BitVec.toNat_ofInt, BitVec.toNat_ofInt]
  rw [show (((m : Int)) % ((2 ^ 32 : Nat) : Int)).toNat = m by omega, show ((-2 : Int) % ((2 ^ 32 : Nat) : Int)).toNat = 4294967294 by decide, andm2 m (by omega)]
  omega
theorem z_iandm2 {X : MX} {mi : MI} {C : MCall} {Rt : MPost} {pc : Nat} {L : ML} {S : List Value} {H : ZH} {a : Int} (dg : decode mi.2.1 pc = .ok (.iand, 1)) (h1 : 0 ≤ a) (h2 : a ≤ 2147483647) (kk : Ev X mi C Rt (pc + 1) L (.int (zN (a / 2 * 2)) :: S) (eh H)) : Ev X mi C Rt pc L (.int (zN (-2)) :: .int (zN a) :: S) (eh H) := x_iand dg (zN_andm2 h1 h2 ▸ kk)
/-- a stack as the bits of a number, the newest lowest -/
def bst : List Bool → Nat
  | [] => 0
  | b :: t => (if b then 1 else 0) + 2 * bst t
theorem bst_bd (st : List Bool) : bst st < 2 ^ st.length := by
  induction st with
  | nil => decide
  | cons b t ih =>
    show (if b then 1 else 0) + 2 * bst t < 2 ^ (t.length + 1)
    rw [Nat.pow_succ]
    cases b
    · show 0 + 2 * bst t < _
      omega
    · show 1 + 2 * bst t < _
      omega
def wjoin (v w : Nat) : Nat := if w = 16 then v ^^^ 1 else if w = 17 then (if v % 2 = 0 then v / 2 / 2 * 2 else v / 2) else v / 2 ||| v % 2

theorem c_X4_joined {d : Nat} {H : ZH} (ok : okZ H) {v w : Nat} (hv : v < 1073741824) (hw : w = 16 ∨ w = 17 ∨ w = 18) : EvC zX (d + 1) mX4_joined [.int (zN ((v : Int))), .int (zN ((w : Int)))] (eh H) (zPi (fun (rz : Int) (Hz : ZH) => rz = (((wjoin v w : Nat) : Int)) ∧ Hz = H)) := by
  show _ ∧ Ev zX mX4_joined (EvC zX d) (zPi (fun (rz : Int) (Hz : ZH) => rz = (((wjoin v w : Nat) : Int)) ∧ Hz = H)) 0 [(0, .int (zN ((v : Int)))), (1, .int (zN ((w : Int))))] [] (eh H)
  refine ⟨Nat.le_of_ble_eq_true rfl, ?_⟩
  have xb : v ^^^ 1 < 2 ^ 30 := Nat.xor_lt_two_pow (by omega) (by decide)
  have ob : v / 2 ^ 1 ||| v % 2 < 2 ^ 30 := Nat.or_lt_two_pow (by omega) (by omega)
  refine x_iload_n (pc := 0) dX4_joined_0 (List.Mem.tail _ (List.Mem.head _)) ?_
  refine z_bipush (pc := 1) dX4_joined_1 bp_16 ?_
  refine z_icmp_ne (pc := 3) (tgt := 10) dX4_joined_3 (by decide) (by omega) (by omega) (by decide) (by decide) (fun hb1 => ?_) (fun hb1 => ?_)
  · skip
    refine x_iload_n (pc := 10) dX4_joined_10 (List.Mem.head _) ?_
    refine z_iconst (pc := 11) dX4_joined_11 ?_
    refine z_ishr (pc := 12) (k := 1) dX4_joined_12 rfl (by omega) (by omega) (by omega) ?_
    refine x_istore_n (pc := 13) dX4_joined_13 (Nat.le_of_ble_eq_true rfl) ?_
    show Ev _ _ _ _ _ [(2, .int (zN (((v : Int) / 2 ^ (1))))), (0, .int (zN ((v : Int)))), (1, .int (zN ((w : Int))))] _ _
    refine x_iload_n (pc := 14) dX4_joined_14 (List.Mem.tail _ (List.Mem.tail _ (List.Mem.head _))) ?_
    refine z_bipush (pc := 15) dX4_joined_15 bp_17 ?_
    refine z_icmp_ne (pc := 17) (tgt := 35) dX4_joined_17 (by decide) (by omega) (by omega) (by decide) (by decide) (fun hb2 => ?_) (fun hb2 => ?_)
    · skip
      refine x_iload_n (pc := 35) dX4_joined_35 (List.Mem.head _) ?_
      refine x_iload_n (pc := 36) dX4_joined_36 (List.Mem.tail _ (List.Mem.head _)) ?_
      refine z_iconst (pc := 37) dX4_joined_37 ?_
      refine z_iand1 (pc := 38) dX4_joined_38 ?_
      refine z_ior (pc := 39) (m := v / 2 ^ 1) (n := v % 2) dX4_joined_39 (by omega) (by omega) ?_
      refine z_ireturn (pc := 40) dX4_joined_40 rfl (Or.inl rfl) ok (by omega) (by omega) ?_
      refine ⟨?_, rfl⟩
      unfold wjoin
      first | (rw [if_pos (show w = 16 by omega)]; done) | (rw [if_pos (show w = 16 by omega)]) | (rw [if_neg (show ¬ w = 16 by omega), if_pos (show w = 17 by omega)]; split <;> omega) | (rw [if_neg (show ¬ w = 16 by omega), if_neg (show ¬ w = 17 by omega)])
    · skip
      refine x_iload_n (pc := 20) dX4_joined_20 (List.Mem.tail _ (List.Mem.head _)) ?_
      refine z_iconst (pc := 21) dX4_joined_21 ?_
      refine z_iand1 (pc := 22) dX4_joined_22 ?_
      refine z_if_eq (pc := 23) (tgt := 30) dX4_joined_23 (by decide) (by omega) (by omega) (fun hb3 => ?_) (fun hb3 => ?_)
      · skip
        refine x_iload_n (pc := 30) dX4_joined_30 (List.Mem.head _) ?_
        refine z_bipush (pc := 31) dX4_joined_31 bp_m2 ?_
        refine z_iandm2 (pc := 33) dX4_joined_33 (by omega) (by omega) ?_
        refine z_ireturn (pc := 34) dX4_joined_34 rfl (Or.inl rfl) ok (by omega) (by omega) ?_
        refine ⟨?_, rfl⟩
        unfold wjoin
        first | (rw [if_pos (show w = 16 by omega)]; done) | (rw [if_pos (show w = 16 by omega)]) | (rw [if_neg (show ¬ w = 16 by omega), if_pos (show w = 17 by omega)]; split <;> omega) | (rw [if_neg (show ¬ w = 16 by omega), if_neg (show ¬ w = 17 by omega)])
      · skip
        refine x_iload_n (pc := 26) dX4_joined_26 (List.Mem.head _) ?_
        refine x_goto (pc := 27) (tgt := 34) dX4_joined_27 (by decide) ?_
        refine z_ireturn (pc := 34) dX4_joined_34 rfl (Or.inl rfl) ok (by omega) (by omega) ?_
        refine ⟨?_, rfl⟩
        unfold wjoin
        first | (rw [if_pos (show w = 16 by omega)]; done) | (rw [if_pos (show w = 16 by omega)]) | (rw [if_neg (show ¬ w = 16 by omega), if_pos (show w = 17 by omega)]; split <;> omega) | (rw [if_neg (show ¬ w = 16 by omega), if_neg (show ¬ w = 17 by omega)])
  · skip
    refine x_iload_n (pc := 6) dX4_joined_6 (List.Mem.head _) ?_
    refine z_iconst (pc := 7) dX4_joined_7 ?_
    refine z_ixor (pc := 8) (m := v) (n := 1) dX4_joined_8 rfl rfl ?_
    refine z_ireturn (pc := 9) dX4_joined_9 rfl (Or.inl rfl) ok (by omega) (by omega) ?_
    refine ⟨?_, rfl⟩
    unfold wjoin
    first | (rw [if_pos (show w = 16 by omega)]; done) | (rw [if_pos (show w = 16 by omega)]) | (rw [if_neg (show ¬ w = 16 by omega), if_pos (show w = 17 by omega)]; split <;> omega) | (rw [if_neg (show ¬ w = 16 by omega), if_neg (show ¬ w = 17 by omega)])

theorem two_split {m n : Nat} (h1 : m / 2 ^ 1 = n / 2 ^ 1) (h2 : m % 2 ^ 1 = n % 2 ^ 1) : m = n := by omega
theorem or_low (x y : Nat) (hy : y ≤ 1) : x ||| y = x / 2 * 2 + (if x % 2 = 1 ∨ y = 1 then 1 else 0) := by
  refine two_split ?_ ?_
  · rw [Nat.or_div_two_pow, show y / 2 ^ 1 = 0 by omega, Nat.or_zero]
    split <;> omega
  · rw [Nat.or_mod_two_pow]
    rcases (show y = 0 ∨ y = 1 by omega) with q | q <;> subst q <;> rcases (show x % 2 ^ 1 = 0 ∨ x % 2 ^ 1 = 1 by omega) with e | e <;> rw [e]
    · rw [if_neg (by omega)]; show 0 = _; omega
    · rw [if_pos (by omega)]; show 1 = _; omega
    · rw [if_pos (by omega)]; show 1 = _; omega
    · rw [if_pos (by omega)]; show 1 = _; omega
theorem xor_low (x : Nat) : x ^^^ 1 = x / 2 * 2 + (1 - x % 2) := by
  refine two_split ?_ ?_
  · rw [Nat.xor_div_two_pow, show 1 / 2 ^ 1 = 0 by decide, Nat.xor_zero]
    omega
  · rw [Nat.xor_mod_two_pow]
    rcases (show x % 2 ^ 1 = 0 ∨ x % 2 ^ 1 = 1 by omega) with e | e <;> rw [e]
    · show 1 = _; omega
    · show 0 = _; omega
theorem bst_not (b : Bool) (t : List Bool) : wjoin (bst (b :: t)) 16 = bst ((!b) :: t) := by
  show (bst (b :: t)) ^^^ 1 = _
  rw [xor_low]
  cases b
  · show (0 + 2 * bst t) / 2 * 2 + (1 - (0 + 2 * bst t) % 2) = 1 + 2 * bst t
    omega
  · show (1 + 2 * bst t) / 2 * 2 + (1 - (1 + 2 * bst t) % 2) = 0 + 2 * bst t
    omega
theorem bst_half (b : Bool) (t : List Bool) : bst (b :: t) / 2 = bst t ∧ bst (b :: t) % 2 = (if b then 1 else 0) := by
  cases b
  · show (0 + 2 * bst t) / 2 = bst t ∧ (0 + 2 * bst t) % 2 = 0
    omega
  · show (1 + 2 * bst t) / 2 = bst t ∧ (1 + 2 * bst t) % 2 = 1
    omega
theorem bst_and (b a : Bool) (t : List Bool) : wjoin (bst (b :: a :: t)) 17 = bst ((a && b) :: t) := by
  show (if bst (b :: a :: t) % 2 = 0 then bst (b :: a :: t) / 2 / 2 * 2 else bst (b :: a :: t) / 2) = _
  rw [(bst_half b (a :: t)).1, (bst_half b (a :: t)).2, (bst_half a t).1]
  cases b <;> cases a
  · show bst t * 2 = 0 + 2 * bst t; omega
  · show bst t * 2 = 0 + 2 * bst t; omega
  · rfl
  · rfl
theorem bst_or (b a : Bool) (t : List Bool) : wjoin (bst (b :: a :: t)) 18 = bst ((a || b) :: t) := by
  show bst (b :: a :: t) / 2 ||| bst (b :: a :: t) % 2 = _
  rw [(bst_half b (a :: t)).1, (bst_half b (a :: t)).2, or_low _ _ (by cases b <;> decide), (bst_half a t).1, (bst_half a t).2]
  cases b <;> cases a
  · show bst t * 2 + 0 = 0 + 2 * bst t; omega
  · show bst t * 2 + 1 = 1 + 2 * bst t; omega
  · show bst t * 2 + 1 = 1 + 2 * bst t; omega
  · show bst t * 2 + 1 = 1 + 2 * bst t; omega
theorem bst_push (f : Bool) (t : List Bool) : bst t * 2 ||| (if f then 1 else 0) = bst (f :: t) := by
  rw [or_low _ _ (by cases f <;> decide)]
  cases f
  · show bst t * 2 / 2 * 2 + (if bst t * 2 % 2 = 1 ∨ (0 : Nat) = 1 then 1 else 0) = 0 + 2 * bst t
    rw [if_neg (by omega)]; omega
  · show bst t * 2 / 2 * 2 + (if bst t * 2 % 2 = 1 ∨ (1 : Nat) = 1 then 1 else 0) = 1 + 2 * bst t
    rw [if_pos (by omega)]; omega
