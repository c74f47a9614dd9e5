/-! THE SMALL MACHINE OVER INTEGERS: ints as zN a, longs as zL a, the heap's contents as integers. -/
def zN (a : Int) : Int32 := Int32.ofInt a
def zL (a : Int) : Int64 := Int64.ofInt a
abbrev ZH : Type := (Nat → Nat → Int) × (Nat → Nat → Int)
def eh (H : ZH) : MH := (fun c k => zN (H.1 c k), fun c k => zL (H.2 c k))
def okZ (H : ZH) : Prop := (∀ c k, -2147483648 ≤ H.1 c k ∧ H.1 c k ≤ 2147483647) ∧ (∀ c k, -9223372036854775808 ≤ H.2 c k ∧ H.2 c k ≤ 9223372036854775807)
def wI (H : ZH) (c k : Nat) (v : Int) : ZH := (fun c' k' => if c' = c ∧ k' = k then v else H.1 c' k', H.2)
def wJ (H : ZH) (c k : Nat) (v : Int) : ZH := (H.1, fun c' k' => if c' = c ∧ k' = k then v else H.2 c' k')
def wA (H : ZH) (c : Nat) (f : Nat → Int) : ZH := (fun c' k' => if c' = c then f k' else H.1 c' k', H.2)
def wB (H : ZH) (c : Nat) (f : Nat → Int) : ZH := (H.1, fun c' k' => if c' = c then f k' else H.2 c' k')
def zcpy (f g : Nat → Int) (sp dp n : Nat) : Nat → Int := fun k => if dp ≤ k ∧ k < dp + n then f (sp + (k - dp)) else g k
def zcm (a b : Int) : Int := if b < a then 1 else if a = b then 0 else -1
theorem zN_of (x : Int32) : zN x.toInt = x := Int32.ofInt_toInt x
theorem zL_of (x : Int64) : zL x.toInt = x := Int64.ofInt_toInt x
theorem zN_toInt {a : Int} (h1 : -2147483648 ≤ a) (h2 : a ≤ 2147483647) : (zN a).toInt = a := Int32.toInt_ofInt_of_le (by omega) (by omega)
theorem zL_toInt {a : Int} (h1 : -9223372036854775808 ≤ a) (h2 : a ≤ 9223372036854775807) : (zL a).toInt = a := Int64.toInt_ofInt_of_le (by omega) (by omega)
theorem zN_rng (x : Int32) : -2147483648 ≤ x.toInt ∧ x.toInt ≤ 2147483647 := by
  have h1 := x.le_toInt
  have h2 := x.toInt_lt
  omega
theorem zL_rng (x : Int64) : -9223372036854775808 ≤ x.toInt ∧ x.toInt ≤ 9223372036854775807 := by
  have h1 := x.le_toInt
  have h2 := x.toInt_lt
  omega
theorem zN_nat (n : Nat) : zN (n : Int) = nI n := Int32.ofInt_eq_ofNat
theorem zN_add (a b : Int) : zN a + zN b = zN (a + b) := (Int32.ofInt_add a b).symm
theorem zN_sub (a b : Int) : zN a - zN b = zN (a - b) := (Int32.ofInt_sub a b).symm
theorem zN_mul (a b : Int) : zN a * zN b = zN (a * b) := (Int32.ofInt_mul a b).symm
theorem zL_add (a b : Int) : zL a + zL b = zL (a + b) := (Int64.ofInt_add a b).symm
theorem zL_sub (a b : Int) : zL a - zL b = zL (a - b) := (Int64.ofInt_sub a b).symm
theorem zL_mul (a b : Int) : zL a * zL b = zL (a * b) := (Int64.ofInt_mul a b).symm
theorem zN_l (a : Int) : (zL a).toInt32 = zN a := Int64.toInt32_ofInt
theorem zL_i {a : Int} (h1 : -2147483648 ≤ a) (h2 : a ≤ 2147483647) : (zN a).toInt64 = zL a := by
  apply Int64.toInt_inj.mp
  rw [Int32.toInt_toInt64, zN_toInt h1 h2, zL_toInt (by omega) (by omega)]
theorem zN_lt {a b : Int} (h1 : -2147483648 ≤ a) (h2 : a ≤ 2147483647) (h3 : -2147483648 ≤ b) (h4 : b ≤ 2147483647) : zN a < zN b ↔ a < b := by
  rw [Int32.lt_iff_toInt_lt, zN_toInt h1 h2, zN_toInt h3 h4]
theorem zN_le {a b : Int} (h1 : -2147483648 ≤ a) (h2 : a ≤ 2147483647) (h3 : -2147483648 ≤ b) (h4 : b ≤ 2147483647) : zN a ≤ zN b ↔ a ≤ b := by
  rw [Int32.le_iff_toInt_le, zN_toInt h1 h2, zN_toInt h3 h4]
theorem zN_eq {a b : Int} (h1 : -2147483648 ≤ a) (h2 : a ≤ 2147483647) (h3 : -2147483648 ≤ b) (h4 : b ≤ 2147483647) : zN a = zN b ↔ a = b := by
  rw [← Int32.toInt_inj, zN_toInt h1 h2, zN_toInt h3 h4]
theorem zL_lt {a b : Int} (h1 : -9223372036854775808 ≤ a) (h2 : a ≤ 9223372036854775807) (h3 : -9223372036854775808 ≤ b) (h4 : b ≤ 9223372036854775807) : zL a < zL b ↔ a < b := by
  rw [Int64.lt_iff_toInt_lt, zL_toInt h1 h2, zL_toInt h3 h4]
theorem zL_eq {a b : Int} (h1 : -9223372036854775808 ≤ a) (h2 : a ≤ 9223372036854775807) (h3 : -9223372036854775808 ≤ b) (h4 : b ≤ 9223372036854775807) : zL a = zL b ↔ a = b := by
  rw [← Int64.toInt_inj, zL_toInt h1 h2, zL_toInt h3 h4]
theorem zN_0 : zN 0 = 0 := rfl
theorem zL_0 : zL 0 = 0 := rfl
theorem zN_tdiv {a b : Int} (h1 : -2147483648 < a) (h2 : a ≤ 2147483647) (h3 : -2147483648 ≤ b) (h4 : b ≤ 2147483647) : zN a / zN b = zN (a.tdiv b) := by
  apply Int32.toInt_inj.mp
  rw [Int32.toInt_div_of_ne_left _ _ (by
    intro h
    have h5 : (zN a).toInt = Int32.minValue.toInt := by rw [h]
    rw [zN_toInt (by omega) h2] at h5
    have h6 : Int32.minValue.toInt = -2147483648 := by decide
    omega), zN_toInt (by omega) h2, zN_toInt h3 h4]
  have h7 := Int.natAbs_tdiv_le_natAbs a b
  rw [zN_toInt (by omega) (by omega)]
theorem zL_tdiv {a b : Int} (h1 : -9223372036854775808 < a) (h2 : a ≤ 9223372036854775807) (h3 : -9223372036854775808 ≤ b) (h4 : b ≤ 9223372036854775807) : zL a / zL b = zL (a.tdiv b) := by
  apply Int64.toInt_inj.mp
  rw [Int64.toInt_div_of_ne_left _ _ (by
    intro h
    have h5 : (zL a).toInt = Int64.minValue.toInt := by rw [h]
    rw [zL_toInt (by omega) h2] at h5
    have h6 : Int64.minValue.toInt = -9223372036854775808 := by decide
    omega), zL_toInt (by omega) h2, zL_toInt h3 h4]
  have h7 := Int.natAbs_tdiv_le_natAbs a b
  rw [zL_toInt (by omega) (by omega)]
theorem zN_rem {a b : Int} (h1 : -2147483648 < a) (h2 : a ≤ 2147483647) (h3 : -2147483648 ≤ b) (h4 : b ≤ 2147483647) : zN a - zN a / zN b * zN b = zN (a.tmod b) := by
  rw [zN_tdiv h1 h2 h3 h4, zN_mul, zN_sub]
  congr 1
  have := Int.tdiv_mul_add_tmod a b
  omega
theorem zL_rem {a b : Int} (h1 : -9223372036854775808 < a) (h2 : a ≤ 9223372036854775807) (h3 : -9223372036854775808 ≤ b) (h4 : b ≤ 9223372036854775807) : zL a - zL a / zL b * zL b = zL (a.tmod b) := by
  rw [zL_tdiv h1 h2 h3 h4, zL_mul, zL_sub]
  congr 1
  have := Int.tdiv_mul_add_tmod a b
  omega
theorem zN_and (a b : Nat) : zN (a : Int) &&& zN (b : Int) = zN ((a &&& b : Nat) : Int) := by
  apply Int32.toBitVec_inj.mp
  show BitVec.ofInt 32 (a : Int) &&& BitVec.ofInt 32 (b : Int) = BitVec.ofInt 32 ((a &&& b : Nat) : Int)
  rw [BitVec.ofInt_natCast, BitVec.ofInt_natCast, BitVec.ofInt_natCast, BitVec.ofNat_and]
theorem zN_or (a b : Nat) : zN (a : Int) ||| zN (b : Int) = zN ((a ||| b : Nat) : Int) := by
  apply Int32.toBitVec_inj.mp
  show BitVec.ofInt 32 (a : Int) ||| BitVec.ofInt 32 (b : Int) = BitVec.ofInt 32 ((a ||| b : Nat) : Int)
  rw [BitVec.ofInt_natCast, BitVec.ofInt_natCast, BitVec.ofInt_natCast, BitVec.ofNat_or]
theorem zN_xor (a b : Nat) : zN (a : Int) ^^^ zN (b : Int) = zN ((a ^^^ b : Nat) : Int) := by
  apply Int32.toBitVec_inj.mp
  show BitVec.ofInt 32 (a : Int) ^^^ BitVec.ofInt 32 (b : Int) = BitVec.ofInt 32 ((a ^^^ b : Nat) : Int)
  rw [BitVec.ofInt_natCast, BitVec.ofInt_natCast, BitVec.ofInt_natCast, BitVec.ofNat_xor]
theorem zN_shr {a : Int} (h1 : -2147483648 ≤ a) (h2 : a ≤ 2147483647) {k : Nat} (hk : k < 32) : zN a >>> (zN k &&& 31) = zN (a / 2 ^ k) := by
  have e : (zN k &&& 31) = zN k := by
    rw [show (31 : Int32) = zN ((31 : Nat) : Int) from by decide, zN_and]
    congr 2
    have := @Nat.and_two_pow_sub_one_eq_mod k 5
    rw [show (2 ^ 5 - 1 : Nat) = 31 from rfl] at this
    rw [this]
    exact Nat.mod_eq_of_lt hk
  rw [e]
  apply Int32.toInt_inj.mp
  have hs : ((zN k).toBitVec.smod 32).toNat = k := by
    have hh : ∀ q : Fin 32, ((zN ((q : Nat) : Int)).toBitVec.smod 32).toNat = (q : Nat) := by decide +kernel
    exact hh ⟨k, hk⟩
  have hc : ((2 ^ k : Nat) : Int) = (2 : Int) ^ k := by rw [Int.natCast_pow]; rfl
  have hp : (0 : Int) < 2 ^ k := Int.pow_pos (by decide)
  have h5 : a / 2 ^ k ≤ 2147483647 := by
    rcases Int.le_total 0 a with h | h
    · exact Int.le_trans (Int.ediv_le_self _ h) h2
    · exact Int.le_trans (Int.ediv_nonpos_of_nonpos_of_neg h hp) (show (0 : Int) ≤ 2147483647 by decide)
  have h6 : -2147483648 ≤ a / 2 ^ k := by
    apply (Int.le_ediv_iff_mul_le hp).mpr
    have h8 : (1 : Int) ≤ 2 ^ k := by omega
    have h7 : (2147483648 : Int) * 1 ≤ 2147483648 * 2 ^ k := Int.mul_le_mul_of_nonneg_left h8 (by decide)
    omega
  rw [pk_shr _ _ k hs, zN_toInt h1 h2, Int.shiftRight_eq_div_pow, hc, zN_toInt h6 h5]
theorem zN_shl (a : Int) {k : Nat} (hk : k < 32) : zN a <<< (zN k &&& 31) = zN (a * 2 ^ k) := by
  have e : (zN k &&& 31) = zN k := by
    rw [show (31 : Int32) = zN ((31 : Nat) : Int) from by decide, zN_and]
    congr 2
    have := @Nat.and_two_pow_sub_one_eq_mod k 5
    rw [show (2 ^ 5 - 1 : Nat) = 31 from rfl] at this
    rw [this]
    exact Nat.mod_eq_of_lt hk
  rw [e]
  have hs : ((zN k).toBitVec.smod 32).toNat = k := by
    have hh : ∀ q : Fin 32, ((zN ((q : Nat) : Int)).toBitVec.smod 32).toNat = (q : Nat) := by decide +kernel
    exact hh ⟨k, hk⟩
  apply Int32.toBitVec_inj.mp
  apply BitVec.eq_of_toNat_eq
  rw [pk_shl _ _ k hs]
  show (BitVec.ofInt 32 a).toNat * 2 ^ k % 2 ^ 32 = (BitVec.ofInt 32 (a * 2 ^ k)).toNat
  rw [BitVec.toNat_ofInt, BitVec.toNat_ofInt]
  apply Int.ofNat_inj.mp
  have h0 : (0 : Int) ≤ a % ((2 ^ 32 : Nat) : Int) := Int.emod_nonneg _ (by decide)
  have h1 : (0 : Int) ≤ (a * 2 ^ k) % ((2 ^ 32 : Nat) : Int) := Int.emod_nonneg _ (by decide)
  rw [Int.toNat_of_nonneg h1, Int.natCast_emod, Int.natCast_mul, Int.toNat_of_nonneg h0, show ((2 ^ k : Nat) : Int) = (2 : Int) ^ k from by rw [Int.natCast_pow]; rfl, Int.mul_emod, Int.emod_emod_of_dvd a (Int.dvd_refl _), ← Int.mul_emod]
theorem zN_i2b (a : Int) : (zN a).toInt8.toInt32 = zN (a.bmod 256) := by
  apply Int32.toInt_inj.mp
  have h1 := @Int.le_bmod a 256 (by decide)
  have h2 := @Int.bmod_lt a 256 (by decide)
  rw [Int8.toInt_toInt32, Int32.toInt_toInt8, zN_toInt (a := a.bmod 256) (by omega) (by omega)]
  show ((Int32.ofInt a).toInt).bmod (2 ^ 8) = a.bmod 256
  rw [Int32.toInt_ofInt]
  exact Int.bmod_bmod_of_dvd (by decide)
theorem zN_i2s (a : Int) : (zN a).toInt16.toInt32 = zN (a.bmod 65536) := by
  apply Int32.toInt_inj.mp
  have h1 := @Int.le_bmod a 65536 (by decide)
  have h2 := @Int.bmod_lt a 65536 (by decide)
  rw [Int16.toInt_toInt32, Int32.toInt_toInt16, zN_toInt (a := a.bmod 65536) (by omega) (by omega)]
  show ((Int32.ofInt a).toInt).bmod (2 ^ 16) = a.bmod 65536
  rw [Int32.toInt_ofInt]
  exact Int.bmod_bmod_of_dvd (by decide)
theorem zN_w (a : Int) : zN (a.bmod 4294967296) = zN a := by
  apply Int32.toInt_inj.mp
  have h1 := @Int.le_bmod a 4294967296 (by decide)
  have h2 := @Int.bmod_lt a 4294967296 (by decide)
  rw [zN_toInt (by omega) (by omega)]
  show _ = (Int32.ofInt a).toInt
  rw [Int32.toInt_ofInt]
theorem bm8 (a : Int) : -128 ≤ a.bmod 256 ∧ a.bmod 256 ≤ 127 := by
  have h1 := @Int.le_bmod a 256 (by decide)
  have h2 := @Int.bmod_lt a 256 (by decide)
  omega
theorem bm16 (a : Int) : -32768 ≤ a.bmod 65536 ∧ a.bmod 65536 ≤ 32767 := by
  have h1 := @Int.le_bmod a 65536 (by decide)
  have h2 := @Int.bmod_lt a 65536 (by decide)
  omega
theorem bm32 (a : Int) : -2147483648 ≤ a.bmod 4294967296 ∧ a.bmod 4294967296 ≤ 2147483647 := by
  have h1 := @Int.le_bmod a 4294967296 (by decide)
  have h2 := @Int.bmod_lt a 4294967296 (by decide)
  omega
theorem zN_ushr16 (a : Int) : ((zN a).toUInt32 >>> ((zN 16).toUInt32 &&& Int32.toUInt32 31)).toInt32 = zN (a % 4294967296 / 65536) := by
  apply Int32.toBitVec_inj.mp
  apply BitVec.eq_of_toNat_eq
  rw [pk_ushr _ _ 16 (by decide)]
  show (BitVec.ofInt 32 a).toNat / 2 ^ 16 = (BitVec.ofInt 32 (a % 4294967296 / 65536)).toNat
  rw [BitVec.toNat_ofInt, BitVec.toNat_ofInt]
  omega
theorem zL_cmp {a b : Int} (h1 : -9223372036854775808 ≤ a) (h2 : a ≤ 9223372036854775807) (h3 : -9223372036854775808 ≤ b) (h4 : b ≤ 9223372036854775807) : lg_cmp (zL a) (zL b) = zN (zcm a b) := by
  unfold lg_cmp zcm
  by_cases c1 : b < a
  · rw [if_pos ((zL_lt h3 h4 h1 h2).mpr c1), if_pos c1]; rfl
  · rw [if_neg (fun h => c1 ((zL_lt h3 h4 h1 h2).mp h)), if_neg c1]
    by_cases c2 : a = b
    · rw [if_pos (by rw [c2]), if_pos c2]; rfl
    · rw [if_neg (fun h => c2 ((zL_eq h1 h2 h3 h4).mp h)), if_neg c2]; rfl
theorem zcm_1 (a b : Int) : -2147483648 ≤ zcm a b := by unfold zcm; split <;> (try split) <;> decide
theorem zcm_2 (a b : Int) : zcm a b ≤ 2147483647 := by unfold zcm; split <;> (try split) <;> decide
theorem zcm_eq (a b : Int) : zcm a b = 0 ↔ a = b := by unfold zcm; split <;> (try split) <;> omega
theorem zcm_ne (a b : Int) : zcm a b ≠ 0 ↔ a ≠ b := by unfold zcm; split <;> (try split) <;> omega
theorem zcm_lt (a b : Int) : zcm a b < 0 ↔ a < b := by unfold zcm; split <;> (try split) <;> omega
theorem zcm_ge (a b : Int) : 0 ≤ zcm a b ↔ b ≤ a := by unfold zcm; split <;> (try split) <;> omega
theorem zcm_gt (a b : Int) : 0 < zcm a b ↔ b < a := by unfold zcm; split <;> (try split) <;> omega
theorem zcm_le (a b : Int) : zcm a b ≤ 0 ↔ a ≤ b := by unfold zcm; split <;> (try split) <;> omega
theorem eh_I (H : ZH) (c k : Nat) (v : Int) : hI (eh H) c k (zN v) = eh (wI H c k v) := by
  unfold hI eh wI
  congr 1
  funext c' k'
  by_cases h1 : c' = c
  · subst h1
    by_cases h2 : k' = k
    · subst h2; simp [upd]
    · simp [upd, h2]
  · simp [h1]
theorem eh_J (H : ZH) (c k : Nat) (v : Int) : hJ (eh H) c k (zL v) = eh (wJ H c k v) := by
  unfold hJ eh wJ
  congr 1
  funext c' k'
  by_cases h1 : c' = c
  · subst h1
    by_cases h2 : k' = k
    · subst h2; simp [vp_updL]
    · simp [vp_updL, h2]
  · simp [h1]
theorem eh_W (H : ZH) (c0 c1 sp dp n : Nat) : hW (eh H) c1 (va_cpy ((eh H).1 c0) ((eh H).1 c1) sp dp n) = eh (wA H c1 (zcpy (H.1 c0) (H.1 c1) sp dp n)) := by
  unfold hW eh wA
  congr 1
  funext c' k'
  by_cases h1 : c' = c1
  · subst h1
    simp only [if_true, va_cpy, zcpy]
    split <;> rfl
  · simp [h1]
theorem okI {H : ZH} (ok : okZ H) (c k : Nat) {v : Int} (h1 : -2147483648 ≤ v) (h2 : v ≤ 2147483647) : okZ (wI H c k v) := by
  refine ⟨fun c' k' => ?_, ok.2⟩
  show _ ≤ (if c' = c ∧ k' = k then v else H.1 c' k') ∧ (if c' = c ∧ k' = k then v else H.1 c' k') ≤ _
  split
  · exact ⟨h1, h2⟩
  · exact ok.1 c' k'
theorem okJ {H : ZH} (ok : okZ H) (c k : Nat) {v : Int} (h1 : -9223372036854775808 ≤ v) (h2 : v ≤ 9223372036854775807) : okZ (wJ H c k v) := by
  refine ⟨ok.1, fun c' k' => ?_⟩
  show _ ≤ (if c' = c ∧ k' = k then v else H.2 c' k') ∧ (if c' = c ∧ k' = k then v else H.2 c' k') ≤ _
  split
  · exact ⟨h1, h2⟩
  · exact ok.2 c' k'
theorem okA {H : ZH} (ok : okZ H) (c : Nat) {f : Nat → Int} (h : ∀ k, -2147483648 ≤ f k ∧ f k ≤ 2147483647) : okZ (wA H c f) := by
  refine ⟨fun c' k' => ?_, ok.2⟩
  show _ ≤ (if c' = c then f k' else H.1 c' k') ∧ (if c' = c then f k' else H.1 c' k') ≤ _
  split
  · exact h k'
  · exact ok.1 c' k'
theorem okB {H : ZH} (ok : okZ H) (c : Nat) {f : Nat → Int} (h : ∀ k, -9223372036854775808 ≤ f k ∧ f k ≤ 9223372036854775807) : okZ (wB H c f) := by
  refine ⟨ok.1, fun c' k' => ?_⟩
  show _ ≤ (if c' = c then f k' else H.2 c' k') ∧ (if c' = c then f k' else H.2 c' k') ≤ _
  split
  · exact h k'
  · exact ok.2 c' k'
theorem okC {H : ZH} (ok : okZ H) (c c0 sp dp n : Nat) : okZ (wA H c (zcpy (H.1 c0) (H.1 c) sp dp n)) := okA ok c (fun k => by
  unfold zcpy
  split
  · exact ok.1 _ _
  · exact ok.1 _ _)
theorem wI1 (H : ZH) (c k : Nat) (v : Int) : (wI H c k v).1 c k = v := if_pos ⟨rfl, rfl⟩
theorem wI1c {H : ZH} {c k c' k' : Nat} {v : Int} (h : c' ≠ c) : (wI H c k v).1 c' k' = H.1 c' k' := if_neg (fun q => h q.1)
theorem wI1k {H : ZH} {c k c' k' : Nat} {v : Int} (h : k' ≠ k) : (wI H c k v).1 c' k' = H.1 c' k' := if_neg (fun q => h q.2)
theorem wI2 (H : ZH) (c k : Nat) (v : Int) : (wI H c k v).2 = H.2 := rfl
theorem wJ1 (H : ZH) (c k : Nat) (v : Int) : (wJ H c k v).2 c k = v := if_pos ⟨rfl, rfl⟩
theorem wJ1c {H : ZH} {c k c' k' : Nat} {v : Int} (h : c' ≠ c) : (wJ H c k v).2 c' k' = H.2 c' k' := if_neg (fun q => h q.1)
theorem wJ1k {H : ZH} {c k c' k' : Nat} {v : Int} (h : k' ≠ k) : (wJ H c k v).2 c' k' = H.2 c' k' := if_neg (fun q => h q.2)
theorem wJ2 (H : ZH) (c k : Nat) (v : Int) : (wJ H c k v).1 = H.1 := rfl
theorem wA1 (H : ZH) (c : Nat) (f : Nat → Int) : (wA H c f).1 c = f := by funext k; exact if_pos rfl
theorem wA1c {H : ZH} {c c' : Nat} {f : Nat → Int} (h : c' ≠ c) : (wA H c f).1 c' = H.1 c' := by funext k; exact if_neg h
theorem wA2 (H : ZH) (c : Nat) (f : Nat → Int) : (wA H c f).2 = H.2 := rfl
theorem wB1 (H : ZH) (c : Nat) (f : Nat → Int) : (wB H c f).2 c = f := by funext k; exact if_pos rfl
theorem wB1c {H : ZH} {c c' : Nat} {f : Nat → Int} (h : c' ≠ c) : (wB H c f).2 c' = H.2 c' := by funext k; exact if_neg h
theorem wB2 (H : ZH) (c : Nat) (f : Nat → Int) : (wB H c f).1 = H.1 := rfl
theorem apI (H : ZH) (c k : Nat) (v : Int) (c' k' : Nat) : (wI H c k v).1 c' k' = if c' = c ∧ k' = k then v else H.1 c' k' := rfl
theorem apJ (H : ZH) (c k : Nat) (v : Int) (c' k' : Nat) : (wJ H c k v).2 c' k' = if c' = c ∧ k' = k then v else H.2 c' k' := rfl
theorem apA (H : ZH) (c : Nat) (f : Nat → Int) (c' k' : Nat) : (wA H c f).1 c' k' = if c' = c then f k' else H.1 c' k' := rfl
theorem apB (H : ZH) (c : Nat) (f : Nat → Int) (c' k' : Nat) : (wB H c f).2 c' k' = if c' = c then f k' else H.2 c' k' := rfl
/-- a method's end: an int, a long, nothing -/
def zPi (Po : Int → ZH → Prop) : MPost := fun o h => ∃ (r : Int) (H : ZH), o = some (.int (zN r)) ∧ -2147483648 ≤ r ∧ r ≤ 2147483647 ∧ h = eh H ∧ okZ H ∧ Po r H
def zPl (Po : Int → ZH → Prop) : MPost := fun o h => ∃ (r : Int) (H : ZH), o = some (.long (zL r)) ∧ -9223372036854775808 ≤ r ∧ r ≤ 9223372036854775807 ∧ h = eh H ∧ okZ H ∧ Po r H
def zPv (Po : ZH → Prop) : MPost := fun o h => o = none ∧ ∃ H : ZH, h = eh H ∧ okZ H ∧ Po H
theorem y_callVi {X : MX} {mi : MI} {C : MCall} {Rt : MPost} {pc : Nat} {L : ML} {S : List Value} {h : MH} {i : MI} {idx n c ci : Nat} {ks : List Nat} (as : List Value) {P : MPost} (dg : decode mi.2.1 pc = .ok (.invokevirtual idx, 3)) (lk : Cond.methodLink mi.1.cls idx i.1 ∈ mG) (ok : okV i n) (hn : as.length = n) (sh : X.1[c]? = some (.inl (ci, ks))) (hci : (mcl[ci]?).map (fun q => q.1) = some i.1.cls) (hr : i.2.2.2 = some .int ∨ i.2.2.2 = some .boolean) (hw : (S.map fun v => v.category).sum ≤ 8) (hC : C i (.ref c :: as) h P) (kk : ∀ (r : Int32) (h1 : MH), P (some (.int r)) h1 → Ev X mi C Rt (pc + 3) L (.int r :: S) h1) : Ev X mi C Rt pc L (as.reverse ++ .ref c :: S) h := fun R hR => hR.2.2.2.2.2.2.2.2.2.2.2.2.2.2.2.2.2.2.2.2.2.2.2.2.2.2.2.2.2.2.2.2.2.2.2.2.2.2.2.2.2.2.2.2.2.2.2.2.2.2.2.2.2.2.2.2.2.2.2.2.2.2.2.2.2.2.2.2.2.2.2.2.2.2.2.2.2.2.2.2.2.2.2.2.2.2.2.2.1 as dg lk ok hn sh hci hr hw hC (fun r h1 hp => kk r h1 hp R hR)
theorem y_callVl {X : MX} {mi : MI} {C : MCall} {Rt : MPost} {pc : Nat} {L : ML} {S : List Value} {h : MH} {i : MI} {idx n c ci : Nat} {ks : List Nat} (as : List Value) {P : MPost} (dg : decode mi.2.1 pc = .ok (.invokevirtual idx, 3)) (lk : Cond.methodLink mi.1.cls idx i.1 ∈ mG) (ok : okV i n) (hn : as.length = n) (sh : X.1[c]? = some (.inl (ci, ks))) (hci : (mcl[ci]?).map (fun q => q.1) = some i.1.cls) (hr : i.2.2.2 = some .long) (hw : (S.map fun v => v.category).sum ≤ 8) (hC : C i (.ref c :: as) h P) (kk : ∀ (r : Int64) (h1 : MH), P (some (.long r)) h1 → Ev X mi C Rt (pc + 3) L (.long r :: S) h1) : Ev X mi C Rt pc L (as.reverse ++ .ref c :: S) h := fun R hR => hR.2.2.2.2.2.2.2.2.2.2.2.2.2.2.2.2.2.2.2.2.2.2.2.2.2.2.2.2.2.2.2.2.2.2.2.2.2.2.2.2.2.2.2.2.2.2.2.2.2.2.2.2.2.2.2.2.2.2.2.2.2.2.2.2.2.2.2.2.2.2.2.2.2.2.2.2.2.2.2.2.2.2.2.2.2.2.2.2.2.1 as dg lk ok hn sh hci hr hw hC (fun r h1 hp => kk r h1 hp R hR)
theorem y_callVv {X : MX} {mi : MI} {C : MCall} {Rt : MPost} {pc : Nat} {L : ML} {S : List Value} {h : MH} {i : MI} {idx n c ci : Nat} {ks : List Nat} (as : List Value) {P : MPost} (dg : decode mi.2.1 pc = .ok (.invokevirtual idx, 3)) (lk : Cond.methodLink mi.1.cls idx i.1 ∈ mG) (ok : okV i n) (hn : as.length = n) (sh : X.1[c]? = some (.inl (ci, ks))) (hci : (mcl[ci]?).map (fun q => q.1) = some i.1.cls) (hr : i.2.2.2 = none) (hw : (S.map fun v => v.category).sum ≤ 8) (hC : C i (.ref c :: as) h P) (kk : ∀ (h1 : MH), P none h1 → Ev X mi C Rt (pc + 3) L (S) h1) : Ev X mi C Rt pc L (as.reverse ++ .ref c :: S) h := fun R hR => hR.2.2.2.2.2.2.2.2.2.2.2.2.2.2.2.2.2.2.2.2.2.2.2.2.2.2.2.2.2.2.2.2.2.2.2.2.2.2.2.2.2.2.2.2.2.2.2.2.2.2.2.2.2.2.2.2.2.2.2.2.2.2.2.2.2.2.2.2.2.2.2.2.2.2.2.2.2.2.2.2.2.2.2.2.2.2.2.2.2.2.1 as dg lk ok hn sh hci hr hw hC (fun h1 hp => kk h1 hp R hR)
theorem y_callSi {X : MX} {mi : MI} {C : MCall} {Rt : MPost} {pc : Nat} {L : ML} {S : List Value} {h : MH} {i : MI} {idx n : Nat} (as : List Value) {P : MPost} (dg : decode mi.2.1 pc = .ok (.invokestatic idx, 3)) (lk : Cond.methodLink mi.1.cls idx i.1 ∈ mG) (ok : okS i n) (hn : as.length = n) (hr : i.2.2.2 = some .int ∨ i.2.2.2 = some .boolean) (hw : (S.map fun v => v.category).sum ≤ 8) (hC : C i as h P) (kk : ∀ (r : Int32) (h1 : MH), P (some (.int r)) h1 → Ev X mi C Rt (pc + 3) L (.int r :: S) h1) : Ev X mi C Rt pc L (as.reverse ++ S) h := fun R hR => hR.2.2.2.2.2.2.2.2.2.2.2.2.2.2.2.2.2.2.2.2.2.2.2.2.2.2.2.2.2.2.2.2.2.2.2.2.2.2.2.2.2.2.2.2.2.2.2.2.2.2.2.2.2.2.2.2.2.2.2.2.2.2.2.2.2.2.2.2.2.2.2.2.2.2.2.2.2.2.2.2.2.2.2.2.2.2.2.2.2.2.2.1 as dg lk ok hn hr hw hC (fun r h1 hp => kk r h1 hp R hR)
theorem y_callSl {X : MX} {mi : MI} {C : MCall} {Rt : MPost} {pc : Nat} {L : ML} {S : List Value} {h : MH} {i : MI} {idx n : Nat} (as : List Value) {P : MPost} (dg : decode mi.2.1 pc = .ok (.invokestatic idx, 3)) (lk : Cond.methodLink mi.1.cls idx i.1 ∈ mG) (ok : okS i n) (hn : as.length = n) (hr : i.2.2.2 = some .long) (hw : (S.map fun v => v.category).sum ≤ 8) (hC : C i as h P) (kk : ∀ (r : Int64) (h1 : MH), P (some (.long r)) h1 → Ev X mi C Rt (pc + 3) L (.long r :: S) h1) : Ev X mi C Rt pc L (as.reverse ++ S) h := fun R hR => hR.2.2.2.2.2.2.2.2.2.2.2.2.2.2.2.2.2.2.2.2.2.2.2.2.2.2.2.2.2.2.2.2.2.2.2.2.2.2.2.2.2.2.2.2.2.2.2.2.2.2.2.2.2.2.2.2.2.2.2.2.2.2.2.2.2.2.2.2.2.2.2.2.2.2.2.2.2.2.2.2.2.2.2.2.2.2.2.2.2.2.2.2.1 as dg lk ok hn hr hw hC (fun r h1 hp => kk r h1 hp R hR)
theorem y_callSv {X : MX} {mi : MI} {C : MCall} {Rt : MPost} {pc : Nat} {L : ML} {S : List Value} {h : MH} {i : MI} {idx n : Nat} (as : List Value) {P : MPost} (dg : decode mi.2.1 pc = .ok (.invokestatic idx, 3)) (lk : Cond.methodLink mi.1.cls idx i.1 ∈ mG) (ok : okS i n) (hn : as.length = n) (hr : i.2.2.2 = none) (hw : (S.map fun v => v.category).sum ≤ 8) (hC : C i as h P) (kk : ∀ (h1 : MH), P none h1 → Ev X mi C Rt (pc + 3) L (S) h1) : Ev X mi C Rt pc L (as.reverse ++ S) h := fun R hR => hR.2.2.2.2.2.2.2.2.2.2.2.2.2.2.2.2.2.2.2.2.2.2.2.2.2.2.2.2.2.2.2.2.2.2.2.2.2.2.2.2.2.2.2.2.2.2.2.2.2.2.2.2.2.2.2.2.2.2.2.2.2.2.2.2.2.2.2.2.2.2.2.2.2.2.2.2.2.2.2.2.2.2.2.2.2.2.2.2.2.2.2.2.2.1 as dg lk ok hn hr hw hC (fun h1 hp => kk h1 hp R hR)
theorem y_callNi {X : MX} {mi : MI} {C : MCall} {Rt : MPost} {pc : Nat} {L : ML} {S : List Value} {h : MH} {i : MI} {idx n : Nat} (as : List Value) {P : MPost} (dg : decode mi.2.1 pc = .ok (.invokestatic idx, 3)) (lk : Cond.methodLinkNest mi.1.cls idx i.1 "FootOut" ∈ mNL) (ok : okS i n) (hn : as.length = n) (hr : i.2.2.2 = some .int ∨ i.2.2.2 = some .boolean) (hw : (S.map fun v => v.category).sum ≤ 8) (hC : C i as h P) (kk : ∀ (r : Int32) (h1 : MH), P (some (.int r)) h1 → Ev X mi C Rt (pc + 3) L (.int r :: S) h1) : Ev X mi C Rt pc L (as.reverse ++ S) h := fun R hR => hR.2.2.2.2.2.2.2.2.2.2.2.2.2.2.2.2.2.2.2.2.2.2.2.2.2.2.2.2.2.2.2.2.2.2.2.2.2.2.2.2.2.2.2.2.2.2.2.2.2.2.2.2.2.2.2.2.2.2.2.2.2.2.2.2.2.2.2.2.2.2.2.2.2.2.2.2.2.2.2.2.2.2.2.2.2.2.2.2.2.2.2.2.2.2.1 as dg lk ok hn hr hw hC (fun r h1 hp => kk r h1 hp R hR)
theorem bp_m100 : (Int8.ofInt (-100)).toInt32 = zN (-100) := by decide
theorem bp_m99 : (Int8.ofInt (-99)).toInt32 = zN (-99) := by decide
theorem bp_m30 : (Int8.ofInt (-30)).toInt32 = zN (-30) := by decide
theorem bp_m7 : (Int8.ofInt (-7)).toInt32 = zN (-7) := by decide
theorem bp_m6 : (Int8.ofInt (-6)).toInt32 = zN (-6) := by decide
theorem bp_m5 : (Int8.ofInt (-5)).toInt32 = zN (-5) := by decide
theorem bp_m3 : (Int8.ofInt (-3)).toInt32 = zN (-3) := by decide
theorem bp_m2 : (Int8.ofInt (-2)).toInt32 = zN (-2) := by decide
theorem bp_6 : (Int8.ofInt (6)).toInt32 = zN (6) := by decide
theorem bp_7 : (Int8.ofInt (7)).toInt32 = zN (7) := by decide
theorem bp_8 : (Int8.ofInt (8)).toInt32 = zN (8) := by decide
theorem bp_9 : (Int8.ofInt (9)).toInt32 = zN (9) := by decide
theorem bp_10 : (Int8.ofInt (10)).toInt32 = zN (10) := by decide
theorem bp_11 : (Int8.ofInt (11)).toInt32 = zN (11) := by decide
theorem bp_12 : (Int8.ofInt (12)).toInt32 = zN (12) := by decide
theorem bp_13 : (Int8.ofInt (13)).toInt32 = zN (13) := by decide
theorem bp_14 : (Int8.ofInt (14)).toInt32 = zN (14) := by decide
theorem bp_15 : (Int8.ofInt (15)).toInt32 = zN (15) := by decide
theorem bp_16 : (Int8.ofInt (16)).toInt32 = zN (16) := by decide
theorem bp_17 : (Int8.ofInt (17)).toInt32 = zN (17) := by decide
theorem bp_18 : (Int8.ofInt (18)).toInt32 = zN (18) := by decide
theorem bp_19 : (Int8.ofInt (19)).toInt32 = zN (19) := by decide
theorem bp_20 : (Int8.ofInt (20)).toInt32 = zN (20) := by decide
theorem bp_21 : (Int8.ofInt (21)).toInt32 = zN (21) := by decide
theorem bp_22 : (Int8.ofInt (22)).toInt32 = zN (22) := by decide
theorem bp_24 : (Int8.ofInt (24)).toInt32 = zN (24) := by decide
theorem bp_26 : (Int8.ofInt (26)).toInt32 = zN (26) := by decide
theorem bp_27 : (Int8.ofInt (27)).toInt32 = zN (27) := by decide
theorem bp_28 : (Int8.ofInt (28)).toInt32 = zN (28) := by decide
theorem bp_29 : (Int8.ofInt (29)).toInt32 = zN (29) := by decide
theorem bp_30 : (Int8.ofInt (30)).toInt32 = zN (30) := by decide
theorem bp_31 : (Int8.ofInt (31)).toInt32 = zN (31) := by decide
theorem bp_32 : (Int8.ofInt (32)).toInt32 = zN (32) := by decide
theorem bp_33 : (Int8.ofInt (33)).toInt32 = zN (33) := by decide
theorem bp_34 : (Int8.ofInt (34)).toInt32 = zN (34) := by decide
theorem bp_35 : (Int8.ofInt (35)).toInt32 = zN (35) := by decide
theorem bp_36 : (Int8.ofInt (36)).toInt32 = zN (36) := by decide
theorem bp_37 : (Int8.ofInt (37)).toInt32 = zN (37) := by decide
theorem bp_38 : (Int8.ofInt (38)).toInt32 = zN (38) := by decide
theorem bp_39 : (Int8.ofInt (39)).toInt32 = zN (39) := by decide
theorem bp_40 : (Int8.ofInt (40)).toInt32 = zN (40) := by decide
theorem bp_41 : (Int8.ofInt (41)).toInt32 = zN (41) := by decide
theorem bp_42 : (Int8.ofInt (42)).toInt32 = zN (42) := by decide
theorem bp_48 : (Int8.ofInt (48)).toInt32 = zN (48) := by decide
theorem bp_53 : (Int8.ofInt (53)).toInt32 = zN (53) := by decide
theorem bp_57 : (Int8.ofInt (57)).toInt32 = zN (57) := by decide
theorem bp_59 : (Int8.ofInt (59)).toInt32 = zN (59) := by decide
theorem bp_60 : (Int8.ofInt (60)).toInt32 = zN (60) := by decide
theorem bp_63 : (Int8.ofInt (63)).toInt32 = zN (63) := by decide
theorem bp_64 : (Int8.ofInt (64)).toInt32 = zN (64) := by decide
theorem bp_65 : (Int8.ofInt (65)).toInt32 = zN (65) := by decide
theorem bp_77 : (Int8.ofInt (77)).toInt32 = zN (77) := by decide
theorem bp_97 : (Int8.ofInt (97)).toInt32 = zN (97) := by decide
theorem bp_99 : (Int8.ofInt (99)).toInt32 = zN (99) := by decide
theorem bp_100 : (Int8.ofInt (100)).toInt32 = zN (100) := by decide
theorem bp_120 : (Int8.ofInt (120)).toInt32 = zN (120) := by decide
theorem bp_122 : (Int8.ofInt (122)).toInt32 = zN (122) := by decide
theorem sp_m1000 : (Int16.ofInt (-1000)).toInt32 = zN (-1000) := by decide
theorem sp_160 : (Int16.ofInt (160)).toInt32 = zN (160) := by decide
theorem sp_200 : (Int16.ofInt (200)).toInt32 = zN (200) := by decide
theorem sp_220 : (Int16.ofInt (220)).toInt32 = zN (220) := by decide
theorem sp_255 : (Int16.ofInt (255)).toInt32 = zN (255) := by decide
theorem sp_256 : (Int16.ofInt (256)).toInt32 = zN (256) := by decide
theorem sp_300 : (Int16.ofInt (300)).toInt32 = zN (300) := by decide
theorem sp_400 : (Int16.ofInt (400)).toInt32 = zN (400) := by decide
theorem sp_477 : (Int16.ofInt (477)).toInt32 = zN (477) := by decide
theorem sp_478 : (Int16.ofInt (478)).toInt32 = zN (478) := by decide
theorem sp_490 : (Int16.ofInt (490)).toInt32 = zN (490) := by decide
theorem sp_502 : (Int16.ofInt (502)).toInt32 = zN (502) := by decide
theorem sp_504 : (Int16.ofInt (504)).toInt32 = zN (504) := by decide
theorem sp_514 : (Int16.ofInt (514)).toInt32 = zN (514) := by decide
theorem sp_526 : (Int16.ofInt (526)).toInt32 = zN (526) := by decide
theorem sp_538 : (Int16.ofInt (538)).toInt32 = zN (538) := by decide
theorem sp_550 : (Int16.ofInt (550)).toInt32 = zN (550) := by decide
theorem sp_554 : (Int16.ofInt (554)).toInt32 = zN (554) := by decide
theorem sp_558 : (Int16.ofInt (558)).toInt32 = zN (558) := by decide
theorem sp_578 : (Int16.ofInt (578)).toInt32 = zN (578) := by decide
theorem sp_600 : (Int16.ofInt (600)).toInt32 = zN (600) := by decide
theorem sp_601 : (Int16.ofInt (601)).toInt32 = zN (601) := by decide
theorem sp_999 : (Int16.ofInt (999)).toInt32 = zN (999) := by decide
theorem sp_1000 : (Int16.ofInt (1000)).toInt32 = zN (1000) := by decide
theorem sp_1734 : (Int16.ofInt (1734)).toInt32 = zN (1734) := by decide
theorem sp_9999 : (Int16.ofInt (9999)).toInt32 = zN (9999) := by decide
theorem sp_10000 : (Int16.ofInt (10000)).toInt32 = zN (10000) := by decide
theorem sp_12345 : (Int16.ofInt (12345)).toInt32 = zN (12345) := by decide
theorem sp_13000 : (Int16.ofInt (13000)).toInt32 = zN (13000) := by decide
theorem mem_ci {i : Nat} {e e1 : Int} {L : ML} (h : e = e1) (m : (i, Value.int (zN e1)) ∈ L) : (i, Value.int (zN e)) ∈ L := h ▸ m
theorem mem_cl {i : Nat} {e e1 : Int} {L : ML} (h : e = e1) (m : (i, Value.long (zL e1)) ∈ L) : (i, Value.long (zL e)) ∈ L := h ▸ m
theorem nl_X3_123 : Cond.methodLinkNest RX3 123 yX10_leastOf "FootOut" ∈ mNL := List.Mem.head _
theorem nl_X3_127 : Cond.methodLinkNest RX3 127 yX10_mostOf "FootOut" ∈ mNL := List.Mem.tail _ (List.Mem.head _)
theorem z_iconst {X : MX} {mi : MI} {C : MCall} {Rt : MPost} {pc : Nat} {L : ML} {S : List Value} {H : ZH} {n : Int} (dg : decode mi.2.1 (pc) = .ok (.iconst n, 1)) (kk : Ev X mi C Rt (pc + 1) L (.int (zN n) :: S) (eh H)) : Ev X mi C Rt pc L S (eh H) := x_iconst dg rfl kk
theorem z_bipush {X : MX} {mi : MI} {C : MCall} {Rt : MPost} {pc : Nat} {L : ML} {S : List Value} {H : ZH} {n : Int} (dg : decode mi.2.1 (pc) = .ok (.bipush n, 2)) (hv : (Int8.ofInt n).toInt32 = zN n) (kk : Ev X mi C Rt (pc + 2) L (.int (zN n) :: S) (eh H)) : Ev X mi C Rt pc L S (eh H) := x_bipush dg hv kk
theorem z_sipush {X : MX} {mi : MI} {C : MCall} {Rt : MPost} {pc : Nat} {L : ML} {S : List Value} {H : ZH} {n : Int} (dg : decode mi.2.1 (pc) = .ok (.sipush n, 3)) (hv : (Int16.ofInt n).toInt32 = zN n) (kk : Ev X mi C Rt (pc + 3) L (.int (zN n) :: S) (eh H)) : Ev X mi C Rt pc L S (eh H) := x_sipush dg hv kk
theorem z_lconst {X : MX} {mi : MI} {C : MCall} {Rt : MPost} {pc : Nat} {L : ML} {S : List Value} {H : ZH} (n : Int) {k : Fin 2} (dg : decode mi.2.1 (pc) = .ok (.lconst k, 1)) (hv : Int64.ofNat (k : Nat) = zL n) (kk : Ev X mi C Rt (pc + 1) L (.long (zL n) :: S) (eh H)) : Ev X mi C Rt pc L S (eh H) := x_lconst dg hv kk
theorem z_ldc {X : MX} {mi : MI} {C : MCall} {Rt : MPost} {pc : Nat} {L : ML} {S : List Value} {H : ZH} (n : Int) {idx : Nat} {v : Int32} (dg : decode mi.2.1 (pc) = .ok (.ldc idx, 2)) (hc : Cond.constant mi.1.cls idx v ∈ mG) (hv : v = zN n) (kk : Ev X mi C Rt (pc + 2) L (.int (zN n) :: S) (eh H)) : Ev X mi C Rt pc L S (eh H) := x_ldc dg hc (hv ▸ kk)
theorem z_ldc_w {X : MX} {mi : MI} {C : MCall} {Rt : MPost} {pc : Nat} {L : ML} {S : List Value} {H : ZH} (n : Int) {idx : Nat} {v : Int32} (dg : decode mi.2.1 (pc) = .ok (.ldc_w idx, 3)) (hc : Cond.constant mi.1.cls idx v ∈ mG) (hv : v = zN n) (kk : Ev X mi C Rt (pc + 3) L (.int (zN n) :: S) (eh H)) : Ev X mi C Rt pc L S (eh H) := x_ldc_w dg hc (hv ▸ kk)
theorem z_ldc2_w {X : MX} {mi : MI} {C : MCall} {Rt : MPost} {pc : Nat} {L : ML} {S : List Value} {H : ZH} (n : Int) {idx : Nat} {v : Int64} (dg : decode mi.2.1 (pc) = .ok (.ldc2_w idx, 3)) (hc : Cond.constantLong mi.1.cls idx v ∈ mG) (hv : v = zL n) (kk : Ev X mi C Rt (pc + 3) L (.long (zL n) :: S) (eh H)) : Ev X mi C Rt pc L S (eh H) := x_ldc2_w dg hc (hv ▸ kk)
theorem z_iadd {X : MX} {mi : MI} {C : MCall} {Rt : MPost} {pc : Nat} {L : ML} {S : List Value} {H : ZH} {a b : Int} (dg : decode mi.2.1 (pc) = .ok (.iadd, 1)) (kk : Ev X mi C Rt (pc + 1) L (.int (zN (a + b)) :: S) (eh H)) : Ev X mi C Rt pc L (.int (zN b) :: .int (zN a) :: S) (eh H) := x_iadd dg (zN_add a b ▸ kk)
theorem z_isub {X : MX} {mi : MI} {C : MCall} {Rt : MPost} {pc : Nat} {L : ML} {S : List Value} {H : ZH} {a b : Int} (dg : decode mi.2.1 (pc) = .ok (.isub, 1)) (kk : Ev X mi C Rt (pc + 1) L (.int (zN (a - b)) :: S) (eh H)) : Ev X mi C Rt pc L (.int (zN b) :: .int (zN a) :: S) (eh H) := x_isub dg (zN_sub a b ▸ kk)
theorem z_imul {X : MX} {mi : MI} {C : MCall} {Rt : MPost} {pc : Nat} {L : ML} {S : List Value} {H : ZH} {a b : Int} (dg : decode mi.2.1 (pc) = .ok (.imul, 1)) (kk : Ev X mi C Rt (pc + 1) L (.int (zN (a * b)) :: S) (eh H)) : Ev X mi C Rt pc L (.int (zN b) :: .int (zN a) :: S) (eh H) := x_imul dg (zN_mul a b ▸ kk)
theorem z_ladd {X : MX} {mi : MI} {C : MCall} {Rt : MPost} {pc : Nat} {L : ML} {S : List Value} {H : ZH} {a b : Int} (dg : decode mi.2.1 (pc) = .ok (.ladd, 1)) (kk : Ev X mi C Rt (pc + 1) L (.long (zL (a + b)) :: S) (eh H)) : Ev X mi C Rt pc L (.long (zL b) :: .long (zL a) :: S) (eh H) := x_ladd dg (zL_add a b ▸ kk)
theorem z_lsub {X : MX} {mi : MI} {C : MCall} {Rt : MPost} {pc : Nat} {L : ML} {S : List Value} {H : ZH} {a b : Int} (dg : decode mi.2.1 (pc) = .ok (.lsub, 1)) (kk : Ev X mi C Rt (pc + 1) L (.long (zL (a - b)) :: S) (eh H)) : Ev X mi C Rt pc L (.long (zL b) :: .long (zL a) :: S) (eh H) := x_lsub dg (zL_sub a b ▸ kk)
theorem z_lmul {X : MX} {mi : MI} {C : MCall} {Rt : MPost} {pc : Nat} {L : ML} {S : List Value} {H : ZH} {a b : Int} (dg : decode mi.2.1 (pc) = .ok (.lmul, 1)) (kk : Ev X mi C Rt (pc + 1) L (.long (zL (a * b)) :: S) (eh H)) : Ev X mi C Rt pc L (.long (zL b) :: .long (zL a) :: S) (eh H) := x_lmul dg (zL_mul a b ▸ kk)
theorem z_ineg {X : MX} {mi : MI} {C : MCall} {Rt : MPost} {pc : Nat} {L : ML} {S : List Value} {H : ZH} {a : Int} (dg : decode mi.2.1 (pc) = .ok (.ineg, 1)) (kk : Ev X mi C Rt (pc + 1) L (.int (zN (0 - a)) :: S) (eh H)) : Ev X mi C Rt pc L (.int (zN a) :: S) (eh H) := x_ineg dg (by rw [show (0 : Int32) = zN 0 from rfl, zN_sub]; exact kk)
theorem z_iand {X : MX} {mi : MI} {C : MCall} {Rt : MPost} {pc : Nat} {L : ML} {S : List Value} {H : ZH} {a b : Int} (m n : Nat) (dg : decode mi.2.1 (pc) = .ok (.iand, 1)) (ea : a = m) (eb : b = n) (kk : Ev X mi C Rt (pc + 1) L (.int (zN ((m &&& n : Nat) : Int)) :: S) (eh H)) : Ev X mi C Rt pc L (.int (zN b) :: .int (zN a) :: S) (eh H) := by subst ea; subst eb; exact x_iand dg (zN_and m n ▸ kk)
theorem z_ior {X : MX} {mi : MI} {C : MCall} {Rt : MPost} {pc : Nat} {L : ML} {S : List Value} {H : ZH} {a b : Int} (m n : Nat) (dg : decode mi.2.1 (pc) = .ok (.ior, 1)) (ea : a = m) (eb : b = n) (kk : Ev X mi C Rt (pc + 1) L (.int (zN ((m ||| n : Nat) : Int)) :: S) (eh H)) : Ev X mi C Rt pc L (.int (zN b) :: .int (zN a) :: S) (eh H) := by subst ea; subst eb; exact x_ior dg (zN_or m n ▸ kk)
theorem z_ixor {X : MX} {mi : MI} {C : MCall} {Rt : MPost} {pc : Nat} {L : ML} {S : List Value} {H : ZH} {a b : Int} (m n : Nat) (dg : decode mi.2.1 (pc) = .ok (.ixor, 1)) (ea : a = m) (eb : b = n) (kk : Ev X mi C Rt (pc + 1) L (.int (zN ((m ^^^ n : Nat) : Int)) :: S) (eh H)) : Ev X mi C Rt pc L (.int (zN b) :: .int (zN a) :: S) (eh H) := by subst ea; subst eb; exact x_ixor dg (zN_xor m n ▸ kk)
theorem z_ishr {X : MX} {mi : MI} {C : MCall} {Rt : MPost} {pc : Nat} {L : ML} {S : List Value} {H : ZH} {a b : Int} (k : Nat) (dg : decode mi.2.1 (pc) = .ok (.ishr, 1)) (eb : b = k) (hk : k < 32) (a1 : -2147483648 ≤ a) (a2 : a ≤ 2147483647) (kk : Ev X mi C Rt (pc + 1) L (.int (zN (a / 2 ^ k)) :: S) (eh H)) : Ev X mi C Rt pc L (.int (zN b) :: .int (zN a) :: S) (eh H) := by subst eb; exact x_ishr dg (zN_shr a1 a2 hk ▸ kk)
theorem z_ishl {X : MX} {mi : MI} {C : MCall} {Rt : MPost} {pc : Nat} {L : ML} {S : List Value} {H : ZH} {a b : Int} (k : Nat) (dg : decode mi.2.1 (pc) = .ok (.ishl, 1)) (eb : b = k) (hk : k < 32) (kk : Ev X mi C Rt (pc + 1) L (.int (zN (a * 2 ^ k)) :: S) (eh H)) : Ev X mi C Rt pc L (.int (zN b) :: .int (zN a) :: S) (eh H) := by subst eb; exact x_ishl dg (zN_shl a hk ▸ kk)
theorem z_idiv {X : MX} {mi : MI} {C : MCall} {Rt : MPost} {pc : Nat} {L : ML} {S : List Value} {H : ZH} {a b : Int} (dg : decode mi.2.1 (pc) = .ok (.idiv, 1)) (hz : b ≠ 0) (a1 : -2147483648 < a) (a2 : a ≤ 2147483647) (b1 : -2147483648 ≤ b) (b2 : b ≤ 2147483647) (kk : Ev X mi C Rt (pc + 1) L (.int (zN (a.tdiv b)) :: S) (eh H)) : Ev X mi C Rt pc L (.int (zN b) :: .int (zN a) :: S) (eh H) := x_idiv dg (fun h => hz (by rw [show (0 : Int32) = zN 0 from rfl] at h; exact (zN_eq b1 b2 (by decide) (by decide)).mp h)) (zN_tdiv a1 a2 b1 b2 ▸ kk)
theorem z_idivP {X : MX} {mi : MI} {C : MCall} {Rt : MPost} {pc : Nat} {L : ML} {S : List Value} {H : ZH} {a b : Int} (dg : decode mi.2.1 (pc) = .ok (.idiv, 1)) (hz : 0 < b) (a1 : 0 ≤ a) (a2 : a ≤ 2147483647) (b2 : b ≤ 2147483647) (kk : Ev X mi C Rt (pc + 1) L (.int (zN (a / b)) :: S) (eh H)) : Ev X mi C Rt pc L (.int (zN b) :: .int (zN a) :: S) (eh H) := z_idiv dg (by omega) (by omega) a2 (by omega) b2 (by rw [Int.tdiv_eq_ediv_of_nonneg a1]; exact kk)
theorem z_irem {X : MX} {mi : MI} {C : MCall} {Rt : MPost} {pc : Nat} {L : ML} {S : List Value} {H : ZH} {a b : Int} (dg : decode mi.2.1 (pc) = .ok (.irem, 1)) (hz : b ≠ 0) (a1 : -2147483648 < a) (a2 : a ≤ 2147483647) (b1 : -2147483648 ≤ b) (b2 : b ≤ 2147483647) (kk : Ev X mi C Rt (pc + 1) L (.int (zN (a.tmod b)) :: S) (eh H)) : Ev X mi C Rt pc L (.int (zN b) :: .int (zN a) :: S) (eh H) := x_irem dg (fun h => hz (by rw [show (0 : Int32) = zN 0 from rfl] at h; exact (zN_eq b1 b2 (by decide) (by decide)).mp h)) (zN_rem a1 a2 b1 b2 ▸ kk)
theorem z_iremP {X : MX} {mi : MI} {C : MCall} {Rt : MPost} {pc : Nat} {L : ML} {S : List Value} {H : ZH} {a b : Int} (dg : decode mi.2.1 (pc) = .ok (.irem, 1)) (hz : 0 < b) (a1 : 0 ≤ a) (a2 : a ≤ 2147483647) (b2 : b ≤ 2147483647) (kk : Ev X mi C Rt (pc + 1) L (.int (zN (a % b)) :: S) (eh H)) : Ev X mi C Rt pc L (.int (zN b) :: .int (zN a) :: S) (eh H) := z_irem dg (by omega) (by omega) a2 (by omega) b2 (by rw [Int.tmod_eq_emod_of_nonneg a1]; exact kk)
theorem z_ldiv {X : MX} {mi : MI} {C : MCall} {Rt : MPost} {pc : Nat} {L : ML} {S : List Value} {H : ZH} {a b : Int} (dg : decode mi.2.1 (pc) = .ok (.ldiv, 1)) (hz : b ≠ 0) (a1 : -9223372036854775808 < a) (a2 : a ≤ 9223372036854775807) (b1 : -9223372036854775808 ≤ b) (b2 : b ≤ 9223372036854775807) (kk : Ev X mi C Rt (pc + 1) L (.long (zL (a.tdiv b)) :: S) (eh H)) : Ev X mi C Rt pc L (.long (zL b) :: .long (zL a) :: S) (eh H) := x_ldiv dg (fun h => hz (by rw [show (0 : Int64) = zL 0 from rfl] at h; exact (zL_eq b1 b2 (by decide) (by decide)).mp h)) (zL_tdiv a1 a2 b1 b2 ▸ kk)
theorem z_ldivP {X : MX} {mi : MI} {C : MCall} {Rt : MPost} {pc : Nat} {L : ML} {S : List Value} {H : ZH} {a b : Int} (dg : decode mi.2.1 (pc) = .ok (.ldiv, 1)) (hz : 0 < b) (a1 : 0 ≤ a) (a2 : a ≤ 9223372036854775807) (b2 : b ≤ 9223372036854775807) (kk : Ev X mi C Rt (pc + 1) L (.long (zL (a / b)) :: S) (eh H)) : Ev X mi C Rt pc L (.long (zL b) :: .long (zL a) :: S) (eh H) := z_ldiv dg (by omega) (by omega) a2 (by omega) b2 (by rw [Int.tdiv_eq_ediv_of_nonneg a1]; exact kk)
theorem z_lrem {X : MX} {mi : MI} {C : MCall} {Rt : MPost} {pc : Nat} {L : ML} {S : List Value} {H : ZH} {a b : Int} (dg : decode mi.2.1 (pc) = .ok (.lrem, 1)) (hz : b ≠ 0) (a1 : -9223372036854775808 < a) (a2 : a ≤ 9223372036854775807) (b1 : -9223372036854775808 ≤ b) (b2 : b ≤ 9223372036854775807) (kk : Ev X mi C Rt (pc + 1) L (.long (zL (a.tmod b)) :: S) (eh H)) : Ev X mi C Rt pc L (.long (zL b) :: .long (zL a) :: S) (eh H) := x_lrem dg (fun h => hz (by rw [show (0 : Int64) = zL 0 from rfl] at h; exact (zL_eq b1 b2 (by decide) (by decide)).mp h)) (zL_rem a1 a2 b1 b2 ▸ kk)
theorem z_lremP {X : MX} {mi : MI} {C : MCall} {Rt : MPost} {pc : Nat} {L : ML} {S : List Value} {H : ZH} {a b : Int} (dg : decode mi.2.1 (pc) = .ok (.lrem, 1)) (hz : 0 < b) (a1 : 0 ≤ a) (a2 : a ≤ 9223372036854775807) (b2 : b ≤ 9223372036854775807) (kk : Ev X mi C Rt (pc + 1) L (.long (zL (a % b)) :: S) (eh H)) : Ev X mi C Rt pc L (.long (zL b) :: .long (zL a) :: S) (eh H) := z_lrem dg (by omega) (by omega) a2 (by omega) b2 (by rw [Int.tmod_eq_emod_of_nonneg a1]; exact kk)
theorem z_i2l {X : MX} {mi : MI} {C : MCall} {Rt : MPost} {pc : Nat} {L : ML} {S : List Value} {H : ZH} {a : Int} (dg : decode mi.2.1 (pc) = .ok (.i2l, 1)) (a1 : -2147483648 ≤ a) (a2 : a ≤ 2147483647) (kk : Ev X mi C Rt (pc + 1) L (.long (zL a) :: S) (eh H)) : Ev X mi C Rt pc L (.int (zN a) :: S) (eh H) := x_i2l dg (zL_i a1 a2 ▸ kk)
theorem z_l2i {X : MX} {mi : MI} {C : MCall} {Rt : MPost} {pc : Nat} {L : ML} {S : List Value} {H : ZH} {a : Int} (dg : decode mi.2.1 (pc) = .ok (.l2i, 1)) (kk : Ev X mi C Rt (pc + 1) L (.int (zN a) :: S) (eh H)) : Ev X mi C Rt pc L (.long (zL a) :: S) (eh H) := x_l2i dg (zN_l a ▸ kk)
theorem z_l2iw {X : MX} {mi : MI} {C : MCall} {Rt : MPost} {pc : Nat} {L : ML} {S : List Value} {H : ZH} {a : Int} (dg : decode mi.2.1 (pc) = .ok (.l2i, 1)) (kk : Ev X mi C Rt (pc + 1) L (.int (zN (a.bmod 4294967296)) :: S) (eh H)) : Ev X mi C Rt pc L (.long (zL a) :: S) (eh H) := x_l2i dg (by rw [zN_l, ← zN_w]; exact kk)
theorem z_i2b {X : MX} {mi : MI} {C : MCall} {Rt : MPost} {pc : Nat} {L : ML} {S : List Value} {H : ZH} {a : Int} (dg : decode mi.2.1 (pc) = .ok (.i2b, 1)) (kk : Ev X mi C Rt (pc + 1) L (.int (zN (a.bmod 256)) :: S) (eh H)) : Ev X mi C Rt pc L (.int (zN a) :: S) (eh H) := x_i2b dg (zN_i2b a ▸ kk)
theorem z_i2s {X : MX} {mi : MI} {C : MCall} {Rt : MPost} {pc : Nat} {L : ML} {S : List Value} {H : ZH} {a : Int} (dg : decode mi.2.1 (pc) = .ok (.i2s, 1)) (kk : Ev X mi C Rt (pc + 1) L (.int (zN (a.bmod 65536)) :: S) (eh H)) : Ev X mi C Rt pc L (.int (zN a) :: S) (eh H) := x_i2s dg (zN_i2s a ▸ kk)
theorem z_iushr16 {X : MX} {mi : MI} {C : MCall} {Rt : MPost} {pc : Nat} {L : ML} {S : List Value} {H : ZH} {a b : Int} (dg : decode mi.2.1 (pc) = .ok (.iushr, 1)) (eb : b = 16) (kk : Ev X mi C Rt (pc + 1) L (.int (zN (a % 4294967296 / 65536)) :: S) (eh H)) : Ev X mi C Rt pc L (.int (zN b) :: .int (zN a) :: S) (eh H) := by subst eb; exact x_iushr dg (zN_ushr16 a ▸ kk)
theorem z_iinc {X : MX} {mi : MI} {C : MCall} {Rt : MPost} {pc : Nat} {L : ML} {S : List Value} {H : ZH} {a : Int} {i : Nat} {n : Int} (dg : decode mi.2.1 (pc) = .ok (.iinc i n, 3)) (hm : (i, Value.int (zN a)) ∈ L) (hn : i < mi.2.2.1) (kk : Ev X mi C Rt (pc + 3) (st1 i (.int (zN (a + n))) L) S (eh H)) : Ev X mi C Rt pc L S (eh H) := x_iinc dg hm (zN_add a n) hn kk
theorem z_icmp_eq {X : MX} {mi : MI} {C : MCall} {Rt : MPost} {pc : Nat} {L : ML} {S : List Value} {H : ZH} {a b : Int} {off : Int} {tgt : Nat} (dg : decode mi.2.1 (pc) = .ok (.if_icmp .eq off, 3)) (ht : (pc : Int) + off = (tgt : Int)) (a1 : -2147483648 ≤ a) (a2 : a ≤ 2147483647) (b1 : -2147483648 ≤ b) (b2 : b ≤ 2147483647) (kt : a = b → Ev X mi C Rt tgt L S (eh H)) (kf : a ≠ b → Ev X mi C Rt (pc + 3) L S (eh H)) : Ev X mi C Rt pc L (.int (zN b) :: .int (zN a) :: S) (eh H) := x_icmp_eq dg ht (fun h => kt ((zN_eq a1 a2 b1 b2).mp h)) (fun h => kf (fun e => h ((zN_eq a1 a2 b1 b2).mpr e)))
theorem z_if_eq {X : MX} {mi : MI} {C : MCall} {Rt : MPost} {pc : Nat} {L : ML} {S : List Value} {H : ZH} {a : Int} {off : Int} {tgt : Nat} (dg : decode mi.2.1 (pc) = .ok (.ifCond .eq off, 3)) (ht : (pc : Int) + off = (tgt : Int)) (a1 : -2147483648 ≤ a) (a2 : a ≤ 2147483647) (kt : a = 0 → Ev X mi C Rt tgt L S (eh H)) (kf : a ≠ 0 → Ev X mi C Rt (pc + 3) L S (eh H)) : Ev X mi C Rt pc L (.int (zN a) :: S) (eh H) := x_if_eq dg ht (fun h => kt ((zN_eq a1 a2 (by decide : (-2147483648 : Int) ≤ 0) (by decide : (0 : Int) ≤ 2147483647)).mp h)) (fun h => kf (fun e => h ((zN_eq a1 a2 (by decide : (-2147483648 : Int) ≤ 0) (by decide : (0 : Int) ≤ 2147483647)).mpr e)))
theorem z_lcmp_eq {X : MX} {mi : MI} {C : MCall} {Rt : MPost} {pc : Nat} {L : ML} {S : List Value} {H : ZH} {a b : Int} {off : Int} {tgt : Nat} (dg : decode mi.2.1 (pc) = .ok (.lcmp, 1)) (d2 : decode mi.2.1 (pc + 1) = .ok (.ifCond .eq off, 3)) (ht : ((pc + 1 : Nat) : Int) + off = (tgt : Int)) (a1 : -9223372036854775808 ≤ a) (a2 : a ≤ 9223372036854775807) (b1 : -9223372036854775808 ≤ b) (b2 : b ≤ 9223372036854775807) (kt : a = b → Ev X mi C Rt tgt L S (eh H)) (kf : a ≠ b → Ev X mi C Rt (pc + 1 + 3) L S (eh H)) : Ev X mi C Rt pc L (.long (zL b) :: .long (zL a) :: S) (eh H) := x_lcmp dg (by rw [zL_cmp a1 a2 b1 b2]; exact z_if_eq d2 ht (zcm_1 a b) (zcm_2 a b) (fun h => kt ((zcm_eq a b).mp h)) (fun h => kf ((zcm_ne a b).mp h)))
theorem z_icmp_ne {X : MX} {mi : MI} {C : MCall} {Rt : MPost} {pc : Nat} {L : ML} {S : List Value} {H : ZH} {a b : Int} {off : Int} {tgt : Nat} (dg : decode mi.2.1 (pc) = .ok (.if_icmp .ne off, 3)) (ht : (pc : Int) + off = (tgt : Int)) (a1 : -2147483648 ≤ a) (a2 : a ≤ 2147483647) (b1 : -2147483648 ≤ b) (b2 : b ≤ 2147483647) (kt : a ≠ b → Ev X mi C Rt tgt L S (eh H)) (kf : a = b → Ev X mi C Rt (pc + 3) L S (eh H)) : Ev X mi C Rt pc L (.int (zN b) :: .int (zN a) :: S) (eh H) := x_icmp_ne dg ht (fun h => kt (fun e => h ((zN_eq a1 a2 b1 b2).mpr e))) (fun h => kf ((zN_eq a1 a2 b1 b2).mp h))
theorem z_if_ne {X : MX} {mi : MI} {C : MCall} {Rt : MPost} {pc : Nat} {L : ML} {S : List Value} {H : ZH} {a : Int} {off : Int} {tgt : Nat} (dg : decode mi.2.1 (pc) = .ok (.ifCond .ne off, 3)) (ht : (pc : Int) + off = (tgt : Int)) (a1 : -2147483648 ≤ a) (a2 : a ≤ 2147483647) (kt : a ≠ 0 → Ev X mi C Rt tgt L S (eh H)) (kf : a = 0 → Ev X mi C Rt (pc + 3) L S (eh H)) : Ev X mi C Rt pc L (.int (zN a) :: S) (eh H) := x_if_ne dg ht (fun h => kt (fun e => h ((zN_eq a1 a2 (by decide : (-2147483648 : Int) ≤ 0) (by decide : (0 : Int) ≤ 2147483647)).mpr e))) (fun h => kf ((zN_eq a1 a2 (by decide : (-2147483648 : Int) ≤ 0) (by decide : (0 : Int) ≤ 2147483647)).mp h))
theorem z_lcmp_ne {X : MX} {mi : MI} {C : MCall} {Rt : MPost} {pc : Nat} {L : ML} {S : List Value} {H : ZH} {a b : Int} {off : Int} {tgt : Nat} (dg : decode mi.2.1 (pc) = .ok (.lcmp, 1)) (d2 : decode mi.2.1 (pc + 1) = .ok (.ifCond .ne off, 3)) (ht : ((pc + 1 : Nat) : Int) + off = (tgt : Int)) (a1 : -9223372036854775808 ≤ a) (a2 : a ≤ 9223372036854775807) (b1 : -9223372036854775808 ≤ b) (b2 : b ≤ 9223372036854775807) (kt : a ≠ b → Ev X mi C Rt tgt L S (eh H)) (kf : a = b → Ev X mi C Rt (pc + 1 + 3) L S (eh H)) : Ev X mi C Rt pc L (.long (zL b) :: .long (zL a) :: S) (eh H) := x_lcmp dg (by rw [zL_cmp a1 a2 b1 b2]; exact z_if_ne d2 ht (zcm_1 a b) (zcm_2 a b) (fun h => kt ((zcm_ne a b).mp h)) (fun h => kf ((zcm_eq a b).mp h)))
theorem z_icmp_lt {X : MX} {mi : MI} {C : MCall} {Rt : MPost} {pc : Nat} {L : ML} {S : List Value} {H : ZH} {a b : Int} {off : Int} {tgt : Nat} (dg : decode mi.2.1 (pc) = .ok (.if_icmp .lt off, 3)) (ht : (pc : Int) + off = (tgt : Int)) (a1 : -2147483648 ≤ a) (a2 : a ≤ 2147483647) (b1 : -2147483648 ≤ b) (b2 : b ≤ 2147483647) (kt : a < b → Ev X mi C Rt tgt L S (eh H)) (kf : b ≤ a → Ev X mi C Rt (pc + 3) L S (eh H)) : Ev X mi C Rt pc L (.int (zN b) :: .int (zN a) :: S) (eh H) := x_icmp_lt dg ht (fun h => kt ((zN_lt a1 a2 b1 b2).mp h)) (fun h => kf (Int.not_lt.mp (fun e => h ((zN_lt a1 a2 b1 b2).mpr e))))
theorem z_if_lt {X : MX} {mi : MI} {C : MCall} {Rt : MPost} {pc : Nat} {L : ML} {S : List Value} {H : ZH} {a : Int} {off : Int} {tgt : Nat} (dg : decode mi.2.1 (pc) = .ok (.ifCond .lt off, 3)) (ht : (pc : Int) + off = (tgt : Int)) (a1 : -2147483648 ≤ a) (a2 : a ≤ 2147483647) (kt : a < 0 → Ev X mi C Rt tgt L S (eh H)) (kf : 0 ≤ a → Ev X mi C Rt (pc + 3) L S (eh H)) : Ev X mi C Rt pc L (.int (zN a) :: S) (eh H) := x_if_lt dg ht (fun h => kt ((zN_lt a1 a2 (by decide : (-2147483648 : Int) ≤ 0) (by decide : (0 : Int) ≤ 2147483647)).mp h)) (fun h => kf (Int.not_lt.mp (fun e => h ((zN_lt a1 a2 (by decide : (-2147483648 : Int) ≤ 0) (by decide : (0 : Int) ≤ 2147483647)).mpr e))))
theorem z_lcmp_lt {X : MX} {mi : MI} {C : MCall} {Rt : MPost} {pc : Nat} {L : ML} {S : List Value} {H : ZH} {a b : Int} {off : Int} {tgt : Nat} (dg : decode mi.2.1 (pc) = .ok (.lcmp, 1)) (d2 : decode mi.2.1 (pc + 1) = .ok (.ifCond .lt off, 3)) (ht : ((pc + 1 : Nat) : Int) + off = (tgt : Int)) (a1 : -9223372036854775808 ≤ a) (a2 : a ≤ 9223372036854775807) (b1 : -9223372036854775808 ≤ b) (b2 : b ≤ 9223372036854775807) (kt : a < b → Ev X mi C Rt tgt L S (eh H)) (kf : b ≤ a → Ev X mi C Rt (pc + 1 + 3) L S (eh H)) : Ev X mi C Rt pc L (.long (zL b) :: .long (zL a) :: S) (eh H) := x_lcmp dg (by rw [zL_cmp a1 a2 b1 b2]; exact z_if_lt d2 ht (zcm_1 a b) (zcm_2 a b) (fun h => kt ((zcm_lt a b).mp h)) (fun h => kf ((zcm_ge a b).mp h)))
theorem z_icmp_ge {X : MX} {mi : MI} {C : MCall} {Rt : MPost} {pc : Nat} {L : ML} {S : List Value} {H : ZH} {a b : Int} {off : Int} {tgt : Nat} (dg : decode mi.2.1 (pc) = .ok (.if_icmp .ge off, 3)) (ht : (pc : Int) + off = (tgt : Int)) (a1 : -2147483648 ≤ a) (a2 : a ≤ 2147483647) (b1 : -2147483648 ≤ b) (b2 : b ≤ 2147483647) (kt : b ≤ a → Ev X mi C Rt tgt L S (eh H)) (kf : a < b → Ev X mi C Rt (pc + 3) L S (eh H)) : Ev X mi C Rt pc L (.int (zN b) :: .int (zN a) :: S) (eh H) := x_icmp_ge dg ht (fun h => kt ((zN_le b1 b2 a1 a2).mp h)) (fun h => kf (Int.not_le.mp (fun e => h ((zN_le b1 b2 a1 a2).mpr e))))
theorem z_if_ge {X : MX} {mi : MI} {C : MCall} {Rt : MPost} {pc : Nat} {L : ML} {S : List Value} {H : ZH} {a : Int} {off : Int} {tgt : Nat} (dg : decode mi.2.1 (pc) = .ok (.ifCond .ge off, 3)) (ht : (pc : Int) + off = (tgt : Int)) (a1 : -2147483648 ≤ a) (a2 : a ≤ 2147483647) (kt : 0 ≤ a → Ev X mi C Rt tgt L S (eh H)) (kf : a < 0 → Ev X mi C Rt (pc + 3) L S (eh H)) : Ev X mi C Rt pc L (.int (zN a) :: S) (eh H) := x_if_ge dg ht (fun h => kt ((zN_le (by decide : (-2147483648 : Int) ≤ 0) (by decide : (0 : Int) ≤ 2147483647) a1 a2).mp h)) (fun h => kf (Int.not_le.mp (fun e => h ((zN_le (by decide : (-2147483648 : Int) ≤ 0) (by decide : (0 : Int) ≤ 2147483647) a1 a2).mpr e))))
theorem z_lcmp_ge {X : MX} {mi : MI} {C : MCall} {Rt : MPost} {pc : Nat} {L : ML} {S : List Value} {H : ZH} {a b : Int} {off : Int} {tgt : Nat} (dg : decode mi.2.1 (pc) = .ok (.lcmp, 1)) (d2 : decode mi.2.1 (pc + 1) = .ok (.ifCond .ge off, 3)) (ht : ((pc + 1 : Nat) : Int) + off = (tgt : Int)) (a1 : -9223372036854775808 ≤ a) (a2 : a ≤ 9223372036854775807) (b1 : -9223372036854775808 ≤ b) (b2 : b ≤ 9223372036854775807) (kt : b ≤ a → Ev X mi C Rt tgt L S (eh H)) (kf : a < b → Ev X mi C Rt (pc + 1 + 3) L S (eh H)) : Ev X mi C Rt pc L (.long (zL b) :: .long (zL a) :: S) (eh H) := x_lcmp dg (by rw [zL_cmp a1 a2 b1 b2]; exact z_if_ge d2 ht (zcm_1 a b) (zcm_2 a b) (fun h => kt ((zcm_ge a b).mp h)) (fun h => kf ((zcm_lt a b).mp h)))
theorem z_icmp_gt {X : MX} {mi : MI} {C : MCall} {Rt : MPost} {pc : Nat} {L : ML} {S : List Value} {H : ZH} {a b : Int} {off : Int} {tgt : Nat} (dg : decode mi.2.1 (pc) = .ok (.if_icmp .gt off, 3)) (ht : (pc : Int) + off = (tgt : Int)) (a1 : -2147483648 ≤ a) (a2 : a ≤ 2147483647) (b1 : -2147483648 ≤ b) (b2 : b ≤ 2147483647) (kt : b < a → Ev X mi C Rt tgt L S (eh H)) (kf : a ≤ b → Ev X mi C Rt (pc + 3) L S (eh H)) : Ev X mi C Rt pc L (.int (zN b) :: .int (zN a) :: S) (eh H) := x_icmp_gt dg ht (fun h => kt ((zN_lt b1 b2 a1 a2).mp h)) (fun h => kf (Int.not_lt.mp (fun e => h ((zN_lt b1 b2 a1 a2).mpr e))))
theorem z_if_gt {X : MX} {mi : MI} {C : MCall} {Rt : MPost} {pc : Nat} {L : ML} {S : List Value} {H : ZH} {a : Int} {off : Int} {tgt : Nat} (dg : decode mi.2.1 (pc) = .ok (.ifCond .gt off, 3)) (ht : (pc : Int) + off = (tgt : Int)) (a1 : -2147483648 ≤ a) (a2 : a ≤ 2147483647) (kt : 0 < a → Ev X mi C Rt tgt L S (eh H)) (kf : a ≤ 0 → Ev X mi C Rt (pc + 3) L S (eh H)) : Ev X mi C Rt pc L (.int (zN a) :: S) (eh H) := x_if_gt dg ht (fun h => kt ((zN_lt (by decide : (-2147483648 : Int) ≤ 0) (by decide : (0 : Int) ≤ 2147483647) a1 a2).mp h)) (fun h => kf (Int.not_lt.mp (fun e => h ((zN_lt (by decide : (-2147483648 : Int) ≤ 0) (by decide : (0 : Int) ≤ 2147483647) a1 a2).mpr e))))
theorem z_lcmp_gt {X : MX} {mi : MI} {C : MCall} {Rt : MPost} {pc : Nat} {L : ML} {S : List Value} {H : ZH} {a b : Int} {off : Int} {tgt : Nat} (dg : decode mi.2.1 (pc) = .ok (.lcmp, 1)) (d2 : decode mi.2.1 (pc + 1) = .ok (.ifCond .gt off, 3)) (ht : ((pc + 1 : Nat) : Int) + off = (tgt : Int)) (a1 : -9223372036854775808 ≤ a) (a2 : a ≤ 9223372036854775807) (b1 : -9223372036854775808 ≤ b) (b2 : b ≤ 9223372036854775807) (kt : b < a → Ev X mi C Rt tgt L S (eh H)) (kf : a ≤ b → Ev X mi C Rt (pc + 1 + 3) L S (eh H)) : Ev X mi C Rt pc L (.long (zL b) :: .long (zL a) :: S) (eh H) := x_lcmp dg (by rw [zL_cmp a1 a2 b1 b2]; exact z_if_gt d2 ht (zcm_1 a b) (zcm_2 a b) (fun h => kt ((zcm_gt a b).mp h)) (fun h => kf ((zcm_le a b).mp h)))
theorem z_icmp_le {X : MX} {mi : MI} {C : MCall} {Rt : MPost} {pc : Nat} {L : ML} {S : List Value} {H : ZH} {a b : Int} {off : Int} {tgt : Nat} (dg : decode mi.2.1 (pc) = .ok (.if_icmp .le off, 3)) (ht : (pc : Int) + off = (tgt : Int)) (a1 : -2147483648 ≤ a) (a2 : a ≤ 2147483647) (b1 : -2147483648 ≤ b) (b2 : b ≤ 2147483647) (kt : a ≤ b → Ev X mi C Rt tgt L S (eh H)) (kf : b < a → Ev X mi C Rt (pc + 3) L S (eh H)) : Ev X mi C Rt pc L (.int (zN b) :: .int (zN a) :: S) (eh H) := x_icmp_le dg ht (fun h => kt ((zN_le a1 a2 b1 b2).mp h)) (fun h => kf (Int.not_le.mp (fun e => h ((zN_le a1 a2 b1 b2).mpr e))))
theorem z_if_le {X : MX} {mi : MI} {C : MCall} {Rt : MPost} {pc : Nat} {L : ML} {S : List Value} {H : ZH} {a : Int} {off : Int} {tgt : Nat} (dg : decode mi.2.1 (pc) = .ok (.ifCond .le off, 3)) (ht : (pc : Int) + off = (tgt : Int)) (a1 : -2147483648 ≤ a) (a2 : a ≤ 2147483647) (kt : a ≤ 0 → Ev X mi C Rt tgt L S (eh H)) (kf : 0 < a → Ev X mi C Rt (pc + 3) L S (eh H)) : Ev X mi C Rt pc L (.int (zN a) :: S) (eh H) := x_if_le dg ht (fun h => kt ((zN_le a1 a2 (by decide : (-2147483648 : Int) ≤ 0) (by decide : (0 : Int) ≤ 2147483647)).mp h)) (fun h => kf (Int.not_le.mp (fun e => h ((zN_le a1 a2 (by decide : (-2147483648 : Int) ≤ 0) (by decide : (0 : Int) ≤ 2147483647)).mpr e))))
theorem z_lcmp_le {X : MX} {mi : MI} {C : MCall} {Rt : MPost} {pc : Nat} {L : ML} {S : List Value} {H : ZH} {a b : Int} {off : Int} {tgt : Nat} (dg : decode mi.2.1 (pc) = .ok (.lcmp, 1)) (d2 : decode mi.2.1 (pc + 1) = .ok (.ifCond .le off, 3)) (ht : ((pc + 1 : Nat) : Int) + off = (tgt : Int)) (a1 : -9223372036854775808 ≤ a) (a2 : a ≤ 9223372036854775807) (b1 : -9223372036854775808 ≤ b) (b2 : b ≤ 9223372036854775807) (kt : a ≤ b → Ev X mi C Rt tgt L S (eh H)) (kf : b < a → Ev X mi C Rt (pc + 1 + 3) L S (eh H)) : Ev X mi C Rt pc L (.long (zL b) :: .long (zL a) :: S) (eh H) := x_lcmp dg (by rw [zL_cmp a1 a2 b1 b2]; exact z_if_le d2 ht (zcm_1 a b) (zcm_2 a b) (fun h => kt ((zcm_le a b).mp h)) (fun h => kf ((zcm_gt a b).mp h)))
theorem z_tabOut {X : MX} {mi : MI} {C : MCall} {Rt : MPost} {pc : Nat} {L : ML} {S : List Value} {H : ZH} {dflt lo hi : Int} {offs : Array Int} {len : Nat} {a : Int} {tgt : Nat} (dg : decode mi.2.1 pc = .ok (.tableswitch dflt lo hi offs, len)) (a1 : -2147483648 ≤ a) (a2 : a ≤ 2147483647) (hh : a < lo ∨ hi < a) (ht : (pc : Int) + dflt = (tgt : Int)) (kk : Ev X mi C Rt tgt L S (eh H)) : Ev X mi C Rt pc L (.int (zN a) :: S) (eh H) := x_tabOut dg (by rw [zN_toInt a1 a2]; exact hh) ht kk
theorem z_tabIn {X : MX} {mi : MI} {C : MCall} {Rt : MPost} {pc : Nat} {L : ML} {S : List Value} {H : ZH} {dflt lo hi : Int} {offs : Array Int} {len : Nat} {a : Int} (k : Int) {off : Int} {tgt : Nat} (dg : decode mi.2.1 pc = .ok (.tableswitch dflt lo hi offs, len)) (ha : a = k) (a1 : -2147483648 ≤ a) (a2 : a ≤ 2147483647) (h1 : lo ≤ k) (h2 : k ≤ hi) (ho : offs[(k - lo).toNat]? = some off) (ht : (pc : Int) + off = (tgt : Int)) (kk : Ev X mi C Rt tgt L S (eh H)) : Ev X mi C Rt pc L (.int (zN a) :: S) (eh H) := by subst ha; exact x_tabIn dg (by rw [zN_toInt a1 a2]; omega) (by rw [zN_toInt a1 a2]; omega) (by rw [zN_toInt a1 a2]; exact ho) ht kk
theorem z_iald {X : MX} {mi : MI} {C : MCall} {Rt : MPost} {pc : Nat} {L : ML} {S : List Value} {H : ZH} {c n : Nat} {i : Int} (j : Nat) (v : Int) (dg : decode mi.2.1 (pc) = .ok (.iaload, 1)) (sh : X.1[c]? = some (.inr (0, n))) (hi : i = (j : Int)) (hj : j < n) (hn31 : n ≤ 2000000000) (hv : H.1 c j = v) (kk : Ev X mi C Rt (pc + 1) L (.int (zN v) :: S) (eh H)) : Ev X mi C Rt pc L (.int (zN i) :: .ref c :: S) (eh H) := x_iald dg sh (by subst hi; rw [zN_nat]; exact vp_in_nI hj (by omega)) (by rw [show (zN i).toNatClampNeg = j from (by subst hi; rw [zN_nat]; exact nI_clamp (by omega))]; subst hv; exact kk)
theorem z_zald {X : MX} {mi : MI} {C : MCall} {Rt : MPost} {pc : Nat} {L : ML} {S : List Value} {H : ZH} {c n : Nat} {i : Int} (j : Nat) (v : Int) (dg : decode mi.2.1 (pc) = .ok (.baload, 1)) (sh : X.1[c]? = some (.inr (2, n))) (hi : i = (j : Int)) (hj : j < n) (hn31 : n ≤ 2000000000) (hv : H.1 c j = v) (kk : Ev X mi C Rt (pc + 1) L (.int (zN v) :: S) (eh H)) : Ev X mi C Rt pc L (.int (zN i) :: .ref c :: S) (eh H) := x_zald dg sh (by subst hi; rw [zN_nat]; exact vp_in_nI hj (by omega)) (by rw [show (zN i).toNatClampNeg = j from (by subst hi; rw [zN_nat]; exact nI_clamp (by omega))]; subst hv; exact kk)
theorem z_bald {X : MX} {mi : MI} {C : MCall} {Rt : MPost} {pc : Nat} {L : ML} {S : List Value} {H : ZH} {c n : Nat} {i : Int} (j : Nat) (v : Int) (dg : decode mi.2.1 (pc) = .ok (.baload, 1)) (sh : X.1[c]? = some (.inr (3, n))) (hi : i = (j : Int)) (hj : j < n) (hn31 : n ≤ 2000000000) (hv : H.1 c j = v) (kk : Ev X mi C Rt (pc + 1) L (.int (zN v) :: S) (eh H)) : Ev X mi C Rt pc L (.int (zN i) :: .ref c :: S) (eh H) := x_bald dg sh (by subst hi; rw [zN_nat]; exact vp_in_nI hj (by omega)) (by rw [show (zN i).toNatClampNeg = j from (by subst hi; rw [zN_nat]; exact nI_clamp (by omega))]; subst hv; exact kk)
theorem z_lald {X : MX} {mi : MI} {C : MCall} {Rt : MPost} {pc : Nat} {L : ML} {S : List Value} {H : ZH} {c n : Nat} {i : Int} (j : Nat) (v : Int) (dg : decode mi.2.1 (pc) = .ok (.laload, 1)) (sh : X.1[c]? = some (.inr (1, n))) (hi : i = (j : Int)) (hj : j < n) (hn31 : n ≤ 2000000000) (hv : H.2 c j = v) (kk : Ev X mi C Rt (pc + 1) L (.long (zL v) :: S) (eh H)) : Ev X mi C Rt pc L (.int (zN i) :: .ref c :: S) (eh H) := x_lald dg sh (by subst hi; rw [zN_nat]; exact vp_in_nI hj (by omega)) (by rw [show (zN i).toNatClampNeg = j from (by subst hi; rw [zN_nat]; exact nI_clamp (by omega))]; subst hv; exact kk)
theorem z_aald4 {X : MX} {mi : MI} {C : MCall} {Rt : MPost} {pc : Nat} {L : ML} {S : List Value} {H : ZH} {c n : Nat} {i : Int} (j r : Nat) (dg : decode mi.2.1 (pc) = .ok (.aaload, 1)) (sh : X.1[c]? = some (.inr (4, n))) (hi : i = (j : Int)) (hj : j < n) (hn31 : n ≤ 2000000000) (hr : X.2 c j = r) (kk : Ev X mi C Rt (pc + 1) L (.ref r :: S) (eh H)) : Ev X mi C Rt pc L (.int (zN i) :: .ref c :: S) (eh H) := x_aald4 dg sh (by subst hi; rw [zN_nat]; exact vp_in_nI hj (by omega)) (by rw [show (zN i).toNatClampNeg = j from (by subst hi; rw [zN_nat]; exact nI_clamp (by omega)), hr]; exact kk)
theorem z_aald5 {X : MX} {mi : MI} {C : MCall} {Rt : MPost} {pc : Nat} {L : ML} {S : List Value} {H : ZH} {c n : Nat} {i : Int} (j r : Nat) (dg : decode mi.2.1 (pc) = .ok (.aaload, 1)) (sh : X.1[c]? = some (.inr (5, n))) (hi : i = (j : Int)) (hj : j < n) (hn31 : n ≤ 2000000000) (hr : X.2 c j = r) (kk : Ev X mi C Rt (pc + 1) L (.ref r :: S) (eh H)) : Ev X mi C Rt pc L (.int (zN i) :: .ref c :: S) (eh H) := x_aald5 dg sh (by subst hi; rw [zN_nat]; exact vp_in_nI hj (by omega)) (by rw [show (zN i).toNatClampNeg = j from (by subst hi; rw [zN_nat]; exact nI_clamp (by omega)), hr]; exact kk)
theorem z_iast {X : MX} {mi : MI} {C : MCall} {Rt : MPost} {pc : Nat} {L : ML} {S : List Value} {H : ZH} {c n : Nat} {i v : Int} (j : Nat) (dg : decode mi.2.1 (pc) = .ok (.iastore, 1)) (sh : X.1[c]? = some (.inr (0, n))) (hi : i = (j : Int)) (hj : j < n) (hn31 : n ≤ 2000000000) (kk : Ev X mi C Rt (pc + 1) L S (eh (wI H c j v))) : Ev X mi C Rt pc L (.int (zN v) :: .int (zN i) :: .ref c :: S) (eh H) := x_iast dg sh (by subst hi; rw [zN_nat]; exact vp_in_nI hj (by omega)) (by rw [show (zN i).toNatClampNeg = j from (by subst hi; rw [zN_nat]; exact nI_clamp (by omega)), eh_I]; exact kk)
theorem z_zast {X : MX} {mi : MI} {C : MCall} {Rt : MPost} {pc : Nat} {L : ML} {S : List Value} {H : ZH} {c n : Nat} {i v : Int} (j : Nat) (dg : decode mi.2.1 (pc) = .ok (.bastore, 1)) (sh : X.1[c]? = some (.inr (2, n))) (hi : i = (j : Int)) (hj : j < n) (hn31 : n ≤ 2000000000) (hv : v = 0 ∨ v = 1) (kk : Ev X mi C Rt (pc + 1) L S (eh (wI H c j v))) : Ev X mi C Rt pc L (.int (zN v) :: .int (zN i) :: .ref c :: S) (eh H) := x_zast dg sh (by subst hi; rw [zN_nat]; exact vp_in_nI hj (by omega)) (by rw [show (zN i).toNatClampNeg = j from (by subst hi; rw [zN_nat]; exact nI_clamp (by omega)), show vp_nar .boolean (zN v) = zN v from (by rcases hv with rfl | rfl <;> rfl), eh_I]; exact kk)
theorem z_bast {X : MX} {mi : MI} {C : MCall} {Rt : MPost} {pc : Nat} {L : ML} {S : List Value} {H : ZH} {c n : Nat} {i v : Int} (j : Nat) (dg : decode mi.2.1 (pc) = .ok (.bastore, 1)) (sh : X.1[c]? = some (.inr (3, n))) (hi : i = (j : Int)) (hj : j < n) (hn31 : n ≤ 2000000000) (v1 : -128 ≤ v) (v2 : v ≤ 127) (kk : Ev X mi C Rt (pc + 1) L S (eh (wI H c j v))) : Ev X mi C Rt pc L (.int (zN v) :: .int (zN i) :: .ref c :: S) (eh H) := x_bast dg sh (by subst hi; rw [zN_nat]; exact vp_in_nI hj (by omega)) (by rw [show (zN i).toNatClampNeg = j from (by subst hi; rw [zN_nat]; exact nI_clamp (by omega)), show vp_nar .byte (zN v) = zN v from (by rw [vp_nar_byte, zN_i2b, Int.bmod_eq_of_le (by omega) (by omega)]), eh_I]; exact kk)
theorem z_last {X : MX} {mi : MI} {C : MCall} {Rt : MPost} {pc : Nat} {L : ML} {S : List Value} {H : ZH} {c n : Nat} {i v : Int} (j : Nat) (dg : decode mi.2.1 (pc) = .ok (.lastore, 1)) (sh : X.1[c]? = some (.inr (1, n))) (hi : i = (j : Int)) (hj : j < n) (hn31 : n ≤ 2000000000) (kk : Ev X mi C Rt (pc + 1) L S (eh (wJ H c j v))) : Ev X mi C Rt pc L (.long (zL v) :: .int (zN i) :: .ref c :: S) (eh H) := x_last dg sh (by subst hi; rw [zN_nat]; exact vp_in_nI hj (by omega)) (by rw [show (zN i).toNatClampNeg = j from (by subst hi; rw [zN_nat]; exact nI_clamp (by omega)), eh_J]; exact kk)
theorem z_alen {X : MX} {mi : MI} {C : MCall} {Rt : MPost} {pc : Nat} {L : ML} {S : List Value} {H : ZH} {c ek n : Nat} (dg : decode mi.2.1 (pc) = .ok (.arraylength, 1)) (sh : X.1[c]? = some (.inr (ek, n))) (hek : ek < 6) (kk : Ev X mi C Rt (pc + 1) L (.int (zN (n : Int)) :: S) (eh H)) : Ev X mi C Rt pc L (.ref c :: S) (eh H) := x_alen dg sh hek (zN_nat n).symm kk
theorem z_getI {X : MX} {mi : MI} {C : MCall} {Rt : MPost} {pc : Nat} {L : ML} {S : List Value} {H : ZH} {idx ci k c : Nat} {ks : List Nat} (v : Int) (dg : decode mi.2.1 (pc) = .ok (.getfield idx, 3)) (lk : lkF mi.1.cls idx ci k) (sh : X.1[c]? = some (.inl (ci, ks))) (hk : ks[k]? = some 0) (hv : H.1 c k = v) (kk : Ev X mi C Rt (pc + 3) L (.int (zN v) :: S) (eh H)) : Ev X mi C Rt pc L (.ref c :: S) (eh H) := by subst hv; exact x_getI dg lk sh hk kk
theorem z_getJ {X : MX} {mi : MI} {C : MCall} {Rt : MPost} {pc : Nat} {L : ML} {S : List Value} {H : ZH} {idx ci k c : Nat} {ks : List Nat} (v : Int) (dg : decode mi.2.1 (pc) = .ok (.getfield idx, 3)) (lk : lkF mi.1.cls idx ci k) (sh : X.1[c]? = some (.inl (ci, ks))) (hk : ks[k]? = some 1) (hv : H.2 c k = v) (kk : Ev X mi C Rt (pc + 3) L (.long (zL v) :: S) (eh H)) : Ev X mi C Rt pc L (.ref c :: S) (eh H) := by subst hv; exact x_getJ dg lk sh hk kk
theorem z_getR {X : MX} {mi : MI} {C : MCall} {Rt : MPost} {pc : Nat} {L : ML} {S : List Value} {H : ZH} {idx ci k c : Nat} {ks : List Nat} (r : Nat) (dg : decode mi.2.1 (pc) = .ok (.getfield idx, 3)) (lk : lkF mi.1.cls idx ci k) (sh : X.1[c]? = some (.inl (ci, ks))) (hk : ks[k]? = some 2) (hr : X.2 c k = r) (kk : Ev X mi C Rt (pc + 3) L (.ref r :: S) (eh H)) : Ev X mi C Rt pc L (.ref c :: S) (eh H) := x_getR dg lk sh hk (hr ▸ kk)
theorem z_getY {X : MX} {mi : MI} {C : MCall} {Rt : MPost} {pc : Nat} {L : ML} {S : List Value} {H : ZH} {idx ci k c : Nat} {ks : List Nat} (r : Nat) (dg : decode mi.2.1 (pc) = .ok (.getfield idx, 3)) (lk : lkF mi.1.cls idx ci k) (sh : X.1[c]? = some (.inl (ci, ks))) (hk : ks[k]? = some 3) (hr : H.1 c k = (r : Int)) (h31 : r ≤ 2000000000) (kk : Ev X mi C Rt (pc + 3) L (.ref r :: S) (eh H)) : Ev X mi C Rt pc L (.ref c :: S) (eh H) := x_getY dg lk sh hk (by rw [show ((eh H).1 c k).toNatClampNeg = r from (by show (zN (H.1 c k)).toNatClampNeg = r; rw [hr, zN_nat]; exact nI_clamp (by omega))]; exact kk)
theorem z_putI {X : MX} {mi : MI} {C : MCall} {Rt : MPost} {pc : Nat} {L : ML} {S : List Value} {H : ZH} {idx ci k c : Nat} {ks : List Nat} {v : Int} (dg : decode mi.2.1 (pc) = .ok (.putfield idx, 3)) (lk : lkP mi.1.cls idx ci k .int) (sh : X.1[c]? = some (.inl (ci, ks))) (hk : ks[k]? = some 0) (kk : Ev X mi C Rt (pc + 3) L S (eh (wI H c k v))) : Ev X mi C Rt pc L (.int (zN v) :: .ref c :: S) (eh H) := x_putI dg lk sh hk rfl rfl (eh_I H c k v ▸ kk)
theorem z_putZ {X : MX} {mi : MI} {C : MCall} {Rt : MPost} {pc : Nat} {L : ML} {S : List Value} {H : ZH} {idx ci k c : Nat} {ks : List Nat} {v : Int} (dg : decode mi.2.1 (pc) = .ok (.putfield idx, 3)) (lk : lkP mi.1.cls idx ci k .boolean) (sh : X.1[c]? = some (.inl (ci, ks))) (hk : ks[k]? = some 0) (hv : v = 0 ∨ v = 1) (kk : Ev X mi C Rt (pc + 3) L S (eh (wI H c k v))) : Ev X mi C Rt pc L (.int (zN v) :: .ref c :: S) (eh H) := x_putI dg lk sh hk (by rcases hv with rfl | rfl <;> rfl) (by rcases hv with rfl | rfl <;> rfl) (eh_I H c k v ▸ kk)
theorem z_putJ {X : MX} {mi : MI} {C : MCall} {Rt : MPost} {pc : Nat} {L : ML} {S : List Value} {H : ZH} {idx ci k c : Nat} {ks : List Nat} {v : Int} (dg : decode mi.2.1 (pc) = .ok (.putfield idx, 3)) (lk : lkP mi.1.cls idx ci k .long) (sh : X.1[c]? = some (.inl (ci, ks))) (hk : ks[k]? = some 1) (kk : Ev X mi C Rt (pc + 3) L S (eh (wJ H c k v))) : Ev X mi C Rt pc L (.long (zL v) :: .ref c :: S) (eh H) := x_putJ dg lk sh hk (eh_J H c k v ▸ kk)
theorem z_putY {X : MX} {mi : MI} {C : MCall} {Rt : MPost} {pc : Nat} {L : ML} {S : List Value} {H : ZH} {idx ci k c r : Nat} {ks : List Nat} {ty : FieldType} (dg : decode mi.2.1 (pc) = .ok (.putfield idx, 3)) (lk : lkP mi.1.cls idx ci k ty) (sh : X.1[c]? = some (.inl (ci, ks))) (hk : ks[k]? = some 3) (h31 : r ≤ 2000000000) (hn : ∀ b : Nat, narrow ty (.ref b) = .ref b) (hf : ∀ b : Nat, fits ty (.ref b) = true) (kk : Ev X mi C Rt (pc + 3) L S (eh (wI H c k (r : Int)))) : Ev X mi C Rt pc L (.ref r :: .ref c :: S) (eh H) := x_putY dg lk sh hk (by omega) hn hf (by rw [← zN_nat, eh_I]; exact kk)
theorem z_mmax {X : MX} {mi : MI} {C : MCall} {Rt : MPost} {pc : Nat} {L : ML} {S : List Value} {H : ZH} {idx : Nat} {a b : Int} (dg : decode mi.2.1 (pc) = .ok (.invokestatic idx, 3)) (lk : Cond.methodLink mi.1.cls idx Lib.Math.max.name ∈ mG) (hw : (S.map fun v => v.category).sum ≤ 8) (a1 : -2147483648 ≤ a) (a2 : a ≤ 2147483647) (b1 : -2147483648 ≤ b) (b2 : b ≤ 2147483647) (kk : Ev X mi C Rt (pc + 3) L (.int (zN (if a < b then b else a)) :: S) (eh H)) : Ev X mi C Rt pc L (.int (zN b) :: .int (zN a) :: S) (eh H) := x_mmax dg lk st_max in_math cd_max hw (by rw [show (if zN a < zN b then zN b else zN a) = zN (if a < b then b else a) from (if hq : a < b then by rw [if_pos ((zN_lt a1 a2 b1 b2).mpr hq), if_pos hq] else by rw [if_neg (fun q => hq ((zN_lt a1 a2 b1 b2).mp q)), if_neg hq])]; exact kk)
theorem z_mmin {X : MX} {mi : MI} {C : MCall} {Rt : MPost} {pc : Nat} {L : ML} {S : List Value} {H : ZH} {idx : Nat} {a b : Int} (dg : decode mi.2.1 (pc) = .ok (.invokestatic idx, 3)) (lk : Cond.methodLink mi.1.cls idx Lib.Math.min.name ∈ mG) (hw : (S.map fun v => v.category).sum ≤ 8) (a1 : -2147483648 ≤ a) (a2 : a ≤ 2147483647) (b1 : -2147483648 ≤ b) (b2 : b ≤ 2147483647) (kk : Ev X mi C Rt (pc + 3) L (.int (zN (if b < a then b else a)) :: S) (eh H)) : Ev X mi C Rt pc L (.int (zN b) :: .int (zN a) :: S) (eh H) := x_mmin dg lk st_min in_math cd_min hw (by rw [show (if zN b < zN a then zN b else zN a) = zN (if b < a then b else a) from (if hq : b < a then by rw [if_pos ((zN_lt b1 b2 a1 a2).mpr hq), if_pos hq] else by rw [if_neg (fun q => hq ((zN_lt b1 b2 a1 a2).mp q)), if_neg hq])]; exact kk)
theorem z_mmaxl {X : MX} {mi : MI} {C : MCall} {Rt : MPost} {pc : Nat} {L : ML} {S : List Value} {H : ZH} {idx : Nat} {a b : Int} (dg : decode mi.2.1 (pc) = .ok (.invokestatic idx, 3)) (lk : Cond.methodLink mi.1.cls idx Lib.MathLoose.max_long.x ∈ mG) (hw : (S.map fun v => v.category).sum ≤ 8) (a1 : -9223372036854775808 ≤ a) (a2 : a ≤ 9223372036854775807) (b1 : -9223372036854775808 ≤ b) (b2 : b ≤ 9223372036854775807) (kk : Ev X mi C Rt (pc + 3) L (.long (zL (if b < a then a else b)) :: S) (eh H)) : Ev X mi C Rt pc L (.long (zL b) :: .long (zL a) :: S) (eh H) := x_mmaxl dg lk st_max_long in_math cd_max_long hw (by rw [show (if zL b < zL a then zL a else zL b) = zL (if b < a then a else b) from (if hq : b < a then by rw [if_pos ((zL_lt b1 b2 a1 a2).mpr hq), if_pos hq] else by rw [if_neg (fun q => hq ((zL_lt b1 b2 a1 a2).mp q)), if_neg hq])]; exact kk)
theorem z_mabs {X : MX} {mi : MI} {C : MCall} {Rt : MPost} {pc : Nat} {L : ML} {S : List Value} {H : ZH} {idx : Nat} {a : Int} (dg : decode mi.2.1 (pc) = .ok (.invokestatic idx, 3)) (lk : Cond.methodLink mi.1.cls idx Lib.Math.abs.name ∈ mG) (hw : (S.map fun v => v.category).sum ≤ 8) (a1 : -2147483648 ≤ a) (a2 : a ≤ 2147483647) (kk : Ev X mi C Rt (pc + 3) L (.int (zN (if 0 ≤ a then a else 0 - a)) :: S) (eh H)) : Ev X mi C Rt pc L (.int (zN a) :: S) (eh H) := x_mabs dg lk st_abs in_math cd_abs hw (by rw [show (if 0 ≤ zN a then zN a else 0 - zN a) = zN (if 0 ≤ a then a else 0 - a) from (if hq : 0 ≤ a then (if_pos (c := 0 ≤ zN a) ((zN_le (a := 0) (by decide) (by decide) a1 a2).mpr hq)).trans (by rw [if_pos hq]) else (if_neg (c := 0 ≤ zN a) (fun q => hq ((zN_le (a := 0) (by decide) (by decide) a1 a2).mp q))).trans (by rw [if_neg hq, ← zN_sub]; rfl))]; exact kk)
theorem z_acpy {X : MX} {mi : MI} {C : MCall} {Rt : MPost} {pc : Nat} {L : ML} {S : List Value} {H : ZH} {idx c0 c1 n0 n1 : Nat} {a b m : Int} (sp dp n : Nat) (dg : decode mi.2.1 (pc) = .ok (.invokestatic idx, 3)) (lk : Cond.methodLink mi.1.cls idx arraycopyName ∈ mG) (sh0 : X.1[c0]? = some (.inr (0, n0))) (sh1 : X.1[c1]? = some (.inr (0, n1))) (ea : a = sp) (eb : b = dp) (em : m = n) (h1 : sp + n ≤ n0) (h2 : dp + n ≤ n1) (h3 : n0 ≤ 2000000000) (h4 : n1 ≤ 2000000000) (hw : (S.map fun v => v.category).sum ≤ 8) (kk : Ev X mi C Rt (pc + 3) L S (eh (wA H c1 (zcpy (H.1 c0) (H.1 c1) sp dp n)))) : Ev X mi C Rt pc L (.int (zN m) :: .int (zN b) :: .ref c1 :: .int (zN a) :: .ref c0 :: S) (eh H) := by
  subst ea; subst eb; subst em
  refine x_acpy dg lk nt_acpy st_acpy in_sys sh0 sh1 ?_ ?_ ?_ ?_ ?_ hw ?_
  · rw [zN_nat]; exact nI_pos (by omega)
  · rw [zN_nat]; exact nI_pos (by omega)
  · rw [zN_nat]; exact nI_pos (by omega)
  · rw [zN_nat, zN_nat, nI_clamp (by omega), nI_clamp (by omega)]; exact h1
  · rw [zN_nat, zN_nat, nI_clamp (by omega), nI_clamp (by omega)]; exact h2
  · rw [zN_nat, zN_nat, zN_nat, nI_clamp (by omega), nI_clamp (by omega), nI_clamp (by omega), eh_W]; exact kk
theorem z_callVi {X : MX} {mi : MI} {C : MCall} {Rt : MPost} {pc : Nat} {L : ML} {S : List Value} {H : ZH} {i : MI} {idx n c ci : Nat} {ks : List Nat} {Po : Int → ZH → Prop} (as : List Value) (dg : decode mi.2.1 (pc) = .ok (.invokevirtual idx, 3)) (lk : Cond.methodLink mi.1.cls idx i.1 ∈ mG) (ok : okV i n) (hn : as.length = n) (sh : X.1[c]? = some (.inl (ci, ks))) (hci : (mcl[ci]?).map (fun q => q.1) = some i.1.cls) (hr : i.2.2.2 = some .int ∨ i.2.2.2 = some .boolean) (hw : (S.map fun v => v.category).sum ≤ 8) (hC : C i (.ref c :: as) (eh H) (zPi Po)) (kk : ∀ (r : Int) (H1 : ZH), -2147483648 ≤ r → r ≤ 2147483647 → okZ H1 → Po r H1 → Ev X mi C Rt (pc + 3) L (.int (zN r) :: S) (eh H1)) : Ev X mi C Rt pc L (as.reverse ++ .ref c :: S) (eh H) := y_callVi as dg lk ok hn sh hci hr hw hC (fun r h1 hp => by obtain ⟨r1, H1, e1, a1, a2, e2, e3, e4⟩ := hp; cases e1; subst e2; exact kk r1 H1 a1 a2 e3 e4)
theorem z_callVl {X : MX} {mi : MI} {C : MCall} {Rt : MPost} {pc : Nat} {L : ML} {S : List Value} {H : ZH} {i : MI} {idx n c ci : Nat} {ks : List Nat} {Po : Int → ZH → Prop} (as : List Value) (dg : decode mi.2.1 (pc) = .ok (.invokevirtual idx, 3)) (lk : Cond.methodLink mi.1.cls idx i.1 ∈ mG) (ok : okV i n) (hn : as.length = n) (sh : X.1[c]? = some (.inl (ci, ks))) (hci : (mcl[ci]?).map (fun q => q.1) = some i.1.cls) (hr : i.2.2.2 = some .long) (hw : (S.map fun v => v.category).sum ≤ 8) (hC : C i (.ref c :: as) (eh H) (zPl Po)) (kk : ∀ (r : Int) (H1 : ZH), -9223372036854775808 ≤ r → r ≤ 9223372036854775807 → okZ H1 → Po r H1 → Ev X mi C Rt (pc + 3) L (.long (zL r) :: S) (eh H1)) : Ev X mi C Rt pc L (as.reverse ++ .ref c :: S) (eh H) := y_callVl as dg lk ok hn sh hci hr hw hC (fun r h1 hp => by obtain ⟨r1, H1, e1, a1, a2, e2, e3, e4⟩ := hp; cases e1; subst e2; exact kk r1 H1 a1 a2 e3 e4)
theorem z_callVv {X : MX} {mi : MI} {C : MCall} {Rt : MPost} {pc : Nat} {L : ML} {S : List Value} {H : ZH} {i : MI} {idx n c ci : Nat} {ks : List Nat} {Po : ZH → Prop} (as : List Value) (dg : decode mi.2.1 (pc) = .ok (.invokevirtual idx, 3)) (lk : Cond.methodLink mi.1.cls idx i.1 ∈ mG) (ok : okV i n) (hn : as.length = n) (sh : X.1[c]? = some (.inl (ci, ks))) (hci : (mcl[ci]?).map (fun q => q.1) = some i.1.cls) (hr : i.2.2.2 = none) (hw : (S.map fun v => v.category).sum ≤ 8) (hC : C i (.ref c :: as) (eh H) (zPv Po)) (kk : ∀ (H1 : ZH), okZ H1 → Po H1 → Ev X mi C Rt (pc + 3) L (S) (eh H1)) : Ev X mi C Rt pc L (as.reverse ++ .ref c :: S) (eh H) := y_callVv as dg lk ok hn sh hci hr hw hC (fun h1 hp => by obtain ⟨-, H1, e2, e3, e4⟩ := hp; subst e2; exact kk H1 e3 e4)
theorem z_callSi {X : MX} {mi : MI} {C : MCall} {Rt : MPost} {pc : Nat} {L : ML} {S : List Value} {H : ZH} {i : MI} {idx n : Nat} {Po : Int → ZH → Prop} (as : List Value) (dg : decode mi.2.1 (pc) = .ok (.invokestatic idx, 3)) (lk : Cond.methodLink mi.1.cls idx i.1 ∈ mG) (ok : okS i n) (hn : as.length = n) (hr : i.2.2.2 = some .int ∨ i.2.2.2 = some .boolean) (hw : (S.map fun v => v.category).sum ≤ 8) (hC : C i as (eh H) (zPi Po)) (kk : ∀ (r : Int) (H1 : ZH), -2147483648 ≤ r → r ≤ 2147483647 → okZ H1 → Po r H1 → Ev X mi C Rt (pc + 3) L (.int (zN r) :: S) (eh H1)) : Ev X mi C Rt pc L (as.reverse ++ S) (eh H) := y_callSi as dg lk ok hn hr hw hC (fun r h1 hp => by obtain ⟨r1, H1, e1, a1, a2, e2, e3, e4⟩ := hp; cases e1; subst e2; exact kk r1 H1 a1 a2 e3 e4)
theorem z_callSl {X : MX} {mi : MI} {C : MCall} {Rt : MPost} {pc : Nat} {L : ML} {S : List Value} {H : ZH} {i : MI} {idx n : Nat} {Po : Int → ZH → Prop} (as : List Value) (dg : decode mi.2.1 (pc) = .ok (.invokestatic idx, 3)) (lk : Cond.methodLink mi.1.cls idx i.1 ∈ mG) (ok : okS i n) (hn : as.length = n) (hr : i.2.2.2 = some .long) (hw : (S.map fun v => v.category).sum ≤ 8) (hC : C i as (eh H) (zPl Po)) (kk : ∀ (r : Int) (H1 : ZH), -9223372036854775808 ≤ r → r ≤ 9223372036854775807 → okZ H1 → Po r H1 → Ev X mi C Rt (pc + 3) L (.long (zL r) :: S) (eh H1)) : Ev X mi C Rt pc L (as.reverse ++ S) (eh H) := y_callSl as dg lk ok hn hr hw hC (fun r h1 hp => by obtain ⟨r1, H1, e1, a1, a2, e2, e3, e4⟩ := hp; cases e1; subst e2; exact kk r1 H1 a1 a2 e3 e4)
theorem z_callSv {X : MX} {mi : MI} {C : MCall} {Rt : MPost} {pc : Nat} {L : ML} {S : List Value} {H : ZH} {i : MI} {idx n : Nat} {Po : ZH → Prop} (as : List Value) (dg : decode mi.2.1 (pc) = .ok (.invokestatic idx, 3)) (lk : Cond.methodLink mi.1.cls idx i.1 ∈ mG) (ok : okS i n) (hn : as.length = n) (hr : i.2.2.2 = none) (hw : (S.map fun v => v.category).sum ≤ 8) (hC : C i as (eh H) (zPv Po)) (kk : ∀ (H1 : ZH), okZ H1 → Po H1 → Ev X mi C Rt (pc + 3) L (S) (eh H1)) : Ev X mi C Rt pc L (as.reverse ++ S) (eh H) := y_callSv as dg lk ok hn hr hw hC (fun h1 hp => by obtain ⟨-, H1, e2, e3, e4⟩ := hp; subst e2; exact kk H1 e3 e4)
theorem z_callNi {X : MX} {mi : MI} {C : MCall} {Rt : MPost} {pc : Nat} {L : ML} {S : List Value} {H : ZH} {i : MI} {idx n : Nat} {Po : Int → ZH → Prop} (as : List Value) (dg : decode mi.2.1 (pc) = .ok (.invokestatic idx, 3)) (lk : Cond.methodLinkNest mi.1.cls idx i.1 "FootOut" ∈ mNL) (ok : okS i n) (hn : as.length = n) (hr : i.2.2.2 = some .int ∨ i.2.2.2 = some .boolean) (hw : (S.map fun v => v.category).sum ≤ 8) (hC : C i as (eh H) (zPi Po)) (kk : ∀ (r : Int) (H1 : ZH), -2147483648 ≤ r → r ≤ 2147483647 → okZ H1 → Po r H1 → Ev X mi C Rt (pc + 3) L (.int (zN r) :: S) (eh H1)) : Ev X mi C Rt pc L (as.reverse ++ S) (eh H) := y_callNi as dg lk ok hn hr hw hC (fun r h1 hp => by obtain ⟨r1, H1, e1, a1, a2, e2, e3, e4⟩ := hp; cases e1; subst e2; exact kk r1 H1 a1 a2 e3 e4)
theorem z_callVip {X : MX} {mi : MI} {C : MCall} {Rt : MPost} {pc : Nat} {L : ML} {S : List Value} {H : ZH} {i : MI} {idx n c ci : Nat} {ks : List Nat} {a : Int} {Hf : ZH} (as : List Value) (dg : decode mi.2.1 (pc) = .ok (.invokevirtual idx, 3)) (lk : Cond.methodLink mi.1.cls idx i.1 ∈ mG) (ok : okV i n) (hn : as.length = n) (sh : X.1[c]? = some (.inl (ci, ks))) (hci : (mcl[ci]?).map (fun q => q.1) = some i.1.cls) (hr : i.2.2.2 = some .int ∨ i.2.2.2 = some .boolean) (hw : (S.map fun v => v.category).sum ≤ 8) (hC : C i (.ref c :: as) (eh H) (zPi (fun r H1 => r = a ∧ H1 = Hf))) (kk : -2147483648 ≤ a → a ≤ 2147483647 → okZ Hf → Ev X mi C Rt (pc + 3) L (.int (zN a) :: S) (eh Hf)) : Ev X mi C Rt pc L (as.reverse ++ .ref c :: S) (eh H) := z_callVi as dg lk ok hn sh hci hr hw hC (fun r H1 b1 b2 b3 b4 => by obtain ⟨e1, e2⟩ := b4; subst e1; subst e2; exact kk b1 b2 b3)
theorem z_callVlp {X : MX} {mi : MI} {C : MCall} {Rt : MPost} {pc : Nat} {L : ML} {S : List Value} {H : ZH} {i : MI} {idx n c ci : Nat} {ks : List Nat} {a : Int} {Hf : ZH} (as : List Value) (dg : decode mi.2.1 (pc) = .ok (.invokevirtual idx, 3)) (lk : Cond.methodLink mi.1.cls idx i.1 ∈ mG) (ok : okV i n) (hn : as.length = n) (sh : X.1[c]? = some (.inl (ci, ks))) (hci : (mcl[ci]?).map (fun q => q.1) = some i.1.cls) (hr : i.2.2.2 = some .long) (hw : (S.map fun v => v.category).sum ≤ 8) (hC : C i (.ref c :: as) (eh H) (zPl (fun r H1 => r = a ∧ H1 = Hf))) (kk : -9223372036854775808 ≤ a → a ≤ 9223372036854775807 → okZ Hf → Ev X mi C Rt (pc + 3) L (.long (zL a) :: S) (eh Hf)) : Ev X mi C Rt pc L (as.reverse ++ .ref c :: S) (eh H) := z_callVl as dg lk ok hn sh hci hr hw hC (fun r H1 b1 b2 b3 b4 => by obtain ⟨e1, e2⟩ := b4; subst e1; subst e2; exact kk b1 b2 b3)
theorem z_callVvp {X : MX} {mi : MI} {C : MCall} {Rt : MPost} {pc : Nat} {L : ML} {S : List Value} {H : ZH} {i : MI} {idx n c ci : Nat} {ks : List Nat} {Hf : ZH} (as : List Value) (dg : decode mi.2.1 (pc) = .ok (.invokevirtual idx, 3)) (lk : Cond.methodLink mi.1.cls idx i.1 ∈ mG) (ok : okV i n) (hn : as.length = n) (sh : X.1[c]? = some (.inl (ci, ks))) (hci : (mcl[ci]?).map (fun q => q.1) = some i.1.cls) (hr : i.2.2.2 = none) (hw : (S.map fun v => v.category).sum ≤ 8) (hC : C i (.ref c :: as) (eh H) (zPv (fun H1 => H1 = Hf))) (kk : okZ Hf → Ev X mi C Rt (pc + 3) L S (eh Hf)) : Ev X mi C Rt pc L (as.reverse ++ .ref c :: S) (eh H) := z_callVv as dg lk ok hn sh hci hr hw hC (fun H1 b3 b4 => by subst b4; exact kk b3)
theorem z_callVbp {X : MX} {mi : MI} {C : MCall} {Rt : MPost} {pc : Nat} {L : ML} {S : List Value} {H : ZH} {i : MI} {idx n c ci : Nat} {ks : List Nat} {co : Prop} {dc : Decidable co} {Hf : ZH} (as : List Value) (dg : decode mi.2.1 (pc) = .ok (.invokevirtual idx, 3)) (lk : Cond.methodLink mi.1.cls idx i.1 ∈ mG) (ok : okV i n) (hn : as.length = n) (sh : X.1[c]? = some (.inl (ci, ks))) (hci : (mcl[ci]?).map (fun q => q.1) = some i.1.cls) (hr : i.2.2.2 = some .int ∨ i.2.2.2 = some .boolean) (hw : (S.map fun v => v.category).sum ≤ 8) (hC : C i (.ref c :: as) (eh H) (zPi (fun r H1 => r = @ite Int co dc 1 0 ∧ H1 = Hf))) (kt : co → okZ Hf → Ev X mi C Rt (pc + 3) L (.int (zN 1) :: S) (eh Hf)) (kf : ¬ co → okZ Hf → Ev X mi C Rt (pc + 3) L (.int (zN 0) :: S) (eh Hf)) : Ev X mi C Rt pc L (as.reverse ++ .ref c :: S) (eh H) := z_callVi as dg lk ok hn sh hci hr hw hC (fun r H1 b1 b2 b3 b4 => by obtain ⟨e1, e2⟩ := b4; subst e2; exact (if hq : co then by rw [if_pos hq] at e1; subst e1; exact kt hq b3 else by rw [if_neg hq] at e1; subst e1; exact kf hq b3))
theorem z_callSip {X : MX} {mi : MI} {C : MCall} {Rt : MPost} {pc : Nat} {L : ML} {S : List Value} {H : ZH} {i : MI} {idx n : Nat} {a : Int} {Hf : ZH} (as : List Value) (dg : decode mi.2.1 (pc) = .ok (.invokestatic idx, 3)) (lk : Cond.methodLink mi.1.cls idx i.1 ∈ mG) (ok : okS i n) (hn : as.length = n) (hr : i.2.2.2 = some .int ∨ i.2.2.2 = some .boolean) (hw : (S.map fun v => v.category).sum ≤ 8) (hC : C i as (eh H) (zPi (fun r H1 => r = a ∧ H1 = Hf))) (kk : -2147483648 ≤ a → a ≤ 2147483647 → okZ Hf → Ev X mi C Rt (pc + 3) L (.int (zN a) :: S) (eh Hf)) : Ev X mi C Rt pc L (as.reverse ++ S) (eh H) := z_callSi as dg lk ok hn hr hw hC (fun r H1 b1 b2 b3 b4 => by obtain ⟨e1, e2⟩ := b4; subst e1; subst e2; exact kk b1 b2 b3)
theorem z_callSlp {X : MX} {mi : MI} {C : MCall} {Rt : MPost} {pc : Nat} {L : ML} {S : List Value} {H : ZH} {i : MI} {idx n : Nat} {a : Int} {Hf : ZH} (as : List Value) (dg : decode mi.2.1 (pc) = .ok (.invokestatic idx, 3)) (lk : Cond.methodLink mi.1.cls idx i.1 ∈ mG) (ok : okS i n) (hn : as.length = n) (hr : i.2.2.2 = some .long) (hw : (S.map fun v => v.category).sum ≤ 8) (hC : C i as (eh H) (zPl (fun r H1 => r = a ∧ H1 = Hf))) (kk : -9223372036854775808 ≤ a → a ≤ 9223372036854775807 → okZ Hf → Ev X mi C Rt (pc + 3) L (.long (zL a) :: S) (eh Hf)) : Ev X mi C Rt pc L (as.reverse ++ S) (eh H) := z_callSl as dg lk ok hn hr hw hC (fun r H1 b1 b2 b3 b4 => by obtain ⟨e1, e2⟩ := b4; subst e1; subst e2; exact kk b1 b2 b3)
theorem z_callSvp {X : MX} {mi : MI} {C : MCall} {Rt : MPost} {pc : Nat} {L : ML} {S : List Value} {H : ZH} {i : MI} {idx n : Nat} {Hf : ZH} (as : List Value) (dg : decode mi.2.1 (pc) = .ok (.invokestatic idx, 3)) (lk : Cond.methodLink mi.1.cls idx i.1 ∈ mG) (ok : okS i n) (hn : as.length = n) (hr : i.2.2.2 = none) (hw : (S.map fun v => v.category).sum ≤ 8) (hC : C i as (eh H) (zPv (fun H1 => H1 = Hf))) (kk : okZ Hf → Ev X mi C Rt (pc + 3) L S (eh Hf)) : Ev X mi C Rt pc L (as.reverse ++ S) (eh H) := z_callSv as dg lk ok hn hr hw hC (fun H1 b3 b4 => by subst b4; exact kk b3)
theorem z_callSbp {X : MX} {mi : MI} {C : MCall} {Rt : MPost} {pc : Nat} {L : ML} {S : List Value} {H : ZH} {i : MI} {idx n : Nat} {co : Prop} {dc : Decidable co} {Hf : ZH} (as : List Value) (dg : decode mi.2.1 (pc) = .ok (.invokestatic idx, 3)) (lk : Cond.methodLink mi.1.cls idx i.1 ∈ mG) (ok : okS i n) (hn : as.length = n) (hr : i.2.2.2 = some .int ∨ i.2.2.2 = some .boolean) (hw : (S.map fun v => v.category).sum ≤ 8) (hC : C i as (eh H) (zPi (fun r H1 => r = @ite Int co dc 1 0 ∧ H1 = Hf))) (kt : co → okZ Hf → Ev X mi C Rt (pc + 3) L (.int (zN 1) :: S) (eh Hf)) (kf : ¬ co → okZ Hf → Ev X mi C Rt (pc + 3) L (.int (zN 0) :: S) (eh Hf)) : Ev X mi C Rt pc L (as.reverse ++ S) (eh H) := z_callSi as dg lk ok hn hr hw hC (fun r H1 b1 b2 b3 b4 => by obtain ⟨e1, e2⟩ := b4; subst e2; exact (if hq : co then by rw [if_pos hq] at e1; subst e1; exact kt hq b3 else by rw [if_neg hq] at e1; subst e1; exact kf hq b3))
theorem z_callNip {X : MX} {mi : MI} {C : MCall} {Rt : MPost} {pc : Nat} {L : ML} {S : List Value} {H : ZH} {i : MI} {idx n : Nat} {a : Int} {Hf : ZH} (as : List Value) (dg : decode mi.2.1 (pc) = .ok (.invokestatic idx, 3)) (lk : Cond.methodLinkNest mi.1.cls idx i.1 "FootOut" ∈ mNL) (ok : okS i n) (hn : as.length = n) (hr : i.2.2.2 = some .int ∨ i.2.2.2 = some .boolean) (hw : (S.map fun v => v.category).sum ≤ 8) (hC : C i as (eh H) (zPi (fun r H1 => r = a ∧ H1 = Hf))) (kk : -2147483648 ≤ a → a ≤ 2147483647 → okZ Hf → Ev X mi C Rt (pc + 3) L (.int (zN a) :: S) (eh Hf)) : Ev X mi C Rt pc L (as.reverse ++ S) (eh H) := z_callNi as dg lk ok hn hr hw hC (fun r H1 b1 b2 b3 b4 => by obtain ⟨e1, e2⟩ := b4; subst e1; subst e2; exact kk b1 b2 b3)
theorem z_callNbp {X : MX} {mi : MI} {C : MCall} {Rt : MPost} {pc : Nat} {L : ML} {S : List Value} {H : ZH} {i : MI} {idx n : Nat} {co : Prop} {dc : Decidable co} {Hf : ZH} (as : List Value) (dg : decode mi.2.1 (pc) = .ok (.invokestatic idx, 3)) (lk : Cond.methodLinkNest mi.1.cls idx i.1 "FootOut" ∈ mNL) (ok : okS i n) (hn : as.length = n) (hr : i.2.2.2 = some .int ∨ i.2.2.2 = some .boolean) (hw : (S.map fun v => v.category).sum ≤ 8) (hC : C i as (eh H) (zPi (fun r H1 => r = @ite Int co dc 1 0 ∧ H1 = Hf))) (kt : co → okZ Hf → Ev X mi C Rt (pc + 3) L (.int (zN 1) :: S) (eh Hf)) (kf : ¬ co → okZ Hf → Ev X mi C Rt (pc + 3) L (.int (zN 0) :: S) (eh Hf)) : Ev X mi C Rt pc L (as.reverse ++ S) (eh H) := z_callNi as dg lk ok hn hr hw hC (fun r H1 b1 b2 b3 b4 => by obtain ⟨e1, e2⟩ := b4; subst e2; exact (if hq : co then by rw [if_pos hq] at e1; subst e1; exact kt hq b3 else by rw [if_neg hq] at e1; subst e1; exact kf hq b3))
theorem z_slen {X : MX} {mi : MI} {C : MCall} {Rt : MPost} {pc : Nat} {L : ML} {S : List Value} {H : ZH} {idx k : Nat} (dg : decode mi.2.1 (pc) = .ok (.invokevirtual idx, 3)) (lk : Cond.methodLink mi.1.cls idx mJlen.1 ∈ mG) (hk2 : k < 2) (hw : (S.map fun v => v.category).sum ≤ 8) (kk : Ev X mi C Rt (pc + 3) L (.int (zN ((mslen.getD k 0 : Nat) : Int)) :: S) (eh H)) : Ev X mi C Rt pc L (.ref (900 + k) :: S) (eh H) := x_slen dg lk ok_J0_length_8abf5 hk2 hw (by rw [← zN_nat]; exact kk)
theorem z_schar {X : MX} {mi : MI} {C : MCall} {Rt : MPost} {pc : Nat} {L : ML} {S : List Value} {H : ZH} {idx k : Nat} {i : Int} (j : Nat) (dg : decode mi.2.1 (pc) = .ok (.invokevirtual idx, 3)) (lk : Cond.methodLink mi.1.cls idx mJcha.1 ∈ mG) (hk2 : k < 2) (hi : i = (j : Int)) (hj : j < mslen.getD k 0) (hw : (S.map fun v => v.category).sum ≤ 8) (kk : Ev X mi C Rt (pc + 3) L (.int (zN ((msbyt.getD k []).getD j 0).toInt) :: S) (eh H)) : Ev X mi C Rt pc L (.int (zN i) :: .ref (900 + k) :: S) (eh H) := by subst hi; rw [zN_nat]; exact x_schar dg lk ok_J0_charAt_5068e hk2 hj hw (by rw [zN_of] at kk; exact kk)
theorem z_ireturn {X : MX} {mi : MI} {C : MCall} {pc : Nat} {L : ML} {H : ZH} {Po : Int → ZH → Prop} {a : Int} {ty : FieldType} (dg : decode mi.2.1 pc = .ok (.ireturn, 1)) (hr : mi.2.2.2 = some ty) (ht : ty = .int ∨ (ty = .boolean ∧ (a = 0 ∨ a = 1))) (ok : okZ H) (a1 : -2147483648 ≤ a) (a2 : a ≤ 2147483647) (kr : Po a H) : Ev X mi C (zPi Po) pc L [.int (zN a)] (eh H) := x_ireturn dg hr (ht.imp id (fun q => ⟨q.1, q.2.imp (fun e => by rw [e]; rfl) (fun e => by rw [e]; rfl)⟩)) ⟨a, H, rfl, a1, a2, rfl, ok, kr⟩
theorem z_lreturn {X : MX} {mi : MI} {C : MCall} {pc : Nat} {L : ML} {H : ZH} {Po : Int → ZH → Prop} {a : Int} (dg : decode mi.2.1 pc = .ok (.lreturn, 1)) (hr : mi.2.2.2 = some .long) (ok : okZ H) (a1 : -9223372036854775808 ≤ a) (a2 : a ≤ 9223372036854775807) (kr : Po a H) : Ev X mi C (zPl Po) pc L [.long (zL a)] (eh H) := x_lreturn dg hr ⟨a, H, rfl, a1, a2, rfl, ok, kr⟩
theorem z_vreturn {X : MX} {mi : MI} {C : MCall} {pc : Nat} {L : ML} {H : ZH} {Po : ZH → Prop} (dg : decode mi.2.1 pc = .ok (.return_, 1)) (hr : mi.2.2.2 = none) (ok : okZ H) (kr : Po H) : Ev X mi C (zPv Po) pc L [] (eh H) := x_vreturn dg hr ⟨rfl, H, rfl, ok, kr⟩
