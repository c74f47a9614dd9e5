/-! GROUP D: places. The reference's ints (cell 2) are the picture. -/
def phurt (A : Nat → Int) (p : Nat) : Int := A (514 + p) + A (526 + p)
def psum (A : Nat → Int) (fr : Nat) (w : Int) : Nat → Int
  | 0 => 0
  | n + 1 => psum A fr w n + (if w = 2 ∨ A (478 + n) = w then A (fr + n) else 0)
/-- the reference's places as they must be -/
def WFP (A : Nat → Int) : Prop := (0 ≤ A 477 ∧ A 477 ≤ 12) ∧ (∀ p, p < 12 → (A (478 + p) = 0 ∨ A (478 + p) = 1) ∧ (0 ≤ A (490 + p) ∧ A (490 + p) ≤ 300) ∧ (0 ≤ A (502 + p) ∧ A (502 + p) ≤ 300) ∧ (0 ≤ A (514 + p) ∧ A (514 + p) ≤ A (490 + p)) ∧ (0 ≤ A (526 + p) ∧ A (526 + p) ≤ A (502 + p)) ∧ (0 ≤ A (538 + p) ∧ A (538 + p) ≤ 600)) ∧ (∀ m, m < 4 → (1 ≤ A (550 + m) ∧ A (550 + m) ≤ 99) ∧ (0 ≤ A (554 + m) ∧ A (554 + m) ≤ 100))
/-- the class's places are the reference's -/
def RepP (H : ZH) : Prop := H.1 71 0 = H.1 2 477 ∧ (∀ p, p < 12 → H.1 72 p = H.1 2 (478 + p) ∧ H.1 73 p = H.1 2 (490 + p) ∧ H.1 74 p = H.1 2 (502 + p) ∧ H.1 75 p = H.1 2 (514 + p) ∧ H.1 76 p = H.1 2 (526 + p) ∧ H.1 77 p = H.1 2 (538 + p)) ∧ (∀ m, m < 4 → H.1 78 m = H.1 2 (550 + m) ∧ H.1 79 m = H.1 2 (554 + m))
theorem psum_bd {A : Nat → Int} {fr : Nat} {w : Int} {n : Nat} (h : ∀ k, k < n → 0 ≤ A (fr + k) ∧ A (fr + k) ≤ 300) : 0 ≤ psum A fr w n ∧ psum A fr w n ≤ 300 * (n : Int) := by
  induction n with
  | zero => exact ⟨Int.le_refl _, Int.le_refl _⟩
  | succ n ih =>
    have i := ih (fun k hk => h k (by omega))
    have j := h n (by omega)
    show 0 ≤ psum A fr w n + (if w = 2 ∨ A (478 + n) = w then A (fr + n) else 0) ∧ psum A fr w n + (if w = 2 ∨ A (478 + n) = w then A (fr + n) else 0) ≤ 300 * ((n + 1 : Nat) : Int)
    split <;> omega
theorem psum_le {A : Nat → Int} {f g : Nat} {w : Int} {n : Nat} (h : ∀ k, k < n → A (f + k) ≤ A (g + k)) : psum A f w n ≤ psum A g w n := by
  induction n with
  | zero => exact Int.le_refl _
  | succ n ih =>
    have i := ih (fun k hk => h k (by omega))
    have j := h n (by omega)
    show psum A f w n + (if w = 2 ∨ A (478 + n) = w then A (f + n) else 0) ≤ psum A g w n + (if w = 2 ∨ A (478 + n) = w then A (g + n) else 0)
    split <;> omega
theorem psum_2 {A : Nat → Int} {f : Nat} {n : Nat} (h : ∀ k, k < n → A (478 + k) = 0 ∨ A (478 + k) = 1) : psum A f 2 n = psum A f 1 n + psum A f 0 n := by
  induction n with
  | zero => rfl
  | succ n ih =>
    have i := ih (fun k hk => h k (by omega))
    show psum A f 2 n + (if (2 : Int) = 2 ∨ A (478 + n) = 2 then A (f + n) else 0) = (psum A f 1 n + (if (1 : Int) = 2 ∨ A (478 + n) = 1 then A (f + n) else 0)) + (psum A f 0 n + (if (0 : Int) = 2 ∨ A (478 + n) = 0 then A (f + n) else 0))
    rw [if_pos (Or.inl rfl)]
    rcases h n (by omega) with j | j
    · rw [if_neg (by omega), if_pos (by omega)]; omega
    · rw [if_pos (by omega), if_neg (by omega)]; omega
def zmx (a : Int) : Int := if a < 1 then 1 else a
theorem zmx_bd {a : Int} (h1 : a ≤ 3600) : 1 ≤ zmx a ∧ zmx a ≤ 3600 := by unfold zmx; split <;> omega
def pab (A : Nat → Int) (w : Int) (n : Nat) : Int := ((psum A 514 w n * psum A 490 2 n) * zmx (psum A 502 w n)) + ((psum A 526 w n * psum A 502 2 n) * zmx (psum A 490 w n))
def pbe (A : Nat → Int) (w : Int) (n : Nat) : Int := zmx (psum A 490 w n) * zmx (psum A 502 w n)
/-- all sums' bounds -/
theorem psums {A : Nat → Int} (h : WFP A) (w : Int) : (0 ≤ psum A 490 w (A 477).toNat ∧ psum A 490 w (A 477).toNat ≤ 3600) ∧ (0 ≤ psum A 502 w (A 477).toNat ∧ psum A 502 w (A 477).toNat ≤ 3600) ∧ (0 ≤ psum A 514 w (A 477).toNat ∧ psum A 514 w (A 477).toNat ≤ psum A 490 w (A 477).toNat) ∧ (0 ≤ psum A 526 w (A 477).toNat ∧ psum A 526 w (A 477).toNat ≤ psum A 502 w (A 477).toNat) := by
  obtain ⟨h1, h2, -⟩ := h
  have a := psum_bd (A := A) (fr := 490) (w := w) (n := (A 477).toNat) (fun k hk => (h2 k (by omega)).2.1)
  have b := psum_bd (A := A) (fr := 502) (w := w) (n := (A 477).toNat) (fun k hk => (h2 k (by omega)).2.2.1)
  have c := psum_bd (A := A) (fr := 514) (w := w) (n := (A 477).toNat) (fun k hk => by have := (h2 k (by omega)); omega)
  have d := psum_bd (A := A) (fr := 526) (w := w) (n := (A 477).toNat) (fun k hk => by have := (h2 k (by omega)); omega)
  have e := psum_le (A := A) (f := 514) (g := 490) (w := w) (n := (A 477).toNat) (fun k hk => (h2 k (by omega)).2.2.2.1.2)
  have f := psum_le (A := A) (f := 526) (g := 502) (w := w) (n := (A 477).toNat) (fun k hk => (h2 k (by omega)).2.2.2.2.1.2)
  omega
theorem pab_bd {A : Nat → Int} (h : WFP A) (w : Int) : (0 ≤ psum A 514 w (A 477).toNat * psum A 490 2 (A 477).toNat ∧ psum A 514 w (A 477).toNat * psum A 490 2 (A 477).toNat ≤ 12960000) ∧ (0 ≤ psum A 526 w (A 477).toNat * psum A 502 2 (A 477).toNat ∧ psum A 526 w (A 477).toNat * psum A 502 2 (A 477).toNat ≤ 12960000) ∧ (0 ≤ (psum A 514 w (A 477).toNat * psum A 490 2 (A 477).toNat) * zmx (psum A 502 w (A 477).toNat) ∧ (psum A 514 w (A 477).toNat * psum A 490 2 (A 477).toNat) * zmx (psum A 502 w (A 477).toNat) ≤ 46656000000) ∧ (0 ≤ (psum A 526 w (A 477).toNat * psum A 502 2 (A 477).toNat) * zmx (psum A 490 w (A 477).toNat) ∧ (psum A 526 w (A 477).toNat * psum A 502 2 (A 477).toNat) * zmx (psum A 490 w (A 477).toNat) ≤ 46656000000) ∧ (0 ≤ pab A w (A 477).toNat ∧ pab A w (A 477).toNat ≤ 93312000000) ∧ (0 ≤ pbe A w (A 477).toNat ∧ pbe A w (A 477).toNat ≤ 12960000) := by
  have a := psums h w
  have b := psums h 2
  have x1 := zmx_bd (a := psum A 490 w (A 477).toNat) (by omega)
  have x2 := zmx_bd (a := psum A 502 w (A 477).toNat) (by omega)
  have c := nn2 (x := psum A 514 w (A 477).toNat) (y := psum A 490 2 (A 477).toNat) (A := 3600) (B := 3600) (by omega) (by omega) (by omega) (by omega)
  have d := nn2 (x := psum A 526 w (A 477).toNat) (y := psum A 502 2 (A 477).toNat) (A := 3600) (B := 3600) (by omega) (by omega) (by omega) (by omega)
  have e := nn2 (y := zmx (psum A 502 w (A 477).toNat)) (B := 3600) c.1 c.2 (by omega) (by omega)
  have f := nn2 (y := zmx (psum A 490 w (A 477).toNat)) (B := 3600) d.1 d.2 (by omega) (by omega)
  have g := nn2 (x := zmx (psum A 490 w (A 477).toNat)) (y := zmx (psum A 502 w (A 477).toNat)) (A := 3600) (B := 3600) (by omega) (by omega) (by omega) (by omega)
  unfold pab pbe
  omega
theorem pab_alt {A : Nat → Int} (h : WFP A) (w : Int) : pab A w (A 477).toNat = (if psum A 490 w (A 477).toNat = 0 then 0 else (psum A 514 w (A 477).toNat * psum A 490 2 (A 477).toNat) * (if psum A 502 w (A 477).toNat = 0 then 1 else psum A 502 w (A 477).toNat)) + (if psum A 502 w (A 477).toNat = 0 then 0 else (psum A 526 w (A 477).toNat * psum A 502 2 (A 477).toNat) * (if psum A 490 w (A 477).toNat = 0 then 1 else psum A 490 w (A 477).toNat)) := by
  have s := psums h w
  have m1 : zmx (psum A 490 w (A 477).toNat) = if psum A 490 w (A 477).toNat = 0 then 1 else psum A 490 w (A 477).toNat := by unfold zmx; (repeat' split) <;> omega
  have m2 : zmx (psum A 502 w (A 477).toNat) = if psum A 502 w (A 477).toNat = 0 then 1 else psum A 502 w (A 477).toNat := by unfold zmx; (repeat' split) <;> omega
  unfold pab
  rw [m1, m2]
  by_cases q1 : psum A 490 w (A 477).toNat = 0 <;> by_cases q2 : psum A 502 w (A 477).toNat = 0
  · rw [show psum A 514 w (A 477).toNat = 0 by omega, show psum A 526 w (A 477).toNat = 0 by omega, Int.zero_mul, Int.zero_mul, Int.zero_mul, Int.zero_mul, if_pos q1, if_pos q2]
  · rw [show psum A 514 w (A 477).toNat = 0 by omega, if_pos q1, if_pos q1, if_neg q2, if_neg q2, Int.zero_mul, Int.zero_mul]
  · rw [show psum A 526 w (A 477).toNat = 0 by omega, if_neg q1, if_neg q1, if_pos q2, if_pos q2, Int.zero_mul, Int.zero_mul]
  · rw [if_neg q1, if_neg q2, if_neg q1, if_neg q2]
def pfal (A : Nat → Int) (b : Nat) : Nat → Int
  | 0 => 0
  | n + 1 => pfal A b n + (if (b : Int) / 2 ^ n % 2 = 0 then 0 else phurt A n - A (538 + n))
theorem pfal_bd {A : Nat → Int} (h : WFP A) (b n : Nat) (hn : n ≤ 12) : -600 * (n : Int) ≤ pfal A b n ∧ pfal A b n ≤ 600 * (n : Int) := by
  induction n with
  | zero => exact ⟨Int.le_refl _, Int.le_refl _⟩
  | succ n ih =>
    have i := ih (by omega)
    have j := h.2.1 n (by omega)
    show -600 * ((n + 1 : Nat) : Int) ≤ pfal A b n + (if (b : Int) / 2 ^ n % 2 = 0 then 0 else phurt A n - A (538 + n)) ∧ pfal A b n + (if (b : Int) / 2 ^ n % 2 = 0 then 0 else phurt A n - A (538 + n)) ≤ 600 * ((n + 1 : Nat) : Int)
    unfold phurt
    split <;> omega


theorem zN_and1 (a : Int) : zN a &&& zN 1 = zN (a % 2) := by
  rw [pk_and (zN a) (m := zN 1) 1 (by decide), ← zN_nat]
  congr 1
  show (((BitVec.ofInt 32 a).toNat % 2 ^ 1 : Nat) : Int) = a % 2
  rw [BitVec.toNat_ofInt]
  omega
theorem z_iand1 {X : MX} {mi : MI} {C : MCall} {Rt : MPost} {pc : Nat} {L : ML} {S : List Value} {H : ZH} {a : Int} (dg : decode mi.2.1 pc = .ok (.iand, 1)) (kk : Ev X mi C Rt (pc + 1) L (.int (zN (a % 2)) :: S) (eh H)) : Ev X mi C Rt pc L (.int (zN 1) :: .int (zN a) :: S) (eh H) := x_iand dg (zN_and1 a ▸ kk)
theorem z_ishl1 {X : MX} {mi : MI} {C : MCall} {Rt : MPost} {pc : Nat} {L : ML} {S : List Value} {H : ZH} {b : Int} (k : Nat) (dg : decode mi.2.1 pc = .ok (.ishl, 1)) (eb : b = k) (hk : k < 32) (kk : Ev X mi C Rt (pc + 1) L (.int (zN ((2 ^ k : Nat) : Int)) :: S) (eh H)) : Ev X mi C Rt pc L (.int (zN b) :: .int (zN 1) :: S) (eh H) := z_ishl (a := 1) k dg eb hk (by rw [Int.one_mul, show (2 : Int) ^ k = ((2 ^ k : Nat) : Int) from by rw [Int.natCast_pow]; rfl]; exact kk)
/-- bits of a set -/
def bcnt (b : Nat) : Nat → Nat
  | 0 => 0
  | n + 1 => bcnt b n + b / 2 ^ n % 2
theorem bit_or (b p i : Nat) : (b ||| 2 ^ p) / 2 ^ i % 2 = if i = p then 1 else b / 2 ^ i % 2 := by
  have h := Nat.testBit_or b (2 ^ p) i
  rw [Nat.testBit_eq_decide_div_mod_eq, Nat.testBit_eq_decide_div_mod_eq, Nat.testBit_two_pow] at h
  have h1 : (b ||| 2 ^ p) / 2 ^ i % 2 < 2 := Nat.mod_lt _ (by decide)
  have h2 : b / 2 ^ i % 2 < 2 := Nat.mod_lt _ (by decide)
  by_cases e : i = p
  · rw [if_pos e]
    rw [show decide (p = i) = true from decide_eq_true e.symm, Bool.or_true] at h
    exact of_decide_eq_true h
  · rw [if_neg e]
    rw [show decide (p = i) = false from decide_eq_false (fun q => e q.symm), Bool.or_false] at h
    by_cases c : b / 2 ^ i % 2 = 1
    · rw [c, decide_eq_true rfl] at h
      rw [c]; exact of_decide_eq_true h
    · rw [decide_eq_false c] at h
      have := of_decide_eq_false h
      omega
theorem bit_or2 (b c i : Nat) : (b ||| c) / 2 ^ i % 2 ≤ b / 2 ^ i % 2 + c / 2 ^ i % 2 := by
  have h := Nat.testBit_or b c i
  rw [Nat.testBit_eq_decide_div_mod_eq, Nat.testBit_eq_decide_div_mod_eq, Nat.testBit_eq_decide_div_mod_eq] at h
  have h1 : (b ||| c) / 2 ^ i % 2 < 2 := Nat.mod_lt _ (by decide)
  by_cases q1 : b / 2 ^ i % 2 = 1
  · omega
  · by_cases q2 : c / 2 ^ i % 2 = 1
    · omega
    · rw [decide_eq_false q1, decide_eq_false q2] at h
      have := of_decide_eq_false h
      omega
theorem bcnt_le (b n : Nat) : bcnt b n ≤ n := by
  induction n with
  | zero => exact Nat.le_refl _
  | succ n ih =>
    have h : b / 2 ^ n % 2 < 2 := Nat.mod_lt _ (by decide)
    show bcnt b n + b / 2 ^ n % 2 ≤ n + 1
    omega
theorem bcnt_or (b p n : Nat) : bcnt (b ||| 2 ^ p) n ≤ bcnt b n + (if p < n then 1 else 0) := by
  induction n with
  | zero => exact Nat.le_refl _
  | succ n ih =>
    show bcnt (b ||| 2 ^ p) n + (b ||| 2 ^ p) / 2 ^ n % 2 ≤ bcnt b n + b / 2 ^ n % 2 + (if p < n + 1 then 1 else 0)
    rw [bit_or]
    by_cases e : n = p
    · rw [if_pos e]
      rw [if_neg (by omega)] at ih
      rw [if_pos (by omega)]
      omega
    · rw [if_neg e]
      by_cases q : p < n
      · rw [if_pos q] at ih; rw [if_pos (by omega)]; omega
      · rw [if_neg q] at ih; rw [if_neg (by omega)]; omega
theorem bcnt_or2 (b c n : Nat) : bcnt (b ||| c) n ≤ bcnt b n + bcnt c n := by
  induction n with
  | zero => exact Nat.le_refl _
  | succ n ih =>
    have := bit_or2 b c n
    show bcnt (b ||| c) n + (b ||| c) / 2 ^ n % 2 ≤ bcnt b n + b / 2 ^ n % 2 + (bcnt c n + c / 2 ^ n % 2)
    omega
theorem bcnt_mono (b : Nat) {m n : Nat} (h : m ≤ n) : bcnt b m ≤ bcnt b n := by
  induction n with
  | zero => rw [show m = 0 by omega]; exact Nat.le_refl _
  | succ n ih =>
    rcases Nat.lt_or_ge m (n + 1) with q | q
    · exact Nat.le_trans (ih (by omega)) (Nat.le_add_right _ _)
    · rw [show m = n + 1 by omega]; exact Nat.le_refl _
theorem bcnt_free {b n : Nat} (h : bcnt b n < n) : ∃ p, p < n ∧ b / 2 ^ p % 2 = 0 := by
  induction n with
  | zero => omega
  | succ n ih =>
    have h1 : b / 2 ^ n % 2 < 2 := Nat.mod_lt _ (by decide)
    by_cases q : b / 2 ^ n % 2 = 0
    · exact ⟨n, by omega, q⟩
    · have h2 : bcnt b n + b / 2 ^ n % 2 < n + 1 := h
      obtain ⟨p, hp, e⟩ := ih (by omega)
      exact ⟨p, by omega, e⟩
theorem bitI (b p : Nat) : (b : Int) / 2 ^ p % 2 = ((b / 2 ^ p % 2 : Nat) : Int) := by
  rw [Int.natCast_emod, Int.natCast_ediv, Int.natCast_pow]
  rfl
theorem bit12 (b : Nat) (h : b < 4096) (p : Nat) : 0 ≤ (b : Int) / 2 ^ p ∧ (b : Int) / 2 ^ p ≤ 4095 := by
  have h1 : b / 2 ^ p ≤ b := Nat.div_le_self _ _
  have e : (b : Int) / 2 ^ p = ((b / 2 ^ p : Nat) : Int) := by rw [Int.natCast_ediv, Int.natCast_pow]; rfl
  rw [e]
  exact ⟨Int.natCast_nonneg _, Int.ofNat_le.mpr (show b / 2 ^ p ≤ 4095 from Nat.le_trans h1 (show b ≤ 4095 by omega))⟩
theorem or12 {b p : Nat} (h : b < 4096) (hp : p < 12) : b ||| 2 ^ p < 4096 := Nat.or_lt_two_pow (n := 12) h (Nat.pow_lt_pow_right (by decide) hp)
/-- WORST -/
def wbest (A : Nat → Int) (b : Nat) : Nat → Int
  | 0 => -1
  | n + 1 => if (b : Int) / 2 ^ n % 2 = 0 ∧ (wbest A b n = -1 ∨ phurt A (wbest A b n).toNat < phurt A n) then (n : Int) else wbest A b n
def wset (A : Nat → Int) (N : Nat) : Nat → Nat
  | 0 => 0
  | n + 1 => wset A N n ||| 2 ^ (wbest A (wset A N n) N).toNat
theorem wbest_bd (A : Nat → Int) (b n : Nat) : (wbest A b n = -1 ∧ ∀ p, p < n → b / 2 ^ p % 2 ≠ 0) ∨ (0 ≤ wbest A b n ∧ wbest A b n < n) := by
  induction n with
  | zero => exact Or.inl ⟨rfl, fun p h => absurd h (Nat.not_lt_zero _)⟩
  | succ n ih =>
    have e := bitI b n
    by_cases c : (b : Int) / 2 ^ n % 2 = 0 ∧ (wbest A b n = -1 ∨ phurt A (wbest A b n).toNat < phurt A n)
    · have q : wbest A b (n + 1) = n := if_pos c
      exact Or.inr (by omega)
    · have q : wbest A b (n + 1) = wbest A b n := if_neg c
      rw [q]
      rcases ih with ⟨h1, h2⟩ | h
      · refine Or.inl ⟨h1, fun p hp => ?_⟩
        rcases Nat.lt_or_ge p n with d | d
        · exact h2 p d
        · rw [show p = n by omega]
          intro z
          exact c ⟨by omega, Or.inl h1⟩
      · exact Or.inr (by omega)
theorem wbest_s (A : Nat → Int) (b i : Nat) (h : 0 ≤ phurt A i) : wbest A b (i + 1) = if (b : Int) / 2 ^ i % 2 = 0 ∧ (if wbest A b i = -1 then -1 else phurt A (wbest A b i).toNat) < phurt A i then (i : Int) else wbest A b i := by
  show (if (b : Int) / 2 ^ i % 2 = 0 ∧ (wbest A b i = -1 ∨ phurt A (wbest A b i).toNat < phurt A i) then (i : Int) else wbest A b i) = _
  by_cases c : wbest A b i = -1
  · rw [if_pos c]
    by_cases d : (b : Int) / 2 ^ i % 2 = 0
    · rw [if_pos ⟨d, Or.inl c⟩, if_pos ⟨d, by omega⟩]
    · rw [if_neg (fun q => d q.1), if_neg (fun q => d q.1)]
  · rw [if_neg c]
    by_cases d : (b : Int) / 2 ^ i % 2 = 0 ∧ phurt A (wbest A b i).toNat < phurt A i
    · rw [if_pos ⟨d.1, Or.inr d.2⟩, if_pos d]
    · rw [if_neg (fun q => d ⟨q.1, q.2.resolve_left c⟩), if_neg d]
theorem wset_ok (A : Nat → Int) {N : Nat} (hN : N ≤ 12) (k : Nat) (hk : k ≤ N) : wset A N k < 4096 ∧ bcnt (wset A N k) N ≤ k := by
  induction k with
  | zero =>
    refine ⟨(show (0 : Nat) < 4096 by decide), ?_⟩
    show bcnt 0 N ≤ 0
    have : ∀ n, bcnt 0 n = 0 := fun n => by
      induction n with
      | zero => rfl
      | succ n i => show bcnt 0 n + 0 / 2 ^ n % 2 = 0; rw [i, Nat.zero_div]
    rw [this]
    exact Nat.le_refl _
  | succ k ih =>
    obtain ⟨h1, h2⟩ := ih (by omega)
    rcases wbest_bd A (wset A N k) N with ⟨-, q⟩ | q
    · obtain ⟨p, hp, e⟩ := bcnt_free (b := wset A N k) (n := N) (by omega)
      exact absurd e (q p hp)
    · refine ⟨or12 h1 (by omega), ?_⟩
      have := bcnt_or (wset A N k) (wbest A (wset A N k) N).toNat N
      rw [if_pos (by omega)] at this
      show bcnt (wset A N k ||| 2 ^ (wbest A (wset A N k) N).toNat) N ≤ k + 1
      omega
theorem wbest_in (A : Nat → Int) {N k : Nat} (hN : N ≤ 12) (hk : k < N) : 0 ≤ wbest A (wset A N k) N ∧ wbest A (wset A N k) N < N := by
  have h := wset_ok A hN k (by omega)
  rcases wbest_bd A (wset A N k) N with ⟨-, q⟩ | q
  · obtain ⟨p, hp, e⟩ := bcnt_free (b := wset A N k) (n := N) (by omega)
    exact absurd e (q p hp)
  · exact q
/-- MATCH: the likest for p that is not among b, and by how much -/
def moff (A : Nat → Int) (p q : Nat) : Int := if 0 ≤ phurt A p - phurt A q then phurt A p - phurt A q else 0 - (phurt A p - phurt A q)
def mlik (A : Nat → Int) (b p : Nat) : Nat → Int × Int
  | 0 => (-1, 0)
  | n + 1 => if (b : Int) / 2 ^ n % 2 = 0 ∧ ((mlik A b p n).1 = -1 ∨ moff A p n < (mlik A b p n).2) then ((n : Int), moff A p n) else mlik A b p n
def mtak (A : Nat → Int) (st N : Nat) : Nat → Nat
  | 0 => 0
  | p + 1 => if (st : Int) / 2 ^ p % 2 = 0 then mtak A st N p else mtak A st N p ||| 2 ^ ((mlik A (st ||| mtak A st N p) p N).1).toNat
theorem mlik_bd (A : Nat → Int) (b p n : Nat) : ((mlik A b p n).1 = -1 ∧ ∀ q, q < n → b / 2 ^ q % 2 ≠ 0) ∨ (0 ≤ (mlik A b p n).1 ∧ (mlik A b p n).1 < n) := by
  induction n with
  | zero => exact Or.inl ⟨rfl, fun p h => absurd h (Nat.not_lt_zero _)⟩
  | succ n ih =>
    have e := bitI b n
    by_cases c : (b : Int) / 2 ^ n % 2 = 0 ∧ ((mlik A b p n).1 = -1 ∨ moff A p n < (mlik A b p n).2)
    · have q : mlik A b p (n + 1) = ((n : Int), moff A p n) := if_pos c
      rw [q]
      exact Or.inr (by dsimp only; omega)
    · have q : mlik A b p (n + 1) = mlik A b p n := if_neg c
      rw [q]
      rcases ih with ⟨h1, h2⟩ | h
      · refine Or.inl ⟨h1, fun p hp => ?_⟩
        rcases Nat.lt_or_ge p n with d | d
        · exact h2 p d
        · rw [show p = n by omega]
          intro z
          exact c ⟨by omega, Or.inl h1⟩
      · exact Or.inr (by omega)
theorem moff_bd {A : Nat → Int} (h : WFP A) {p q : Nat} (hp : p < 12) (hq : q < 12) : 0 ≤ moff A p q ∧ moff A p q ≤ 600 := by
  have a := h.2.1 p hp
  have b := h.2.1 q hq
  unfold moff phurt
  split <;> omega
theorem mlik_bd2 {A : Nat → Int} (h : WFP A) {b p n : Nat} (hp : p < 12) (hn : n ≤ 12) : 0 ≤ (mlik A b p n).2 ∧ (mlik A b p n).2 ≤ 600 := by
  induction n with
  | zero => exact ⟨Int.le_refl _, (show (0 : Int) ≤ 600 by decide)⟩
  | succ n ih =>
    by_cases c : (b : Int) / 2 ^ n % 2 = 0 ∧ ((mlik A b p n).1 = -1 ∨ moff A p n < (mlik A b p n).2)
    · have q : mlik A b p (n + 1) = ((n : Int), moff A p n) := if_pos c
      rw [q]
      exact moff_bd h hp (by omega)
    · have q : mlik A b p (n + 1) = mlik A b p n := if_neg c
      rw [q]
      exact ih (by omega)
/-- with twice as many there is always one left -/
theorem mtak_ok (A : Nat → Int) {st N k : Nat} (hs : st < 4096) (hc : bcnt st N ≤ k) (h2 : 2 * k ≤ N) (hN : N ≤ 12) (p : Nat) (hp : p ≤ N) : mtak A st N p < 4096 ∧ bcnt (mtak A st N p) N ≤ bcnt st p := by
  induction p with
  | zero =>
    refine ⟨(show (0 : Nat) < 4096 by decide), ?_⟩
    show bcnt 0 N ≤ 0
    have : ∀ n, bcnt 0 n = 0 := fun n => by
      induction n with
      | zero => rfl
      | succ n i => show bcnt 0 n + 0 / 2 ^ n % 2 = 0; rw [i, Nat.zero_div]
    rw [this]
    exact Nat.le_refl _
  | succ p ih =>
    obtain ⟨h1, h3⟩ := ih (by omega)
    have e := bitI st p
    by_cases c : (st : Int) / 2 ^ p % 2 = 0
    · have q : mtak A st N (p + 1) = mtak A st N p := if_pos c
      rw [q]
      exact ⟨h1, Nat.le_trans h3 (Nat.le_add_right _ _)⟩
    · have q : mtak A st N (p + 1) = mtak A st N p ||| 2 ^ ((mlik A (st ||| mtak A st N p) p N).1).toNat := if_neg c
      have hb : bcnt st (p + 1) = bcnt st p + st / 2 ^ p % 2 := rfl
      have hb2 : st / 2 ^ p % 2 < 2 := Nat.mod_lt _ (by decide)
      have hm := bcnt_mono st (m := p + 1) (n := N) (by omega)
      have ho := bcnt_or2 st (mtak A st N p) N
      rcases mlik_bd A (st ||| mtak A st N p) p N with ⟨-, z⟩ | z
      · obtain ⟨r, hr, e2⟩ := bcnt_free (b := st ||| mtak A st N p) (n := N) (by omega)
        exact absurd e2 (z r hr)
      · rw [q]
        refine ⟨or12 h1 (by omega), ?_⟩
        have := bcnt_or (mtak A st N p) ((mlik A (st ||| mtak A st N p) p N).1).toNat N
        rw [if_pos (by omega)] at this
        omega
theorem mlik_in (A : Nat → Int) {st N k p : Nat} (hs : st < 4096) (hc : bcnt st N ≤ k) (h2 : 2 * k ≤ N) (hN : N ≤ 12) (hp : p < N) (hb : (st : Int) / 2 ^ p % 2 ≠ 0) : 0 ≤ (mlik A (st ||| mtak A st N p) p N).1 ∧ (mlik A (st ||| mtak A st N p) p N).1 < N := by
  have h := mtak_ok A hs hc h2 hN p (by omega)
  have e := bitI st p
  have hb1 : bcnt st (p + 1) = bcnt st p + st / 2 ^ p % 2 := rfl
  have hb2 : st / 2 ^ p % 2 < 2 := Nat.mod_lt _ (by decide)
  have hm := bcnt_mono st (m := p + 1) (n := N) (by omega)
  have ho := bcnt_or2 st (mtak A st N p) N
  rcases mlik_bd A (st ||| mtak A st N p) p N with ⟨-, z⟩ | z
  · obtain ⟨r, hr, e2⟩ := bcnt_free (b := st ||| mtak A st N p) (n := N) (by omega)
    exact absurd e2 (z r hr)
  · exact z
theorem or12b {b c : Nat} (h : b < 4096) (h2 : c < 4096) : b ||| c < 4096 := Nat.or_lt_two_pow (n := 12) h h2

theorem c_X2_hurtAt {d : Nat} {H : ZH} (ok : okZ H) {p : Nat} (hp : p < 12) (wp : WFP (H.1 2)) (rp : RepP H) : EvC zX (d + 1) mX2_hurtAt [.ref 71, .int (zN ((p : Int)))] (eh H) (zPi (fun (rz : Int) (Hz : ZH) => rz = (phurt (H.1 2) p) ∧ Hz = H)) := by
  show _ ∧ Ev zX mX2_hurtAt (EvC zX d) (zPi (fun (rz : Int) (Hz : ZH) => rz = (phurt (H.1 2) p) ∧ Hz = H)) 0 [(0, .ref 71), (1, .int (zN ((p : Int))))] [] (eh H)
  refine ⟨Nat.le_of_ble_eq_true rfl, ?_⟩
  have wpx := wp
  obtain ⟨wpA, wpB, wpC⟩ := wpx
  have rpx := rp
  obtain ⟨rpA, rpB, rpC⟩ := rpx
  have wq := wpB p (by omega)
  have rq := rpB p (by omega)
  refine x_aload_n (pc := 0) dX2_hurtAt_0 (List.Mem.head _) ?_
  refine z_getR (pc := 1) (k := 4) (r := 75) dX2_hurtAt_1 lf_X2_21 sh_71 rfl rf_71_4 ?_
  refine x_iload_n (pc := 4) dX2_hurtAt_4 (List.Mem.tail _ (List.Mem.head _)) ?_
  have rd1 := ok.1 75 p
  refine z_iald (pc := 5) (j := p) (v := H.1 75 p) dX2_hurtAt_5 sh_75 rfl (by omega) (by decide) rfl ?_
  refine x_aload_n (pc := 6) dX2_hurtAt_6 (List.Mem.head _) ?_
  refine z_getR (pc := 7) (k := 5) (r := 76) dX2_hurtAt_7 lf_X2_24 sh_71 rfl rf_71_5 ?_
  refine x_iload_n (pc := 10) dX2_hurtAt_10 (List.Mem.tail _ (List.Mem.head _)) ?_
  have rd2 := ok.1 76 p
  refine z_iald (pc := 11) (j := p) (v := H.1 76 p) dX2_hurtAt_11 sh_76 rfl (by omega) (by decide) rfl ?_
  refine z_iadd (pc := 12) dX2_hurtAt_12 ?_
  refine z_ireturn (pc := 13) dX2_hurtAt_13 rfl (Or.inl rfl) ok (by omega) (by omega) ?_
  exact ⟨by unfold phurt; omega, rfl⟩

theorem c_X11_hurtAt {d : Nat} {H : ZH} (ok : okZ H) {p : Nat} (hp : p < 12) (wp : WFP (H.1 2)) : EvC zX (d + 1) mX11_hurtAt [.ref 0, .int (zN ((p : Int)))] (eh H) (zPi (fun (rz : Int) (Hz : ZH) => rz = (phurt (H.1 2) p) ∧ Hz = H)) := by
  show _ ∧ Ev zX mX11_hurtAt (EvC zX d) (zPi (fun (rz : Int) (Hz : ZH) => rz = (phurt (H.1 2) p) ∧ Hz = H)) 0 [(0, .ref 0), (1, .int (zN ((p : Int))))] [] (eh H)
  refine ⟨Nat.le_of_ble_eq_true rfl, ?_⟩
  have wpx := wp
  obtain ⟨wpA, wpB, wpC⟩ := wpx
  have wq := wpB p (by omega)
  refine x_aload_n (pc := 0) dX11_hurtAt_0 (List.Mem.head _) ?_
  refine z_getR (pc := 1) (k := 2) (r := 2) dX11_hurtAt_1 lf_X11_17 sh_0 rfl rf_0_2 ?_
  refine z_sipush (pc := 4) dX11_hurtAt_4 sp_514 ?_
  refine x_iload_n (pc := 7) dX11_hurtAt_7 (List.Mem.tail _ (List.Mem.head _)) ?_
  refine z_iadd (pc := 8) dX11_hurtAt_8 ?_
  have rd1 := ok.1 2 (514 + p)
  refine z_iald (pc := 9) (j := 514 + p) (v := H.1 2 (514 + p)) dX11_hurtAt_9 sh_2 (by omega) (by omega) (by decide) rfl ?_
  refine x_aload_n (pc := 10) dX11_hurtAt_10 (List.Mem.head _) ?_
  refine z_getR (pc := 11) (k := 2) (r := 2) dX11_hurtAt_11 lf_X11_17 sh_0 rfl rf_0_2 ?_
  refine z_sipush (pc := 14) dX11_hurtAt_14 sp_526 ?_
  refine x_iload_n (pc := 17) dX11_hurtAt_17 (List.Mem.tail _ (List.Mem.head _)) ?_
  refine z_iadd (pc := 18) dX11_hurtAt_18 ?_
  have rd2 := ok.1 2 (526 + p)
  refine z_iald (pc := 19) (j := 526 + p) (v := H.1 2 (526 + p)) dX11_hurtAt_19 sh_2 (by omega) (by omega) (by decide) rfl ?_
  refine z_iadd (pc := 20) dX11_hurtAt_20 ?_
  refine z_ireturn (pc := 21) dX11_hurtAt_21 rfl (Or.inl rfl) ok (by omega) (by omega) ?_
  exact ⟨rfl, rfl⟩

theorem c_X2_sumOf {d : Nat} {H : ZH} (ok : okZ H) {c : Nat} {fr : Nat} {b : Int} (b01 : b = 0 ∨ b = 1) (sh : zX.1[c]? = some (.inr (0, 12))) (wp : WFP (H.1 2)) (rp : RepP H) (hc : ∀ p, p < 12 → H.1 c p = H.1 2 (fr + p) ∧ 0 ≤ H.1 2 (fr + p) ∧ H.1 2 (fr + p) ≤ 300) : EvC zX (d + 1) mX2_sumOf [.ref 71, .ref c, .int (zN (b))] (eh H) (zPi (fun (rz : Int) (Hz : ZH) => rz = (psum (H.1 2) fr b (H.1 2 477).toNat) ∧ Hz = H)) := by
  show _ ∧ Ev zX mX2_sumOf (EvC zX d) (zPi (fun (rz : Int) (Hz : ZH) => rz = (psum (H.1 2) fr b (H.1 2 477).toNat) ∧ Hz = H)) 0 [(0, .ref 71), (1, .ref c), (2, .int (zN (b)))] [] (eh H)
  refine ⟨Nat.le_of_ble_eq_true rfl, ?_⟩
  have wpx := wp
  obtain ⟨wpA, wpB, wpC⟩ := wpx
  have rpx := rp
  obtain ⟨rpA, rpB, rpC⟩ := rpx
  refine z_iconst (pc := 0) dX2_sumOf_0 ?_
  refine x_istore_n (pc := 1) dX2_sumOf_1 (Nat.le_of_ble_eq_true rfl) ?_
  show Ev _ _ _ _ _ [(3, .int (zN (0))), (0, .ref 71), (1, .ref c), (2, .int (zN (b)))] _ _
  refine z_iconst (pc := 2) dX2_sumOf_2 ?_
  refine x_istore (pc := 3) dX2_sumOf_3 (Nat.le_of_ble_eq_true rfl) ?_
  show Ev _ _ _ _ _ [(4, .int (zN (0))), (3, .int (zN (0))), (0, .ref 71), (1, .ref c), (2, .int (zN (b)))] _ _
  have lp5 : ∀ (nF : Nat) (k : Nat), ((k : Int) ≤ H.1 2 477) → (H.1 2 477).toNat - k < nF → Ev zX mX2_sumOf (EvC zX d) (zPi (fun (rz : Int) (Hz : ZH) => rz = (psum (H.1 2) fr b (H.1 2 477).toNat) ∧ Hz = H)) 5 [(0, .ref 71), (1, .ref c), (2, .int (zN (b))), (3, .int (zN (psum (H.1 2) fr b k))), (4, .int (zN ((k : Int))))] [] (eh H) := by
    intro nF
    induction nF with
    | zero => intro k hk hm; exact absurd hm (Nat.not_lt_zero _)
    | succ nF ih5 =>
      intro k hk hm
      have sb := psum_bd (A := H.1 2) (fr := fr) (w := b) (n := k) (fun j hj => (hc j (by omega)).2)
      refine x_iload (pc := 5) dX2_sumOf_5 (List.Mem.tail _ (List.Mem.tail _ (List.Mem.tail _ (List.Mem.tail _ (List.Mem.head _))))) ?_
      refine x_aload_n (pc := 7) dX2_sumOf_7 (List.Mem.head _) ?_
      have rd1 := ok.1 71 0
      refine z_getI (pc := 8) (k := 0) (v := H.1 71 0) dX2_sumOf_8 lf_X2_36 sh_71 rfl rfl ?_
      refine z_icmp_ge (pc := 11) (tgt := 50) dX2_sumOf_11 (by decide) (by omega) (by omega) (by omega) (by omega) (fun hb2 => ?_) (fun hb2 => ?_)
      · skip
        refine x_iload_n (pc := 50) dX2_sumOf_50 (List.Mem.tail _ (List.Mem.tail _ (List.Mem.tail _ (List.Mem.head _)))) ?_
        refine z_ireturn (pc := 51) dX2_sumOf_51 rfl (Or.inl rfl) ok (by omega) (by omega) ?_
        exact ⟨by rw [show k = (H.1 2 477).toNat by omega], rfl⟩
      · skip
        have wq := wpB k (by omega)
        have rq := rpB k (by omega)
        have hq := hc k (by omega)
        refine x_iload_n (pc := 14) dX2_sumOf_14 (List.Mem.tail _ (List.Mem.tail _ (List.Mem.tail _ (List.Mem.head _)))) ?_
        refine x_aload_n (pc := 15) dX2_sumOf_15 (List.Mem.head _) ?_
        refine z_getR (pc := 16) (k := 1) (r := 72) dX2_sumOf_16 lf_X2_9 sh_71 rfl rf_71_1 ?_
        refine x_iload (pc := 19) dX2_sumOf_19 (List.Mem.tail _ (List.Mem.tail _ (List.Mem.tail _ (List.Mem.tail _ (List.Mem.head _))))) ?_
        have rd3 := ok.1 72 k
        refine z_iald (pc := 21) (j := k) (v := H.1 72 k) dX2_sumOf_21 sh_72 rfl (by omega) (by decide) rfl ?_
        refine z_if_eq (pc := 22) (tgt := 29) dX2_sumOf_22 (by decide) (by omega) (by omega) (fun hb4 => ?_) (fun hb4 => ?_)
        · skip
          refine z_iconst (pc := 29) dX2_sumOf_29 ?_
          refine x_iload_n (pc := 30) dX2_sumOf_30 (List.Mem.tail _ (List.Mem.tail _ (List.Mem.head _))) ?_
          refine z_icmp_ne (pc := 31) (tgt := 41) dX2_sumOf_31 (by decide) (by decide) (by decide) (by omega) (by omega) (fun hb5 => ?_) (fun hb5 => ?_)
          · skip
            refine z_iconst (pc := 41) dX2_sumOf_41 ?_
            refine z_iadd (pc := 42) dX2_sumOf_42 ?_
            refine x_istore_n (pc := 43) dX2_sumOf_43 (Nat.le_of_ble_eq_true rfl) ?_
            show Ev _ _ _ _ _ [(3, .int (zN ((psum (H.1 2) fr b k + 0)))), (0, .ref 71), (1, .ref c), (2, .int (zN (b))), (4, .int (zN ((k : Int))))] _ _
            refine z_iinc (pc := 44) dX2_sumOf_44 (List.Mem.tail _ (List.Mem.tail _ (List.Mem.tail _ (List.Mem.tail _ (List.Mem.head _))))) (Nat.le_of_ble_eq_true rfl) ?_
            show Ev _ _ _ _ _ [(4, .int (zN ((k : Int) + 1))), (3, .int (zN ((psum (H.1 2) fr b k + 0)))), (0, .ref 71), (1, .ref c), (2, .int (zN (b)))] _ _
            refine x_goto (pc := 47) (tgt := 5) dX2_sumOf_47 (by decide) ?_
            refine x_weaken (L1 := [(0, .ref 71), (1, .ref c), (2, .int (zN (b))), (3, .int (zN (psum (H.1 2) fr b (k + 1)))), (4, .int (zN ((((k + 1) : Nat) : Int))))]) (List.forall_mem_cons.mpr ⟨(List.Mem.tail _ (List.Mem.tail _ (List.Mem.head _))), (List.forall_mem_cons.mpr ⟨(List.Mem.tail _ (List.Mem.tail _ (List.Mem.tail _ (List.Mem.head _)))), (List.forall_mem_cons.mpr ⟨(List.Mem.tail _ (List.Mem.tail _ (List.Mem.tail _ (List.Mem.tail _ (List.Mem.head _))))), (List.forall_mem_cons.mpr ⟨(mem_ci (by show psum (H.1 2) fr b k + (if b = 2 ∨ H.1 2 (478 + k) = b then H.1 2 (fr + k) else 0) = _; first | (rw [if_pos (by omega)]; try omega) | (rw [if_neg (by omega)]; try omega)) (List.Mem.tail _ (List.Mem.head _))), (List.forall_mem_cons.mpr ⟨(mem_ci (by omega) (List.Mem.head _)), (fun _ h => absurd h List.not_mem_nil)⟩)⟩)⟩)⟩)⟩) ?_
            exact ih5 ((k + 1)) (by first | assumption | omega) (by omega)
          · skip
            refine x_aload_n (pc := 34) dX2_sumOf_34 (List.Mem.tail _ (List.Mem.head _)) ?_
            refine x_iload (pc := 35) dX2_sumOf_35 (List.Mem.tail _ (List.Mem.tail _ (List.Mem.tail _ (List.Mem.tail _ (List.Mem.head _))))) ?_
            have rd6 := ok.1 c k
            refine z_iald (pc := 37) (j := k) (v := H.1 c k) dX2_sumOf_37 sh rfl (by omega) (by decide) rfl ?_
            refine x_goto (pc := 38) (tgt := 42) dX2_sumOf_38 (by decide) ?_
            refine z_iadd (pc := 42) dX2_sumOf_42 ?_
            refine x_istore_n (pc := 43) dX2_sumOf_43 (Nat.le_of_ble_eq_true rfl) ?_
            show Ev _ _ _ _ _ [(3, .int (zN ((psum (H.1 2) fr b k + (H.1 c k))))), (0, .ref 71), (1, .ref c), (2, .int (zN (b))), (4, .int (zN ((k : Int))))] _ _
            refine z_iinc (pc := 44) dX2_sumOf_44 (List.Mem.tail _ (List.Mem.tail _ (List.Mem.tail _ (List.Mem.tail _ (List.Mem.head _))))) (Nat.le_of_ble_eq_true rfl) ?_
            show Ev _ _ _ _ _ [(4, .int (zN ((k : Int) + 1))), (3, .int (zN ((psum (H.1 2) fr b k + (H.1 c k))))), (0, .ref 71), (1, .ref c), (2, .int (zN (b)))] _ _
            refine x_goto (pc := 47) (tgt := 5) dX2_sumOf_47 (by decide) ?_
            refine x_weaken (L1 := [(0, .ref 71), (1, .ref c), (2, .int (zN (b))), (3, .int (zN (psum (H.1 2) fr b (k + 1)))), (4, .int (zN ((((k + 1) : Nat) : Int))))]) (List.forall_mem_cons.mpr ⟨(List.Mem.tail _ (List.Mem.tail _ (List.Mem.head _))), (List.forall_mem_cons.mpr ⟨(List.Mem.tail _ (List.Mem.tail _ (List.Mem.tail _ (List.Mem.head _)))), (List.forall_mem_cons.mpr ⟨(List.Mem.tail _ (List.Mem.tail _ (List.Mem.tail _ (List.Mem.tail _ (List.Mem.head _))))), (List.forall_mem_cons.mpr ⟨(mem_ci (by show psum (H.1 2) fr b k + (if b = 2 ∨ H.1 2 (478 + k) = b then H.1 2 (fr + k) else 0) = _; first | (rw [if_pos (by omega)]; try omega) | (rw [if_neg (by omega)]; try omega)) (List.Mem.tail _ (List.Mem.head _))), (List.forall_mem_cons.mpr ⟨(mem_ci (by omega) (List.Mem.head _)), (fun _ h => absurd h List.not_mem_nil)⟩)⟩)⟩)⟩)⟩) ?_
            exact ih5 ((k + 1)) (by first | assumption | omega) (by omega)
        · skip
          refine z_iconst (pc := 25) dX2_sumOf_25 ?_
          refine x_goto (pc := 26) (tgt := 30) dX2_sumOf_26 (by decide) ?_
          refine x_iload_n (pc := 30) dX2_sumOf_30 (List.Mem.tail _ (List.Mem.tail _ (List.Mem.head _))) ?_
          refine z_icmp_ne (pc := 31) (tgt := 41) dX2_sumOf_31 (by decide) (by decide) (by decide) (by omega) (by omega) (fun hb7 => ?_) (fun hb7 => ?_)
          · skip
            refine z_iconst (pc := 41) dX2_sumOf_41 ?_
            refine z_iadd (pc := 42) dX2_sumOf_42 ?_
            refine x_istore_n (pc := 43) dX2_sumOf_43 (Nat.le_of_ble_eq_true rfl) ?_
            show Ev _ _ _ _ _ [(3, .int (zN ((psum (H.1 2) fr b k + 0)))), (0, .ref 71), (1, .ref c), (2, .int (zN (b))), (4, .int (zN ((k : Int))))] _ _
            refine z_iinc (pc := 44) dX2_sumOf_44 (List.Mem.tail _ (List.Mem.tail _ (List.Mem.tail _ (List.Mem.tail _ (List.Mem.head _))))) (Nat.le_of_ble_eq_true rfl) ?_
            show Ev _ _ _ _ _ [(4, .int (zN ((k : Int) + 1))), (3, .int (zN ((psum (H.1 2) fr b k + 0)))), (0, .ref 71), (1, .ref c), (2, .int (zN (b)))] _ _
            refine x_goto (pc := 47) (tgt := 5) dX2_sumOf_47 (by decide) ?_
            refine x_weaken (L1 := [(0, .ref 71), (1, .ref c), (2, .int (zN (b))), (3, .int (zN (psum (H.1 2) fr b (k + 1)))), (4, .int (zN ((((k + 1) : Nat) : Int))))]) (List.forall_mem_cons.mpr ⟨(List.Mem.tail _ (List.Mem.tail _ (List.Mem.head _))), (List.forall_mem_cons.mpr ⟨(List.Mem.tail _ (List.Mem.tail _ (List.Mem.tail _ (List.Mem.head _)))), (List.forall_mem_cons.mpr ⟨(List.Mem.tail _ (List.Mem.tail _ (List.Mem.tail _ (List.Mem.tail _ (List.Mem.head _))))), (List.forall_mem_cons.mpr ⟨(mem_ci (by show psum (H.1 2) fr b k + (if b = 2 ∨ H.1 2 (478 + k) = b then H.1 2 (fr + k) else 0) = _; first | (rw [if_pos (by omega)]; try omega) | (rw [if_neg (by omega)]; try omega)) (List.Mem.tail _ (List.Mem.head _))), (List.forall_mem_cons.mpr ⟨(mem_ci (by omega) (List.Mem.head _)), (fun _ h => absurd h List.not_mem_nil)⟩)⟩)⟩)⟩)⟩) ?_
            exact ih5 ((k + 1)) (by first | assumption | omega) (by omega)
          · skip
            refine x_aload_n (pc := 34) dX2_sumOf_34 (List.Mem.tail _ (List.Mem.head _)) ?_
            refine x_iload (pc := 35) dX2_sumOf_35 (List.Mem.tail _ (List.Mem.tail _ (List.Mem.tail _ (List.Mem.tail _ (List.Mem.head _))))) ?_
            have rd8 := ok.1 c k
            refine z_iald (pc := 37) (j := k) (v := H.1 c k) dX2_sumOf_37 sh rfl (by omega) (by decide) rfl ?_
            refine x_goto (pc := 38) (tgt := 42) dX2_sumOf_38 (by decide) ?_
            refine z_iadd (pc := 42) dX2_sumOf_42 ?_
            refine x_istore_n (pc := 43) dX2_sumOf_43 (Nat.le_of_ble_eq_true rfl) ?_
            show Ev _ _ _ _ _ [(3, .int (zN ((psum (H.1 2) fr b k + (H.1 c k))))), (0, .ref 71), (1, .ref c), (2, .int (zN (b))), (4, .int (zN ((k : Int))))] _ _
            refine z_iinc (pc := 44) dX2_sumOf_44 (List.Mem.tail _ (List.Mem.tail _ (List.Mem.tail _ (List.Mem.tail _ (List.Mem.head _))))) (Nat.le_of_ble_eq_true rfl) ?_
            show Ev _ _ _ _ _ [(4, .int (zN ((k : Int) + 1))), (3, .int (zN ((psum (H.1 2) fr b k + (H.1 c k))))), (0, .ref 71), (1, .ref c), (2, .int (zN (b)))] _ _
            refine x_goto (pc := 47) (tgt := 5) dX2_sumOf_47 (by decide) ?_
            refine x_weaken (L1 := [(0, .ref 71), (1, .ref c), (2, .int (zN (b))), (3, .int (zN (psum (H.1 2) fr b (k + 1)))), (4, .int (zN ((((k + 1) : Nat) : Int))))]) (List.forall_mem_cons.mpr ⟨(List.Mem.tail _ (List.Mem.tail _ (List.Mem.head _))), (List.forall_mem_cons.mpr ⟨(List.Mem.tail _ (List.Mem.tail _ (List.Mem.tail _ (List.Mem.head _)))), (List.forall_mem_cons.mpr ⟨(List.Mem.tail _ (List.Mem.tail _ (List.Mem.tail _ (List.Mem.tail _ (List.Mem.head _))))), (List.forall_mem_cons.mpr ⟨(mem_ci (by show psum (H.1 2) fr b k + (if b = 2 ∨ H.1 2 (478 + k) = b then H.1 2 (fr + k) else 0) = _; first | (rw [if_pos (by omega)]; try omega) | (rw [if_neg (by omega)]; try omega)) (List.Mem.tail _ (List.Mem.head _))), (List.forall_mem_cons.mpr ⟨(mem_ci (by omega) (List.Mem.head _)), (fun _ h => absurd h List.not_mem_nil)⟩)⟩)⟩)⟩)⟩) ?_
            exact ih5 ((k + 1)) (by first | assumption | omega) (by omega)
  refine x_weaken (L1 := [(0, .ref 71), (1, .ref c), (2, .int (zN (b))), (3, .int (zN (psum (H.1 2) fr b 0))), (4, .int (zN (((0 : Nat) : Int))))]) (List.forall_mem_cons.mpr ⟨(List.Mem.tail _ (List.Mem.tail _ (List.Mem.head _))), (List.forall_mem_cons.mpr ⟨(List.Mem.tail _ (List.Mem.tail _ (List.Mem.tail _ (List.Mem.head _)))), (List.forall_mem_cons.mpr ⟨(List.Mem.tail _ (List.Mem.tail _ (List.Mem.tail _ (List.Mem.tail _ (List.Mem.head _))))), (List.forall_mem_cons.mpr ⟨(mem_ci (rfl) (List.Mem.tail _ (List.Mem.head _))), (List.forall_mem_cons.mpr ⟨(mem_ci (by omega) (List.Mem.head _)), (fun _ h => absurd h List.not_mem_nil)⟩)⟩)⟩)⟩)⟩) ?_
  exact lp5 ((H.1 2 477).toNat - 0 + 1) (0) (by first | assumption | omega) (Nat.lt_succ_self _)

theorem c_X11_sumOf {d : Nat} {H : ZH} (ok : okZ H) {fr : Nat} (f1 : fr ≤ 530) {w : Int} (w01 : w = 0 ∨ w = 1 ∨ w = 2) (wp : WFP (H.1 2)) (hc : ∀ p, p < 12 → 0 ≤ H.1 2 (fr + p) ∧ H.1 2 (fr + p) ≤ 300) : EvC zX (d + 1) mX11_sumOf [.ref 0, .int (zN ((fr : Int))), .int (zN (w))] (eh H) (zPl (fun (rz : Int) (Hz : ZH) => rz = (psum (H.1 2) fr w (H.1 2 477).toNat) ∧ Hz = H)) := by
  show _ ∧ Ev zX mX11_sumOf (EvC zX d) (zPl (fun (rz : Int) (Hz : ZH) => rz = (psum (H.1 2) fr w (H.1 2 477).toNat) ∧ Hz = H)) 0 [(0, .ref 0), (1, .int (zN ((fr : Int)))), (2, .int (zN (w)))] [] (eh H)
  refine ⟨Nat.le_of_ble_eq_true rfl, ?_⟩
  have wpx := wp
  obtain ⟨wpA, wpB, wpC⟩ := wpx
  refine z_lconst (pc := 0) 0 dX11_sumOf_0 rfl ?_
  refine x_lstore_n (pc := 1) dX11_sumOf_1 (Nat.le_of_ble_eq_true rfl) ?_
  show Ev _ _ _ _ _ [(3, .long (zL (0))), (0, .ref 0), (1, .int (zN ((fr : Int)))), (2, .int (zN (w)))] _ _
  refine z_iconst (pc := 2) dX11_sumOf_2 ?_
  refine x_istore (pc := 3) dX11_sumOf_3 (Nat.le_of_ble_eq_true rfl) ?_
  show Ev _ _ _ _ _ [(5, .int (zN (0))), (3, .long (zL (0))), (0, .ref 0), (1, .int (zN ((fr : Int)))), (2, .int (zN (w)))] _ _
  have lp5 : ∀ (nF : Nat) (k : Nat), ((k : Int) ≤ H.1 2 477) → (H.1 2 477).toNat - k < nF → Ev zX mX11_sumOf (EvC zX d) (zPl (fun (rz : Int) (Hz : ZH) => rz = (psum (H.1 2) fr w (H.1 2 477).toNat) ∧ Hz = H)) 5 [(0, .ref 0), (1, .int (zN ((fr : Int)))), (2, .int (zN (w))), (3, .long (zL (psum (H.1 2) fr w k))), (5, .int (zN ((k : Int))))] [] (eh H) := by
    intro nF
    induction nF with
    | zero => intro k hk hm; exact absurd hm (Nat.not_lt_zero _)
    | succ nF ih5 =>
      intro k hk hm
      have sb := psum_bd (A := H.1 2) (fr := fr) (w := w) (n := k) (fun j hj => hc j (by omega))
      refine x_iload (pc := 5) dX11_sumOf_5 (List.Mem.tail _ (List.Mem.tail _ (List.Mem.tail _ (List.Mem.tail _ (List.Mem.head _))))) ?_
      refine x_aload_n (pc := 7) dX11_sumOf_7 (List.Mem.head _) ?_
      refine z_getR (pc := 8) (k := 2) (r := 2) dX11_sumOf_8 lf_X11_17 sh_0 rfl rf_0_2 ?_
      refine z_sipush (pc := 11) dX11_sumOf_11 sp_477 ?_
      have rd1 := ok.1 2 477
      refine z_iald (pc := 14) (j := 477) (v := H.1 2 477) dX11_sumOf_14 sh_2 rfl (Nat.le_of_ble_eq_true rfl) (by decide) rfl ?_
      refine z_icmp_ge (pc := 15) (tgt := 61) dX11_sumOf_15 (by decide) (by omega) (by omega) (by omega) (by omega) (fun hb2 => ?_) (fun hb2 => ?_)
      · skip
        refine x_lload_n (pc := 61) dX11_sumOf_61 (List.Mem.tail _ (List.Mem.tail _ (List.Mem.tail _ (List.Mem.head _)))) ?_
        refine z_lreturn (pc := 62) dX11_sumOf_62 rfl ok (by omega) (by omega) ?_
        exact ⟨by rw [show k = (H.1 2 477).toNat by omega], rfl⟩
      · skip
        have wq := wpB k (by omega)
        have hq := hc k (by omega)
        refine x_lload_n (pc := 18) dX11_sumOf_18 (List.Mem.tail _ (List.Mem.tail _ (List.Mem.tail _ (List.Mem.head _)))) ?_
        refine x_iload_n (pc := 19) dX11_sumOf_19 (List.Mem.tail _ (List.Mem.tail _ (List.Mem.head _))) ?_
        refine z_iconst (pc := 20) dX11_sumOf_20 ?_
        refine z_icmp_eq (pc := 21) (tgt := 39) dX11_sumOf_21 (by decide) (by omega) (by omega) (by decide) (by decide) (fun hb3 => ?_) (fun hb3 => ?_)
        · skip
          refine x_aload_n (pc := 39) dX11_sumOf_39 (List.Mem.head _) ?_
          refine z_getR (pc := 40) (k := 2) (r := 2) dX11_sumOf_40 lf_X11_17 sh_0 rfl rf_0_2 ?_
          refine x_iload_n (pc := 43) dX11_sumOf_43 (List.Mem.tail _ (List.Mem.head _)) ?_
          refine x_iload (pc := 44) dX11_sumOf_44 (List.Mem.tail _ (List.Mem.tail _ (List.Mem.tail _ (List.Mem.tail _ (List.Mem.head _))))) ?_
          refine z_iadd (pc := 46) dX11_sumOf_46 ?_
          have rd4 := ok.1 2 (fr + k)
          refine z_iald (pc := 47) (j := fr + k) (v := H.1 2 (fr + k)) dX11_sumOf_47 sh_2 (by omega) (by omega) (by decide) rfl ?_
          refine z_i2l (pc := 48) dX11_sumOf_48 (by omega) (by omega) ?_
          refine x_goto (pc := 49) (tgt := 53) dX11_sumOf_49 (by decide) ?_
          refine z_ladd (pc := 53) dX11_sumOf_53 ?_
          refine x_lstore_n (pc := 54) dX11_sumOf_54 (Nat.le_of_ble_eq_true rfl) ?_
          show Ev _ _ _ _ _ [(3, .long (zL ((psum (H.1 2) fr w k + (H.1 2 (fr + k)))))), (0, .ref 0), (1, .int (zN ((fr : Int)))), (2, .int (zN (w))), (5, .int (zN ((k : Int))))] _ _
          refine z_iinc (pc := 55) dX11_sumOf_55 (List.Mem.tail _ (List.Mem.tail _ (List.Mem.tail _ (List.Mem.tail _ (List.Mem.head _))))) (Nat.le_of_ble_eq_true rfl) ?_
          show Ev _ _ _ _ _ [(5, .int (zN ((k : Int) + 1))), (3, .long (zL ((psum (H.1 2) fr w k + (H.1 2 (fr + k)))))), (0, .ref 0), (1, .int (zN ((fr : Int)))), (2, .int (zN (w)))] _ _
          refine x_goto (pc := 58) (tgt := 5) dX11_sumOf_58 (by decide) ?_
          refine x_weaken (L1 := [(0, .ref 0), (1, .int (zN ((fr : Int)))), (2, .int (zN (w))), (3, .long (zL (psum (H.1 2) fr w (k + 1)))), (5, .int (zN ((((k + 1) : Nat) : Int))))]) (List.forall_mem_cons.mpr ⟨(List.Mem.tail _ (List.Mem.tail _ (List.Mem.head _))), (List.forall_mem_cons.mpr ⟨(List.Mem.tail _ (List.Mem.tail _ (List.Mem.tail _ (List.Mem.head _)))), (List.forall_mem_cons.mpr ⟨(List.Mem.tail _ (List.Mem.tail _ (List.Mem.tail _ (List.Mem.tail _ (List.Mem.head _))))), (List.forall_mem_cons.mpr ⟨(mem_cl (by show psum (H.1 2) fr w k + (if w = 2 ∨ H.1 2 (478 + k) = w then H.1 2 (fr + k) else 0) = _; first | (rw [if_pos (by omega)]) | (rw [if_neg (by omega)])) (List.Mem.tail _ (List.Mem.head _))), (List.forall_mem_cons.mpr ⟨(mem_ci (by omega) (List.Mem.head _)), (fun _ h => absurd h List.not_mem_nil)⟩)⟩)⟩)⟩)⟩) ?_
          exact ih5 ((k + 1)) (by first | assumption | omega) (by omega)
        · skip
          refine x_aload_n (pc := 24) dX11_sumOf_24 (List.Mem.head _) ?_
          refine z_getR (pc := 25) (k := 2) (r := 2) dX11_sumOf_25 lf_X11_17 sh_0 rfl rf_0_2 ?_
          refine z_sipush (pc := 28) dX11_sumOf_28 sp_478 ?_
          refine x_iload (pc := 31) dX11_sumOf_31 (List.Mem.tail _ (List.Mem.tail _ (List.Mem.tail _ (List.Mem.tail _ (List.Mem.head _))))) ?_
          refine z_iadd (pc := 33) dX11_sumOf_33 ?_
          have rd5 := ok.1 2 (478 + k)
          refine z_iald (pc := 34) (j := 478 + k) (v := H.1 2 (478 + k)) dX11_sumOf_34 sh_2 (by omega) (by omega) (by decide) rfl ?_
          refine x_iload_n (pc := 35) dX11_sumOf_35 (List.Mem.tail _ (List.Mem.tail _ (List.Mem.head _))) ?_
          refine z_icmp_ne (pc := 36) (tgt := 52) dX11_sumOf_36 (by decide) (by omega) (by omega) (by omega) (by omega) (fun hb6 => ?_) (fun hb6 => ?_)
          · skip
            refine z_lconst (pc := 52) 0 dX11_sumOf_52 rfl ?_
            refine z_ladd (pc := 53) dX11_sumOf_53 ?_
            refine x_lstore_n (pc := 54) dX11_sumOf_54 (Nat.le_of_ble_eq_true rfl) ?_
            show Ev _ _ _ _ _ [(3, .long (zL ((psum (H.1 2) fr w k + 0)))), (0, .ref 0), (1, .int (zN ((fr : Int)))), (2, .int (zN (w))), (5, .int (zN ((k : Int))))] _ _
            refine z_iinc (pc := 55) dX11_sumOf_55 (List.Mem.tail _ (List.Mem.tail _ (List.Mem.tail _ (List.Mem.tail _ (List.Mem.head _))))) (Nat.le_of_ble_eq_true rfl) ?_
            show Ev _ _ _ _ _ [(5, .int (zN ((k : Int) + 1))), (3, .long (zL ((psum (H.1 2) fr w k + 0)))), (0, .ref 0), (1, .int (zN ((fr : Int)))), (2, .int (zN (w)))] _ _
            refine x_goto (pc := 58) (tgt := 5) dX11_sumOf_58 (by decide) ?_
            refine x_weaken (L1 := [(0, .ref 0), (1, .int (zN ((fr : Int)))), (2, .int (zN (w))), (3, .long (zL (psum (H.1 2) fr w (k + 1)))), (5, .int (zN ((((k + 1) : Nat) : Int))))]) (List.forall_mem_cons.mpr ⟨(List.Mem.tail _ (List.Mem.tail _ (List.Mem.head _))), (List.forall_mem_cons.mpr ⟨(List.Mem.tail _ (List.Mem.tail _ (List.Mem.tail _ (List.Mem.head _)))), (List.forall_mem_cons.mpr ⟨(List.Mem.tail _ (List.Mem.tail _ (List.Mem.tail _ (List.Mem.tail _ (List.Mem.head _))))), (List.forall_mem_cons.mpr ⟨(mem_cl (by show psum (H.1 2) fr w k + (if w = 2 ∨ H.1 2 (478 + k) = w then H.1 2 (fr + k) else 0) = _; first | (rw [if_pos (by omega)]) | (rw [if_neg (by omega)])) (List.Mem.tail _ (List.Mem.head _))), (List.forall_mem_cons.mpr ⟨(mem_ci (by omega) (List.Mem.head _)), (fun _ h => absurd h List.not_mem_nil)⟩)⟩)⟩)⟩)⟩) ?_
            exact ih5 ((k + 1)) (by first | assumption | omega) (by omega)
          · skip
            refine x_aload_n (pc := 39) dX11_sumOf_39 (List.Mem.head _) ?_
            refine z_getR (pc := 40) (k := 2) (r := 2) dX11_sumOf_40 lf_X11_17 sh_0 rfl rf_0_2 ?_
            refine x_iload_n (pc := 43) dX11_sumOf_43 (List.Mem.tail _ (List.Mem.head _)) ?_
            refine x_iload (pc := 44) dX11_sumOf_44 (List.Mem.tail _ (List.Mem.tail _ (List.Mem.tail _ (List.Mem.tail _ (List.Mem.head _))))) ?_
            refine z_iadd (pc := 46) dX11_sumOf_46 ?_
            have rd7 := ok.1 2 (fr + k)
            refine z_iald (pc := 47) (j := fr + k) (v := H.1 2 (fr + k)) dX11_sumOf_47 sh_2 (by omega) (by omega) (by decide) rfl ?_
            refine z_i2l (pc := 48) dX11_sumOf_48 (by omega) (by omega) ?_
            refine x_goto (pc := 49) (tgt := 53) dX11_sumOf_49 (by decide) ?_
            refine z_ladd (pc := 53) dX11_sumOf_53 ?_
            refine x_lstore_n (pc := 54) dX11_sumOf_54 (Nat.le_of_ble_eq_true rfl) ?_
            show Ev _ _ _ _ _ [(3, .long (zL ((psum (H.1 2) fr w k + (H.1 2 (fr + k)))))), (0, .ref 0), (1, .int (zN ((fr : Int)))), (2, .int (zN (w))), (5, .int (zN ((k : Int))))] _ _
            refine z_iinc (pc := 55) dX11_sumOf_55 (List.Mem.tail _ (List.Mem.tail _ (List.Mem.tail _ (List.Mem.tail _ (List.Mem.head _))))) (Nat.le_of_ble_eq_true rfl) ?_
            show Ev _ _ _ _ _ [(5, .int (zN ((k : Int) + 1))), (3, .long (zL ((psum (H.1 2) fr w k + (H.1 2 (fr + k)))))), (0, .ref 0), (1, .int (zN ((fr : Int)))), (2, .int (zN (w)))] _ _
            refine x_goto (pc := 58) (tgt := 5) dX11_sumOf_58 (by decide) ?_
            refine x_weaken (L1 := [(0, .ref 0), (1, .int (zN ((fr : Int)))), (2, .int (zN (w))), (3, .long (zL (psum (H.1 2) fr w (k + 1)))), (5, .int (zN ((((k + 1) : Nat) : Int))))]) (List.forall_mem_cons.mpr ⟨(List.Mem.tail _ (List.Mem.tail _ (List.Mem.head _))), (List.forall_mem_cons.mpr ⟨(List.Mem.tail _ (List.Mem.tail _ (List.Mem.tail _ (List.Mem.head _)))), (List.forall_mem_cons.mpr ⟨(List.Mem.tail _ (List.Mem.tail _ (List.Mem.tail _ (List.Mem.tail _ (List.Mem.head _))))), (List.forall_mem_cons.mpr ⟨(mem_cl (by show psum (H.1 2) fr w k + (if w = 2 ∨ H.1 2 (478 + k) = w then H.1 2 (fr + k) else 0) = _; first | (rw [if_pos (by omega)]) | (rw [if_neg (by omega)])) (List.Mem.tail _ (List.Mem.head _))), (List.forall_mem_cons.mpr ⟨(mem_ci (by omega) (List.Mem.head _)), (fun _ h => absurd h List.not_mem_nil)⟩)⟩)⟩)⟩)⟩) ?_
            exact ih5 ((k + 1)) (by first | assumption | omega) (by omega)
  refine x_weaken (L1 := [(0, .ref 0), (1, .int (zN ((fr : Int)))), (2, .int (zN (w))), (3, .long (zL (psum (H.1 2) fr w 0))), (5, .int (zN (((0 : Nat) : Int))))]) (List.forall_mem_cons.mpr ⟨(List.Mem.tail _ (List.Mem.tail _ (List.Mem.head _))), (List.forall_mem_cons.mpr ⟨(List.Mem.tail _ (List.Mem.tail _ (List.Mem.tail _ (List.Mem.head _)))), (List.forall_mem_cons.mpr ⟨(List.Mem.tail _ (List.Mem.tail _ (List.Mem.tail _ (List.Mem.tail _ (List.Mem.head _))))), (List.forall_mem_cons.mpr ⟨(mem_cl (rfl) (List.Mem.tail _ (List.Mem.head _))), (List.forall_mem_cons.mpr ⟨(mem_ci (by omega) (List.Mem.head _)), (fun _ h => absurd h List.not_mem_nil)⟩)⟩)⟩)⟩)⟩) ?_
  exact lp5 ((H.1 2 477).toNat - 0 + 1) (0) (by first | assumption | omega) (Nat.lt_succ_self _)

theorem c_X2_partedAbove {d : Nat} {H : ZH} (ok : okZ H) {b : Int} (b01 : b = 0 ∨ b = 1) (wp : WFP (H.1 2)) (rp : RepP H) : EvC zX (d + 2) mX2_partedAbove [.ref 71, .int (zN (b))] (eh H) (zPl (fun (rz : Int) (Hz : ZH) => rz = (pab (H.1 2) b (H.1 2 477).toNat) ∧ Hz = H)) := by
  show _ ∧ Ev zX mX2_partedAbove (EvC zX (d + 1)) (zPl (fun (rz : Int) (Hz : ZH) => rz = (pab (H.1 2) b (H.1 2 477).toNat) ∧ Hz = H)) 0 [(0, .ref 71), (1, .int (zN (b)))] [] (eh H)
  refine ⟨Nat.le_of_ble_eq_true rfl, ?_⟩
  have wpx := wp
  obtain ⟨wpA, wpB, wpC⟩ := wpx
  have rpx := rp
  obtain ⟨rpA, rpB, rpC⟩ := rpx
  have s1 := psums wp 1
  have s0 := psums wp 0
  have sb := psums wp b
  have sp := pab_bd wp b
  have e2 := psum_2 (A := (H.1 2)) (f := 490) (n := (H.1 2 477).toNat) (fun k hk => (wpB k (by omega)).1)
  have e3 := psum_2 (A := (H.1 2)) (f := 502) (n := (H.1 2 477).toNat) (fun k hk => (wpB k (by omega)).1)
  refine x_aload_n (pc := 0) dX2_partedAbove_0 (List.Mem.head _) ?_
  refine x_aload_n (pc := 1) dX2_partedAbove_1 (List.Mem.head _) ?_
  refine z_getR (pc := 2) (k := 2) (r := 73) dX2_partedAbove_2 lf_X2_15 sh_71 rfl rf_71_2 ?_
  refine z_iconst (pc := 5) dX2_partedAbove_5 ?_
  refine z_callVip (pc := 6) (i := mX2_sumOf) (S := []) [.ref 73, .int (zN (1))] dX2_partedAbove_6 ml_X2_46 ok_X2_sumOf rfl sh_71 rfl (Or.inl rfl) (Nat.le_of_ble_eq_true rfl) (c_X2_sumOf (d := d) (c := 73) (fr := 490) (b := 1) (b01 := (by omega)) (ok := ok) (sh := sh_73) (wp := (by first | assumption | omega)) (rp := (by first | assumption | omega)) (hc := (fun p hp => by have := wpB p hp; have := rpB p hp; omega))) (fun r1a r1b ok2 => ?_)
  refine x_aload_n (pc := 9) dX2_partedAbove_9 (List.Mem.head _) ?_
  refine x_aload_n (pc := 10) dX2_partedAbove_10 (List.Mem.head _) ?_
  refine z_getR (pc := 11) (k := 2) (r := 73) dX2_partedAbove_11 lf_X2_15 sh_71 rfl rf_71_2 ?_
  refine z_iconst (pc := 14) dX2_partedAbove_14 ?_
  refine z_callVip (pc := 15) (i := mX2_sumOf) (S := [.int (zN ((psum (H.1 2) 490 1 (H.1 2 477).toNat)))]) [.ref 73, .int (zN (0))] dX2_partedAbove_15 ml_X2_46 ok_X2_sumOf rfl sh_71 rfl (Or.inl rfl) (Nat.le_of_ble_eq_true rfl) (c_X2_sumOf (d := d) (c := 73) (fr := 490) (b := 0) (b01 := (by omega)) (ok := ok2) (sh := sh_73) (wp := (by first | assumption | omega)) (rp := (by first | assumption | omega)) (hc := (fun p hp => by have := wpB p hp; have := rpB p hp; omega))) (fun r3a r3b ok4 => ?_)
  refine z_iadd (pc := 18) dX2_partedAbove_18 ?_
  refine z_i2l (pc := 19) dX2_partedAbove_19 (by omega) (by omega) ?_
  refine x_lstore_n (pc := 20) dX2_partedAbove_20 (Nat.le_of_ble_eq_true rfl) ?_
  show Ev _ _ _ _ _ [(2, .long (zL (((psum (H.1 2) 490 1 (H.1 2 477).toNat) + (psum (H.1 2) 490 0 (H.1 2 477).toNat))))), (0, .ref 71), (1, .int (zN (b)))] _ _
  refine x_aload_n (pc := 21) dX2_partedAbove_21 (List.Mem.tail _ (List.Mem.head _)) ?_
  refine x_aload_n (pc := 22) dX2_partedAbove_22 (List.Mem.tail _ (List.Mem.head _)) ?_
  refine z_getR (pc := 23) (k := 3) (r := 74) dX2_partedAbove_23 lf_X2_18 sh_71 rfl rf_71_3 ?_
  refine z_iconst (pc := 26) dX2_partedAbove_26 ?_
  refine z_callVip (pc := 27) (i := mX2_sumOf) (S := []) [.ref 74, .int (zN (1))] dX2_partedAbove_27 ml_X2_46 ok_X2_sumOf rfl sh_71 rfl (Or.inl rfl) (Nat.le_of_ble_eq_true rfl) (c_X2_sumOf (d := d) (c := 74) (fr := 502) (b := 1) (b01 := (by omega)) (ok := ok4) (sh := sh_74) (wp := (by first | assumption | omega)) (rp := (by first | assumption | omega)) (hc := (fun p hp => by have := wpB p hp; have := rpB p hp; omega))) (fun r5a r5b ok6 => ?_)
  refine x_aload_n (pc := 30) dX2_partedAbove_30 (List.Mem.tail _ (List.Mem.head _)) ?_
  refine x_aload_n (pc := 31) dX2_partedAbove_31 (List.Mem.tail _ (List.Mem.head _)) ?_
  refine z_getR (pc := 32) (k := 3) (r := 74) dX2_partedAbove_32 lf_X2_18 sh_71 rfl rf_71_3 ?_
  refine z_iconst (pc := 35) dX2_partedAbove_35 ?_
  refine z_callVip (pc := 36) (i := mX2_sumOf) (S := [.int (zN ((psum (H.1 2) 502 1 (H.1 2 477).toNat)))]) [.ref 74, .int (zN (0))] dX2_partedAbove_36 ml_X2_46 ok_X2_sumOf rfl sh_71 rfl (Or.inl rfl) (Nat.le_of_ble_eq_true rfl) (c_X2_sumOf (d := d) (c := 74) (fr := 502) (b := 0) (b01 := (by omega)) (ok := ok6) (sh := sh_74) (wp := (by first | assumption | omega)) (rp := (by first | assumption | omega)) (hc := (fun p hp => by have := wpB p hp; have := rpB p hp; omega))) (fun r7a r7b ok8 => ?_)
  refine z_iadd (pc := 39) dX2_partedAbove_39 ?_
  refine z_i2l (pc := 40) dX2_partedAbove_40 (by omega) (by omega) ?_
  refine x_lstore (pc := 41) dX2_partedAbove_41 (Nat.le_of_ble_eq_true rfl) ?_
  show Ev _ _ _ _ _ [(4, .long (zL (((psum (H.1 2) 502 1 (H.1 2 477).toNat) + (psum (H.1 2) 502 0 (H.1 2 477).toNat))))), (2, .long (zL (((psum (H.1 2) 490 1 (H.1 2 477).toNat) + (psum (H.1 2) 490 0 (H.1 2 477).toNat))))), (0, .ref 71), (1, .int (zN (b)))] _ _
  refine x_aload_n (pc := 43) dX2_partedAbove_43 (List.Mem.tail _ (List.Mem.tail _ (List.Mem.head _))) ?_
  refine x_aload_n (pc := 44) dX2_partedAbove_44 (List.Mem.tail _ (List.Mem.tail _ (List.Mem.head _))) ?_
  refine z_getR (pc := 45) (k := 4) (r := 75) dX2_partedAbove_45 lf_X2_21 sh_71 rfl rf_71_4 ?_
  refine x_iload_n (pc := 48) dX2_partedAbove_48 (List.Mem.tail _ (List.Mem.tail _ (List.Mem.tail _ (List.Mem.head _)))) ?_
  refine z_callVip (pc := 49) (i := mX2_sumOf) (S := []) [.ref 75, .int (zN (b))] dX2_partedAbove_49 ml_X2_46 ok_X2_sumOf rfl sh_71 rfl (Or.inl rfl) (Nat.le_of_ble_eq_true rfl) (c_X2_sumOf (d := d) (c := 75) (fr := 514) (b := b) (b01 := (by omega)) (ok := ok8) (sh := sh_75) (wp := (by first | assumption | omega)) (rp := (by first | assumption | omega)) (hc := (fun p hp => by have := wpB p hp; have := rpB p hp; omega))) (fun r9a r9b ok10 => ?_)
  refine z_i2l (pc := 52) dX2_partedAbove_52 (by omega) (by omega) ?_
  refine x_lload_n (pc := 53) dX2_partedAbove_53 (List.Mem.tail _ (List.Mem.head _)) ?_
  refine z_lmul (pc := 54) dX2_partedAbove_54 ?_
  refine x_aload_n (pc := 55) dX2_partedAbove_55 (List.Mem.tail _ (List.Mem.tail _ (List.Mem.head _))) ?_
  refine x_aload_n (pc := 56) dX2_partedAbove_56 (List.Mem.tail _ (List.Mem.tail _ (List.Mem.head _))) ?_
  refine z_getR (pc := 57) (k := 3) (r := 74) dX2_partedAbove_57 lf_X2_18 sh_71 rfl rf_71_3 ?_
  refine x_iload_n (pc := 60) dX2_partedAbove_60 (List.Mem.tail _ (List.Mem.tail _ (List.Mem.tail _ (List.Mem.head _)))) ?_
  refine z_callVip (pc := 61) (i := mX2_sumOf) (S := [.long (zL (((psum (H.1 2) 514 b (H.1 2 477).toNat) * ((psum (H.1 2) 490 1 (H.1 2 477).toNat) + (psum (H.1 2) 490 0 (H.1 2 477).toNat)))))]) [.ref 74, .int (zN (b))] dX2_partedAbove_61 ml_X2_46 ok_X2_sumOf rfl sh_71 rfl (Or.inl rfl) (Nat.le_of_ble_eq_true rfl) (c_X2_sumOf (d := d) (c := 74) (fr := 502) (b := b) (b01 := (by omega)) (ok := ok10) (sh := sh_74) (wp := (by first | assumption | omega)) (rp := (by first | assumption | omega)) (hc := (fun p hp => by have := wpB p hp; have := rpB p hp; omega))) (fun r11a r11b ok12 => ?_)
  refine z_iconst (pc := 64) dX2_partedAbove_64 ?_
  refine z_mmax (pc := 65) dX2_partedAbove_65 ml_X2_50 (Nat.le_of_ble_eq_true rfl) (by omega) (by omega) (by decide) (by decide) ?_
  refine z_i2l (pc := 68) dX2_partedAbove_68 (by omega) (by omega) ?_
  refine z_lmul (pc := 69) dX2_partedAbove_69 ?_
  refine x_aload_n (pc := 70) dX2_partedAbove_70 (List.Mem.tail _ (List.Mem.tail _ (List.Mem.head _))) ?_
  refine x_aload_n (pc := 71) dX2_partedAbove_71 (List.Mem.tail _ (List.Mem.tail _ (List.Mem.head _))) ?_
  refine z_getR (pc := 72) (k := 5) (r := 76) dX2_partedAbove_72 lf_X2_24 sh_71 rfl rf_71_5 ?_
  refine x_iload_n (pc := 75) dX2_partedAbove_75 (List.Mem.tail _ (List.Mem.tail _ (List.Mem.tail _ (List.Mem.head _)))) ?_
  refine z_callVip (pc := 76) (i := mX2_sumOf) (S := [.long (zL ((((psum (H.1 2) 514 b (H.1 2 477).toNat) * ((psum (H.1 2) 490 1 (H.1 2 477).toNat) + (psum (H.1 2) 490 0 (H.1 2 477).toNat))) * (if (psum (H.1 2) 502 b (H.1 2 477).toNat) < 1 then 1 else (psum (H.1 2) 502 b (H.1 2 477).toNat)))))]) [.ref 76, .int (zN (b))] dX2_partedAbove_76 ml_X2_46 ok_X2_sumOf rfl sh_71 rfl (Or.inl rfl) (Nat.le_of_ble_eq_true rfl) (c_X2_sumOf (d := d) (c := 76) (fr := 526) (b := b) (b01 := (by omega)) (ok := ok12) (sh := sh_76) (wp := (by first | assumption | omega)) (rp := (by first | assumption | omega)) (hc := (fun p hp => by have := wpB p hp; have := rpB p hp; omega))) (fun r13a r13b ok14 => ?_)
  refine z_i2l (pc := 79) dX2_partedAbove_79 (by omega) (by omega) ?_
  refine x_lload (pc := 80) dX2_partedAbove_80 (List.Mem.head _) ?_
  refine z_lmul (pc := 82) dX2_partedAbove_82 ?_
  refine x_aload_n (pc := 83) dX2_partedAbove_83 (List.Mem.tail _ (List.Mem.tail _ (List.Mem.head _))) ?_
  refine x_aload_n (pc := 84) dX2_partedAbove_84 (List.Mem.tail _ (List.Mem.tail _ (List.Mem.head _))) ?_
  refine z_getR (pc := 85) (k := 2) (r := 73) dX2_partedAbove_85 lf_X2_15 sh_71 rfl rf_71_2 ?_
  refine x_iload_n (pc := 88) dX2_partedAbove_88 (List.Mem.tail _ (List.Mem.tail _ (List.Mem.tail _ (List.Mem.head _)))) ?_
  refine z_callVip (pc := 89) (i := mX2_sumOf) (S := [.long (zL (((psum (H.1 2) 526 b (H.1 2 477).toNat) * ((psum (H.1 2) 502 1 (H.1 2 477).toNat) + (psum (H.1 2) 502 0 (H.1 2 477).toNat))))), .long (zL ((((psum (H.1 2) 514 b (H.1 2 477).toNat) * ((psum (H.1 2) 490 1 (H.1 2 477).toNat) + (psum (H.1 2) 490 0 (H.1 2 477).toNat))) * (if (psum (H.1 2) 502 b (H.1 2 477).toNat) < 1 then 1 else (psum (H.1 2) 502 b (H.1 2 477).toNat)))))]) [.ref 73, .int (zN (b))] dX2_partedAbove_89 ml_X2_46 ok_X2_sumOf rfl sh_71 rfl (Or.inl rfl) (Nat.le_of_ble_eq_true rfl) (c_X2_sumOf (d := d) (c := 73) (fr := 490) (b := b) (b01 := (by omega)) (ok := ok14) (sh := sh_73) (wp := (by first | assumption | omega)) (rp := (by first | assumption | omega)) (hc := (fun p hp => by have := wpB p hp; have := rpB p hp; omega))) (fun r15a r15b ok16 => ?_)
  refine z_iconst (pc := 92) dX2_partedAbove_92 ?_
  refine z_mmax (pc := 93) dX2_partedAbove_93 ml_X2_50 (Nat.le_of_ble_eq_true rfl) (by omega) (by omega) (by decide) (by decide) ?_
  refine z_i2l (pc := 96) dX2_partedAbove_96 (by omega) (by omega) ?_
  unfold pab at sp
  rw [e2, e3] at sp
  unfold zmx at sp
  refine z_lmul (pc := 97) dX2_partedAbove_97 ?_
  refine z_ladd (pc := 98) dX2_partedAbove_98 ?_
  refine z_lreturn (pc := 99) dX2_partedAbove_99 rfl ok16 (by omega) (by omega) ?_
  refine ⟨?_, rfl⟩
  unfold pab
  rw [e2, e3]
  rfl

theorem c_X2_partedBelow {d : Nat} {H : ZH} (ok : okZ H) {b : Int} (b01 : b = 0 ∨ b = 1) (wp : WFP (H.1 2)) (rp : RepP H) : EvC zX (d + 2) mX2_partedBelow [.ref 71, .int (zN (b))] (eh H) (zPl (fun (rz : Int) (Hz : ZH) => rz = (pbe (H.1 2) b (H.1 2 477).toNat) ∧ Hz = H)) := by
  show _ ∧ Ev zX mX2_partedBelow (EvC zX (d + 1)) (zPl (fun (rz : Int) (Hz : ZH) => rz = (pbe (H.1 2) b (H.1 2 477).toNat) ∧ Hz = H)) 0 [(0, .ref 71), (1, .int (zN (b)))] [] (eh H)
  refine ⟨Nat.le_of_ble_eq_true rfl, ?_⟩
  have wpx := wp
  obtain ⟨wpA, wpB, wpC⟩ := wpx
  have rpx := rp
  obtain ⟨rpA, rpB, rpC⟩ := rpx
  have sb := psums wp b
  have sp := pab_bd wp b
  refine x_aload_n (pc := 0) dX2_partedBelow_0 (List.Mem.head _) ?_
  refine x_aload_n (pc := 1) dX2_partedBelow_1 (List.Mem.head _) ?_
  refine z_getR (pc := 2) (k := 2) (r := 73) dX2_partedBelow_2 lf_X2_15 sh_71 rfl rf_71_2 ?_
  refine x_iload_n (pc := 5) dX2_partedBelow_5 (List.Mem.tail _ (List.Mem.head _)) ?_
  refine z_callVip (pc := 6) (i := mX2_sumOf) (S := []) [.ref 73, .int (zN (b))] dX2_partedBelow_6 ml_X2_46 ok_X2_sumOf rfl sh_71 rfl (Or.inl rfl) (Nat.le_of_ble_eq_true rfl) (c_X2_sumOf (d := d) (c := 73) (fr := 490) (b := b) (b01 := (by omega)) (ok := ok) (sh := sh_73) (wp := (by first | assumption | omega)) (rp := (by first | assumption | omega)) (hc := (fun p hp => by have := wpB p hp; have := rpB p hp; omega))) (fun r1a r1b ok2 => ?_)
  refine z_iconst (pc := 9) dX2_partedBelow_9 ?_
  refine z_mmax (pc := 10) dX2_partedBelow_10 ml_X2_50 (Nat.le_of_ble_eq_true rfl) (by omega) (by omega) (by decide) (by decide) ?_
  refine z_i2l (pc := 13) dX2_partedBelow_13 (by omega) (by omega) ?_
  refine x_aload_n (pc := 14) dX2_partedBelow_14 (List.Mem.head _) ?_
  refine x_aload_n (pc := 15) dX2_partedBelow_15 (List.Mem.head _) ?_
  refine z_getR (pc := 16) (k := 3) (r := 74) dX2_partedBelow_16 lf_X2_18 sh_71 rfl rf_71_3 ?_
  refine x_iload_n (pc := 19) dX2_partedBelow_19 (List.Mem.tail _ (List.Mem.head _)) ?_
  refine z_callVip (pc := 20) (i := mX2_sumOf) (S := [.long (zL ((if (psum (H.1 2) 490 b (H.1 2 477).toNat) < 1 then 1 else (psum (H.1 2) 490 b (H.1 2 477).toNat))))]) [.ref 74, .int (zN (b))] dX2_partedBelow_20 ml_X2_46 ok_X2_sumOf rfl sh_71 rfl (Or.inl rfl) (Nat.le_of_ble_eq_true rfl) (c_X2_sumOf (d := d) (c := 74) (fr := 502) (b := b) (b01 := (by omega)) (ok := ok2) (sh := sh_74) (wp := (by first | assumption | omega)) (rp := (by first | assumption | omega)) (hc := (fun p hp => by have := wpB p hp; have := rpB p hp; omega))) (fun r3a r3b ok4 => ?_)
  refine z_iconst (pc := 23) dX2_partedBelow_23 ?_
  refine z_mmax (pc := 24) dX2_partedBelow_24 ml_X2_50 (Nat.le_of_ble_eq_true rfl) (by omega) (by omega) (by decide) (by decide) ?_
  refine z_i2l (pc := 27) dX2_partedBelow_27 (by omega) (by omega) ?_
  unfold pbe at sp
  unfold zmx at sp
  refine z_lmul (pc := 28) dX2_partedBelow_28 ?_
  refine z_lreturn (pc := 29) dX2_partedBelow_29 rfl ok4 (by omega) (by omega) ?_
  exact ⟨rfl, rfl⟩

theorem c_X11_partedAbove {d : Nat} {H : ZH} (ok : okZ H) {w : Int} (w01 : w = 0 ∨ w = 1) (wp : WFP (H.1 2)) : EvC zX (d + 2) mX11_partedAbove [.ref 0, .int (zN (w))] (eh H) (zPl (fun (rz : Int) (Hz : ZH) => rz = (pab (H.1 2) w (H.1 2 477).toNat) ∧ Hz = H)) := by
  show _ ∧ Ev zX mX11_partedAbove (EvC zX (d + 1)) (zPl (fun (rz : Int) (Hz : ZH) => rz = (pab (H.1 2) w (H.1 2 477).toNat) ∧ Hz = H)) 0 [(0, .ref 0), (1, .int (zN (w)))] [] (eh H)
  refine ⟨Nat.le_of_ble_eq_true rfl, ?_⟩
  have wpx := wp
  obtain ⟨wpA, wpB, wpC⟩ := wpx
  have s2 := psums wp 2
  have sb := psums wp w
  have sp := pab_bd wp w
  unfold zmx at sp
  have g1 := nn2 (y := psum (H.1 2) 502 w (H.1 2 477).toNat) (B := 3600) sp.1.1 sp.1.2 (by omega) (by omega)
  have g2 := nn2 (y := psum (H.1 2) 490 w (H.1 2 477).toNat) (B := 3600) sp.2.1.1 sp.2.1.2 (by omega) (by omega)
  refine x_aload_n (pc := 0) dX11_partedAbove_0 (List.Mem.head _) ?_
  refine z_sipush (pc := 1) dX11_partedAbove_1 sp_490 ?_
  refine x_iload_n (pc := 4) dX11_partedAbove_4 (List.Mem.tail _ (List.Mem.head _)) ?_
  refine z_callVlp (pc := 5) (i := mX11_sumOf) (S := []) [.int (zN (490)), .int (zN (w))] dX11_partedAbove_5 ml_X11_321 ok_X11_sumOf rfl sh_0 rfl rfl (Nat.le_of_ble_eq_true rfl) (c_X11_sumOf (d := d) (fr := 490) (f1 := (by omega)) (w := w) (w01 := (by omega)) (ok := ok) (wp := (by first | assumption | omega)) (hc := (fun p hp => by have := wpB p hp; omega))) (fun r1a r1b ok2 => ?_)
  refine x_lstore_n (pc := 8) dX11_partedAbove_8 (Nat.le_of_ble_eq_true rfl) ?_
  show Ev _ _ _ _ _ [(2, .long (zL ((psum (H.1 2) 490 w (H.1 2 477).toNat)))), (0, .ref 0), (1, .int (zN (w)))] _ _
  refine x_aload_n (pc := 9) dX11_partedAbove_9 (List.Mem.tail _ (List.Mem.head _)) ?_
  refine z_sipush (pc := 10) dX11_partedAbove_10 sp_502 ?_
  refine x_iload_n (pc := 13) dX11_partedAbove_13 (List.Mem.tail _ (List.Mem.tail _ (List.Mem.head _))) ?_
  refine z_callVlp (pc := 14) (i := mX11_sumOf) (S := []) [.int (zN (502)), .int (zN (w))] dX11_partedAbove_14 ml_X11_321 ok_X11_sumOf rfl sh_0 rfl rfl (Nat.le_of_ble_eq_true rfl) (c_X11_sumOf (d := d) (fr := 502) (f1 := (by omega)) (w := w) (w01 := (by omega)) (ok := ok2) (wp := (by first | assumption | omega)) (hc := (fun p hp => by have := wpB p hp; omega))) (fun r3a r3b ok4 => ?_)
  refine x_lstore (pc := 17) dX11_partedAbove_17 (Nat.le_of_ble_eq_true rfl) ?_
  show Ev _ _ _ _ _ [(4, .long (zL ((psum (H.1 2) 502 w (H.1 2 477).toNat)))), (2, .long (zL ((psum (H.1 2) 490 w (H.1 2 477).toNat)))), (0, .ref 0), (1, .int (zN (w)))] _ _
  refine x_lload_n (pc := 19) dX11_partedAbove_19 (List.Mem.tail _ (List.Mem.head _)) ?_
  refine z_lconst (pc := 20) 0 dX11_partedAbove_20 rfl ?_
  refine z_lcmp_ne (pc := 21) (tgt := 29) dX11_partedAbove_21 dX11_partedAbove_22 (by decide) (by omega) (by omega) (by decide) (by decide) (fun hb5 => ?_) (fun hb5 => ?_)
  · skip
    refine x_aload_n (pc := 29) dX11_partedAbove_29 (List.Mem.tail _ (List.Mem.tail _ (List.Mem.head _))) ?_
    refine z_sipush (pc := 30) dX11_partedAbove_30 sp_514 ?_
    refine x_iload_n (pc := 33) dX11_partedAbove_33 (List.Mem.tail _ (List.Mem.tail _ (List.Mem.tail _ (List.Mem.head _)))) ?_
    refine z_callVlp (pc := 34) (i := mX11_sumOf) (S := []) [.int (zN (514)), .int (zN (w))] dX11_partedAbove_34 ml_X11_321 ok_X11_sumOf rfl sh_0 rfl rfl (Nat.le_of_ble_eq_true rfl) (c_X11_sumOf (d := d) (fr := 514) (f1 := (by omega)) (w := w) (w01 := (by omega)) (ok := ok4) (wp := (by first | assumption | omega)) (hc := (fun p hp => by have := wpB p hp; omega))) (fun r6a r6b ok7 => ?_)
    refine x_aload_n (pc := 37) dX11_partedAbove_37 (List.Mem.tail _ (List.Mem.tail _ (List.Mem.head _))) ?_
    refine z_sipush (pc := 38) dX11_partedAbove_38 sp_490 ?_
    refine z_iconst (pc := 41) dX11_partedAbove_41 ?_
    refine z_callVlp (pc := 42) (i := mX11_sumOf) (S := [.long (zL ((psum (H.1 2) 514 w (H.1 2 477).toNat)))]) [.int (zN (490)), .int (zN (2))] dX11_partedAbove_42 ml_X11_321 ok_X11_sumOf rfl sh_0 rfl rfl (Nat.le_of_ble_eq_true rfl) (c_X11_sumOf (d := d) (fr := 490) (f1 := (by omega)) (w := 2) (w01 := (by omega)) (ok := ok7) (wp := (by first | assumption | omega)) (hc := (fun p hp => by have := wpB p hp; omega))) (fun r8a r8b ok9 => ?_)
    refine z_lmul (pc := 45) dX11_partedAbove_45 ?_
    refine x_lload (pc := 46) dX11_partedAbove_46 (List.Mem.head _) ?_
    refine z_lconst (pc := 48) 0 dX11_partedAbove_48 rfl ?_
    refine z_lcmp_ne (pc := 49) (tgt := 57) dX11_partedAbove_49 dX11_partedAbove_50 (by decide) (by omega) (by omega) (by decide) (by decide) (fun hb10 => ?_) (fun hb10 => ?_)
    · skip
      refine x_lload (pc := 57) dX11_partedAbove_57 (List.Mem.head _) ?_
      refine z_lmul (pc := 59) dX11_partedAbove_59 ?_
      refine x_lstore (pc := 60) dX11_partedAbove_60 (Nat.le_of_ble_eq_true rfl) ?_
      show Ev _ _ _ _ _ [(6, .long (zL ((((psum (H.1 2) 514 w (H.1 2 477).toNat) * (psum (H.1 2) 490 2 (H.1 2 477).toNat)) * (psum (H.1 2) 502 w (H.1 2 477).toNat))))), (4, .long (zL ((psum (H.1 2) 502 w (H.1 2 477).toNat)))), (2, .long (zL ((psum (H.1 2) 490 w (H.1 2 477).toNat)))), (0, .ref 0), (1, .int (zN (w)))] _ _
      refine x_lload (pc := 62) dX11_partedAbove_62 (List.Mem.tail _ (List.Mem.head _)) ?_
      refine z_lconst (pc := 64) 0 dX11_partedAbove_64 rfl ?_
      refine z_lcmp_ne (pc := 65) (tgt := 73) dX11_partedAbove_65 dX11_partedAbove_66 (by decide) (by omega) (by omega) (by decide) (by decide) (fun hb11 => ?_) (fun hb11 => ?_)
      · skip
        refine x_aload_n (pc := 73) dX11_partedAbove_73 (List.Mem.tail _ (List.Mem.tail _ (List.Mem.tail _ (List.Mem.head _)))) ?_
        refine z_sipush (pc := 74) dX11_partedAbove_74 sp_526 ?_
        refine x_iload_n (pc := 77) dX11_partedAbove_77 (List.Mem.tail _ (List.Mem.tail _ (List.Mem.tail _ (List.Mem.tail _ (List.Mem.head _))))) ?_
        refine z_callVlp (pc := 78) (i := mX11_sumOf) (S := []) [.int (zN (526)), .int (zN (w))] dX11_partedAbove_78 ml_X11_321 ok_X11_sumOf rfl sh_0 rfl rfl (Nat.le_of_ble_eq_true rfl) (c_X11_sumOf (d := d) (fr := 526) (f1 := (by omega)) (w := w) (w01 := (by omega)) (ok := ok9) (wp := (by first | assumption | omega)) (hc := (fun p hp => by have := wpB p hp; omega))) (fun r12a r12b ok13 => ?_)
        refine x_aload_n (pc := 81) dX11_partedAbove_81 (List.Mem.tail _ (List.Mem.tail _ (List.Mem.tail _ (List.Mem.head _)))) ?_
        refine z_sipush (pc := 82) dX11_partedAbove_82 sp_502 ?_
        refine z_iconst (pc := 85) dX11_partedAbove_85 ?_
        refine z_callVlp (pc := 86) (i := mX11_sumOf) (S := [.long (zL ((psum (H.1 2) 526 w (H.1 2 477).toNat)))]) [.int (zN (502)), .int (zN (2))] dX11_partedAbove_86 ml_X11_321 ok_X11_sumOf rfl sh_0 rfl rfl (Nat.le_of_ble_eq_true rfl) (c_X11_sumOf (d := d) (fr := 502) (f1 := (by omega)) (w := 2) (w01 := (by omega)) (ok := ok13) (wp := (by first | assumption | omega)) (hc := (fun p hp => by have := wpB p hp; omega))) (fun r14a r14b ok15 => ?_)
        refine z_lmul (pc := 89) dX11_partedAbove_89 ?_
        refine x_lload_n (pc := 90) dX11_partedAbove_90 (List.Mem.tail _ (List.Mem.tail _ (List.Mem.head _))) ?_
        refine z_lconst (pc := 91) 0 dX11_partedAbove_91 rfl ?_
        refine z_lcmp_ne (pc := 92) (tgt := 100) dX11_partedAbove_92 dX11_partedAbove_93 (by decide) (by omega) (by omega) (by decide) (by decide) (fun hb16 => ?_) (fun hb16 => ?_)
        · skip
          refine x_lload_n (pc := 100) dX11_partedAbove_100 (List.Mem.tail _ (List.Mem.tail _ (List.Mem.head _))) ?_
          refine z_lmul (pc := 101) dX11_partedAbove_101 ?_
          refine x_lstore (pc := 102) dX11_partedAbove_102 (Nat.le_of_ble_eq_true rfl) ?_
          show Ev _ _ _ _ _ [(8, .long (zL ((((psum (H.1 2) 526 w (H.1 2 477).toNat) * (psum (H.1 2) 502 2 (H.1 2 477).toNat)) * (psum (H.1 2) 490 w (H.1 2 477).toNat))))), (6, .long (zL ((((psum (H.1 2) 514 w (H.1 2 477).toNat) * (psum (H.1 2) 490 2 (H.1 2 477).toNat)) * (psum (H.1 2) 502 w (H.1 2 477).toNat))))), (4, .long (zL ((psum (H.1 2) 502 w (H.1 2 477).toNat)))), (2, .long (zL ((psum (H.1 2) 490 w (H.1 2 477).toNat)))), (0, .ref 0), (1, .int (zN (w)))] _ _
          refine x_lload (pc := 104) dX11_partedAbove_104 (List.Mem.tail _ (List.Mem.head _)) ?_
          refine x_lload (pc := 106) dX11_partedAbove_106 (List.Mem.head _) ?_
          refine z_ladd (pc := 108) dX11_partedAbove_108 ?_
          refine z_lreturn (pc := 109) dX11_partedAbove_109 rfl ok15 (by omega) (by omega) ?_
          refine ⟨?_, rfl⟩
          rw [pab_alt wp w]
          (repeat' split) <;> first | rfl | omega
        · skip
          refine z_lconst (pc := 96) 1 dX11_partedAbove_96 rfl ?_
          refine x_goto (pc := 97) (tgt := 101) dX11_partedAbove_97 (by decide) ?_
          refine z_lmul (pc := 101) dX11_partedAbove_101 ?_
          refine x_lstore (pc := 102) dX11_partedAbove_102 (Nat.le_of_ble_eq_true rfl) ?_
          show Ev _ _ _ _ _ [(8, .long (zL ((((psum (H.1 2) 526 w (H.1 2 477).toNat) * (psum (H.1 2) 502 2 (H.1 2 477).toNat)) * 1)))), (6, .long (zL ((((psum (H.1 2) 514 w (H.1 2 477).toNat) * (psum (H.1 2) 490 2 (H.1 2 477).toNat)) * (psum (H.1 2) 502 w (H.1 2 477).toNat))))), (4, .long (zL ((psum (H.1 2) 502 w (H.1 2 477).toNat)))), (2, .long (zL ((psum (H.1 2) 490 w (H.1 2 477).toNat)))), (0, .ref 0), (1, .int (zN (w)))] _ _
          refine x_lload (pc := 104) dX11_partedAbove_104 (List.Mem.tail _ (List.Mem.head _)) ?_
          refine x_lload (pc := 106) dX11_partedAbove_106 (List.Mem.head _) ?_
          refine z_ladd (pc := 108) dX11_partedAbove_108 ?_
          refine z_lreturn (pc := 109) dX11_partedAbove_109 rfl ok15 (by omega) (by omega) ?_
          refine ⟨?_, rfl⟩
          rw [pab_alt wp w]
          (repeat' split) <;> first | rfl | omega
      · skip
        refine z_lconst (pc := 69) 0 dX11_partedAbove_69 rfl ?_
        refine x_goto (pc := 70) (tgt := 102) dX11_partedAbove_70 (by decide) ?_
        refine x_lstore (pc := 102) dX11_partedAbove_102 (Nat.le_of_ble_eq_true rfl) ?_
        show Ev _ _ _ _ _ [(8, .long (zL (0))), (6, .long (zL ((((psum (H.1 2) 514 w (H.1 2 477).toNat) * (psum (H.1 2) 490 2 (H.1 2 477).toNat)) * (psum (H.1 2) 502 w (H.1 2 477).toNat))))), (4, .long (zL ((psum (H.1 2) 502 w (H.1 2 477).toNat)))), (2, .long (zL ((psum (H.1 2) 490 w (H.1 2 477).toNat)))), (0, .ref 0), (1, .int (zN (w)))] _ _
        refine x_lload (pc := 104) dX11_partedAbove_104 (List.Mem.tail _ (List.Mem.head _)) ?_
        refine x_lload (pc := 106) dX11_partedAbove_106 (List.Mem.head _) ?_
        refine z_ladd (pc := 108) dX11_partedAbove_108 ?_
        refine z_lreturn (pc := 109) dX11_partedAbove_109 rfl ok9 (by omega) (by omega) ?_
        refine ⟨?_, rfl⟩
        rw [pab_alt wp w]
        (repeat' split) <;> first | rfl | omega
    · skip
      refine z_lconst (pc := 53) 1 dX11_partedAbove_53 rfl ?_
      refine x_goto (pc := 54) (tgt := 59) dX11_partedAbove_54 (by decide) ?_
      refine z_lmul (pc := 59) dX11_partedAbove_59 ?_
      refine x_lstore (pc := 60) dX11_partedAbove_60 (Nat.le_of_ble_eq_true rfl) ?_
      show Ev _ _ _ _ _ [(6, .long (zL ((((psum (H.1 2) 514 w (H.1 2 477).toNat) * (psum (H.1 2) 490 2 (H.1 2 477).toNat)) * 1)))), (4, .long (zL ((psum (H.1 2) 502 w (H.1 2 477).toNat)))), (2, .long (zL ((psum (H.1 2) 490 w (H.1 2 477).toNat)))), (0, .ref 0), (1, .int (zN (w)))] _ _
      refine x_lload (pc := 62) dX11_partedAbove_62 (List.Mem.tail _ (List.Mem.head _)) ?_
      refine z_lconst (pc := 64) 0 dX11_partedAbove_64 rfl ?_
      refine z_lcmp_ne (pc := 65) (tgt := 73) dX11_partedAbove_65 dX11_partedAbove_66 (by decide) (by omega) (by omega) (by decide) (by decide) (fun hb17 => ?_) (fun hb17 => ?_)
      · skip
        refine x_aload_n (pc := 73) dX11_partedAbove_73 (List.Mem.tail _ (List.Mem.tail _ (List.Mem.tail _ (List.Mem.head _)))) ?_
        refine z_sipush (pc := 74) dX11_partedAbove_74 sp_526 ?_
        refine x_iload_n (pc := 77) dX11_partedAbove_77 (List.Mem.tail _ (List.Mem.tail _ (List.Mem.tail _ (List.Mem.tail _ (List.Mem.head _))))) ?_
        refine z_callVlp (pc := 78) (i := mX11_sumOf) (S := []) [.int (zN (526)), .int (zN (w))] dX11_partedAbove_78 ml_X11_321 ok_X11_sumOf rfl sh_0 rfl rfl (Nat.le_of_ble_eq_true rfl) (c_X11_sumOf (d := d) (fr := 526) (f1 := (by omega)) (w := w) (w01 := (by omega)) (ok := ok9) (wp := (by first | assumption | omega)) (hc := (fun p hp => by have := wpB p hp; omega))) (fun r18a r18b ok19 => ?_)
        refine x_aload_n (pc := 81) dX11_partedAbove_81 (List.Mem.tail _ (List.Mem.tail _ (List.Mem.tail _ (List.Mem.head _)))) ?_
        refine z_sipush (pc := 82) dX11_partedAbove_82 sp_502 ?_
        refine z_iconst (pc := 85) dX11_partedAbove_85 ?_
        refine z_callVlp (pc := 86) (i := mX11_sumOf) (S := [.long (zL ((psum (H.1 2) 526 w (H.1 2 477).toNat)))]) [.int (zN (502)), .int (zN (2))] dX11_partedAbove_86 ml_X11_321 ok_X11_sumOf rfl sh_0 rfl rfl (Nat.le_of_ble_eq_true rfl) (c_X11_sumOf (d := d) (fr := 502) (f1 := (by omega)) (w := 2) (w01 := (by omega)) (ok := ok19) (wp := (by first | assumption | omega)) (hc := (fun p hp => by have := wpB p hp; omega))) (fun r20a r20b ok21 => ?_)
        refine z_lmul (pc := 89) dX11_partedAbove_89 ?_
        refine x_lload_n (pc := 90) dX11_partedAbove_90 (List.Mem.tail _ (List.Mem.tail _ (List.Mem.head _))) ?_
        refine z_lconst (pc := 91) 0 dX11_partedAbove_91 rfl ?_
        refine z_lcmp_ne (pc := 92) (tgt := 100) dX11_partedAbove_92 dX11_partedAbove_93 (by decide) (by omega) (by omega) (by decide) (by decide) (fun hb22 => ?_) (fun hb22 => ?_)
        · skip
          refine x_lload_n (pc := 100) dX11_partedAbove_100 (List.Mem.tail _ (List.Mem.tail _ (List.Mem.head _))) ?_
          refine z_lmul (pc := 101) dX11_partedAbove_101 ?_
          refine x_lstore (pc := 102) dX11_partedAbove_102 (Nat.le_of_ble_eq_true rfl) ?_
          show Ev _ _ _ _ _ [(8, .long (zL ((((psum (H.1 2) 526 w (H.1 2 477).toNat) * (psum (H.1 2) 502 2 (H.1 2 477).toNat)) * (psum (H.1 2) 490 w (H.1 2 477).toNat))))), (6, .long (zL ((((psum (H.1 2) 514 w (H.1 2 477).toNat) * (psum (H.1 2) 490 2 (H.1 2 477).toNat)) * 1)))), (4, .long (zL ((psum (H.1 2) 502 w (H.1 2 477).toNat)))), (2, .long (zL ((psum (H.1 2) 490 w (H.1 2 477).toNat)))), (0, .ref 0), (1, .int (zN (w)))] _ _
          refine x_lload (pc := 104) dX11_partedAbove_104 (List.Mem.tail _ (List.Mem.head _)) ?_
          refine x_lload (pc := 106) dX11_partedAbove_106 (List.Mem.head _) ?_
          refine z_ladd (pc := 108) dX11_partedAbove_108 ?_
          refine z_lreturn (pc := 109) dX11_partedAbove_109 rfl ok21 (by omega) (by omega) ?_
          refine ⟨?_, rfl⟩
          rw [pab_alt wp w]
          (repeat' split) <;> first | rfl | omega
        · skip
          refine z_lconst (pc := 96) 1 dX11_partedAbove_96 rfl ?_
          refine x_goto (pc := 97) (tgt := 101) dX11_partedAbove_97 (by decide) ?_
          refine z_lmul (pc := 101) dX11_partedAbove_101 ?_
          refine x_lstore (pc := 102) dX11_partedAbove_102 (Nat.le_of_ble_eq_true rfl) ?_
          show Ev _ _ _ _ _ [(8, .long (zL ((((psum (H.1 2) 526 w (H.1 2 477).toNat) * (psum (H.1 2) 502 2 (H.1 2 477).toNat)) * 1)))), (6, .long (zL ((((psum (H.1 2) 514 w (H.1 2 477).toNat) * (psum (H.1 2) 490 2 (H.1 2 477).toNat)) * 1)))), (4, .long (zL ((psum (H.1 2) 502 w (H.1 2 477).toNat)))), (2, .long (zL ((psum (H.1 2) 490 w (H.1 2 477).toNat)))), (0, .ref 0), (1, .int (zN (w)))] _ _
          refine x_lload (pc := 104) dX11_partedAbove_104 (List.Mem.tail _ (List.Mem.head _)) ?_
          refine x_lload (pc := 106) dX11_partedAbove_106 (List.Mem.head _) ?_
          refine z_ladd (pc := 108) dX11_partedAbove_108 ?_
          refine z_lreturn (pc := 109) dX11_partedAbove_109 rfl ok21 (by omega) (by omega) ?_
          refine ⟨?_, rfl⟩
          rw [pab_alt wp w]
          (repeat' split) <;> first | rfl | omega
      · skip
        refine z_lconst (pc := 69) 0 dX11_partedAbove_69 rfl ?_
        refine x_goto (pc := 70) (tgt := 102) dX11_partedAbove_70 (by decide) ?_
        refine x_lstore (pc := 102) dX11_partedAbove_102 (Nat.le_of_ble_eq_true rfl) ?_
        show Ev _ _ _ _ _ [(8, .long (zL (0))), (6, .long (zL ((((psum (H.1 2) 514 w (H.1 2 477).toNat) * (psum (H.1 2) 490 2 (H.1 2 477).toNat)) * 1)))), (4, .long (zL ((psum (H.1 2) 502 w (H.1 2 477).toNat)))), (2, .long (zL ((psum (H.1 2) 490 w (H.1 2 477).toNat)))), (0, .ref 0), (1, .int (zN (w)))] _ _
        refine x_lload (pc := 104) dX11_partedAbove_104 (List.Mem.tail _ (List.Mem.head _)) ?_
        refine x_lload (pc := 106) dX11_partedAbove_106 (List.Mem.head _) ?_
        refine z_ladd (pc := 108) dX11_partedAbove_108 ?_
        refine z_lreturn (pc := 109) dX11_partedAbove_109 rfl ok9 (by omega) (by omega) ?_
        refine ⟨?_, rfl⟩
        rw [pab_alt wp w]
        (repeat' split) <;> first | rfl | omega
  · skip
    refine z_lconst (pc := 25) 0 dX11_partedAbove_25 rfl ?_
    refine x_goto (pc := 26) (tgt := 60) dX11_partedAbove_26 (by decide) ?_
    refine x_lstore (pc := 60) dX11_partedAbove_60 (Nat.le_of_ble_eq_true rfl) ?_
    show Ev _ _ _ _ _ [(6, .long (zL (0))), (4, .long (zL ((psum (H.1 2) 502 w (H.1 2 477).toNat)))), (2, .long (zL ((psum (H.1 2) 490 w (H.1 2 477).toNat)))), (0, .ref 0), (1, .int (zN (w)))] _ _
    refine x_lload (pc := 62) dX11_partedAbove_62 (List.Mem.tail _ (List.Mem.head _)) ?_
    refine z_lconst (pc := 64) 0 dX11_partedAbove_64 rfl ?_
    refine z_lcmp_ne (pc := 65) (tgt := 73) dX11_partedAbove_65 dX11_partedAbove_66 (by decide) (by omega) (by omega) (by decide) (by decide) (fun hb23 => ?_) (fun hb23 => ?_)
    · skip
      refine x_aload_n (pc := 73) dX11_partedAbove_73 (List.Mem.tail _ (List.Mem.tail _ (List.Mem.tail _ (List.Mem.head _)))) ?_
      refine z_sipush (pc := 74) dX11_partedAbove_74 sp_526 ?_
      refine x_iload_n (pc := 77) dX11_partedAbove_77 (List.Mem.tail _ (List.Mem.tail _ (List.Mem.tail _ (List.Mem.tail _ (List.Mem.head _))))) ?_
      refine z_callVlp (pc := 78) (i := mX11_sumOf) (S := []) [.int (zN (526)), .int (zN (w))] dX11_partedAbove_78 ml_X11_321 ok_X11_sumOf rfl sh_0 rfl rfl (Nat.le_of_ble_eq_true rfl) (c_X11_sumOf (d := d) (fr := 526) (f1 := (by omega)) (w := w) (w01 := (by omega)) (ok := ok4) (wp := (by first | assumption | omega)) (hc := (fun p hp => by have := wpB p hp; omega))) (fun r24a r24b ok25 => ?_)
      refine x_aload_n (pc := 81) dX11_partedAbove_81 (List.Mem.tail _ (List.Mem.tail _ (List.Mem.tail _ (List.Mem.head _)))) ?_
      refine z_sipush (pc := 82) dX11_partedAbove_82 sp_502 ?_
      refine z_iconst (pc := 85) dX11_partedAbove_85 ?_
      refine z_callVlp (pc := 86) (i := mX11_sumOf) (S := [.long (zL ((psum (H.1 2) 526 w (H.1 2 477).toNat)))]) [.int (zN (502)), .int (zN (2))] dX11_partedAbove_86 ml_X11_321 ok_X11_sumOf rfl sh_0 rfl rfl (Nat.le_of_ble_eq_true rfl) (c_X11_sumOf (d := d) (fr := 502) (f1 := (by omega)) (w := 2) (w01 := (by omega)) (ok := ok25) (wp := (by first | assumption | omega)) (hc := (fun p hp => by have := wpB p hp; omega))) (fun r26a r26b ok27 => ?_)
      refine z_lmul (pc := 89) dX11_partedAbove_89 ?_
      refine x_lload_n (pc := 90) dX11_partedAbove_90 (List.Mem.tail _ (List.Mem.tail _ (List.Mem.head _))) ?_
      refine z_lconst (pc := 91) 0 dX11_partedAbove_91 rfl ?_
      refine z_lcmp_ne (pc := 92) (tgt := 100) dX11_partedAbove_92 dX11_partedAbove_93 (by decide) (by omega) (by omega) (by decide) (by decide) (fun hb28 => ?_) (fun hb28 => ?_)
      · skip
        refine x_lload_n (pc := 100) dX11_partedAbove_100 (List.Mem.tail _ (List.Mem.tail _ (List.Mem.head _))) ?_
        refine z_lmul (pc := 101) dX11_partedAbove_101 ?_
        refine x_lstore (pc := 102) dX11_partedAbove_102 (Nat.le_of_ble_eq_true rfl) ?_
        show Ev _ _ _ _ _ [(8, .long (zL ((((psum (H.1 2) 526 w (H.1 2 477).toNat) * (psum (H.1 2) 502 2 (H.1 2 477).toNat)) * (psum (H.1 2) 490 w (H.1 2 477).toNat))))), (6, .long (zL (0))), (4, .long (zL ((psum (H.1 2) 502 w (H.1 2 477).toNat)))), (2, .long (zL ((psum (H.1 2) 490 w (H.1 2 477).toNat)))), (0, .ref 0), (1, .int (zN (w)))] _ _
        refine x_lload (pc := 104) dX11_partedAbove_104 (List.Mem.tail _ (List.Mem.head _)) ?_
        refine x_lload (pc := 106) dX11_partedAbove_106 (List.Mem.head _) ?_
        refine z_ladd (pc := 108) dX11_partedAbove_108 ?_
        refine z_lreturn (pc := 109) dX11_partedAbove_109 rfl ok27 (by omega) (by omega) ?_
        refine ⟨?_, rfl⟩
        rw [pab_alt wp w]
        (repeat' split) <;> first | rfl | omega
      · skip
        refine z_lconst (pc := 96) 1 dX11_partedAbove_96 rfl ?_
        refine x_goto (pc := 97) (tgt := 101) dX11_partedAbove_97 (by decide) ?_
        refine z_lmul (pc := 101) dX11_partedAbove_101 ?_
        refine x_lstore (pc := 102) dX11_partedAbove_102 (Nat.le_of_ble_eq_true rfl) ?_
        show Ev _ _ _ _ _ [(8, .long (zL ((((psum (H.1 2) 526 w (H.1 2 477).toNat) * (psum (H.1 2) 502 2 (H.1 2 477).toNat)) * 1)))), (6, .long (zL (0))), (4, .long (zL ((psum (H.1 2) 502 w (H.1 2 477).toNat)))), (2, .long (zL ((psum (H.1 2) 490 w (H.1 2 477).toNat)))), (0, .ref 0), (1, .int (zN (w)))] _ _
        refine x_lload (pc := 104) dX11_partedAbove_104 (List.Mem.tail _ (List.Mem.head _)) ?_
        refine x_lload (pc := 106) dX11_partedAbove_106 (List.Mem.head _) ?_
        refine z_ladd (pc := 108) dX11_partedAbove_108 ?_
        refine z_lreturn (pc := 109) dX11_partedAbove_109 rfl ok27 (by omega) (by omega) ?_
        refine ⟨?_, rfl⟩
        rw [pab_alt wp w]
        (repeat' split) <;> first | rfl | omega
    · skip
      refine z_lconst (pc := 69) 0 dX11_partedAbove_69 rfl ?_
      refine x_goto (pc := 70) (tgt := 102) dX11_partedAbove_70 (by decide) ?_
      refine x_lstore (pc := 102) dX11_partedAbove_102 (Nat.le_of_ble_eq_true rfl) ?_
      show Ev _ _ _ _ _ [(8, .long (zL (0))), (6, .long (zL (0))), (4, .long (zL ((psum (H.1 2) 502 w (H.1 2 477).toNat)))), (2, .long (zL ((psum (H.1 2) 490 w (H.1 2 477).toNat)))), (0, .ref 0), (1, .int (zN (w)))] _ _
      refine x_lload (pc := 104) dX11_partedAbove_104 (List.Mem.tail _ (List.Mem.head _)) ?_
      refine x_lload (pc := 106) dX11_partedAbove_106 (List.Mem.head _) ?_
      refine z_ladd (pc := 108) dX11_partedAbove_108 ?_
      rw [show (0 + 0) = (0 : Int) from rfl]
      refine z_lreturn (pc := 109) dX11_partedAbove_109 rfl ok4 (by decide) (by decide) ?_
      refine ⟨?_, rfl⟩
      rw [pab_alt wp w]
      (repeat' split) <;> first | rfl | omega

theorem c_X11_partedBelow {d : Nat} {H : ZH} (ok : okZ H) {w : Int} (w01 : w = 0 ∨ w = 1) (wp : WFP (H.1 2)) : EvC zX (d + 2) mX11_partedBelow [.ref 0, .int (zN (w))] (eh H) (zPl (fun (rz : Int) (Hz : ZH) => rz = (pbe (H.1 2) w (H.1 2 477).toNat) ∧ Hz = H)) := by
  show _ ∧ Ev zX mX11_partedBelow (EvC zX (d + 1)) (zPl (fun (rz : Int) (Hz : ZH) => rz = (pbe (H.1 2) w (H.1 2 477).toNat) ∧ Hz = H)) 0 [(0, .ref 0), (1, .int (zN (w)))] [] (eh H)
  refine ⟨Nat.le_of_ble_eq_true rfl, ?_⟩
  have wpx := wp
  obtain ⟨wpA, wpB, wpC⟩ := wpx
  have sb := psums wp w
  have sp := pab_bd wp w
  unfold pbe zmx at sp
  refine x_aload_n (pc := 0) dX11_partedBelow_0 (List.Mem.head _) ?_
  refine z_sipush (pc := 1) dX11_partedBelow_1 sp_490 ?_
  refine x_iload_n (pc := 4) dX11_partedBelow_4 (List.Mem.tail _ (List.Mem.head _)) ?_
  refine z_callVlp (pc := 5) (i := mX11_sumOf) (S := []) [.int (zN (490)), .int (zN (w))] dX11_partedBelow_5 ml_X11_321 ok_X11_sumOf rfl sh_0 rfl rfl (Nat.le_of_ble_eq_true rfl) (c_X11_sumOf (d := d) (fr := 490) (f1 := (by omega)) (w := w) (w01 := (by omega)) (ok := ok) (wp := (by first | assumption | omega)) (hc := (fun p hp => by have := wpB p hp; omega))) (fun r1a r1b ok2 => ?_)
  refine x_lstore_n (pc := 8) dX11_partedBelow_8 (Nat.le_of_ble_eq_true rfl) ?_
  show Ev _ _ _ _ _ [(2, .long (zL ((psum (H.1 2) 490 w (H.1 2 477).toNat)))), (0, .ref 0), (1, .int (zN (w)))] _ _
  refine x_aload_n (pc := 9) dX11_partedBelow_9 (List.Mem.tail _ (List.Mem.head _)) ?_
  refine z_sipush (pc := 10) dX11_partedBelow_10 sp_502 ?_
  refine x_iload_n (pc := 13) dX11_partedBelow_13 (List.Mem.tail _ (List.Mem.tail _ (List.Mem.head _))) ?_
  refine z_callVlp (pc := 14) (i := mX11_sumOf) (S := []) [.int (zN (502)), .int (zN (w))] dX11_partedBelow_14 ml_X11_321 ok_X11_sumOf rfl sh_0 rfl rfl (Nat.le_of_ble_eq_true rfl) (c_X11_sumOf (d := d) (fr := 502) (f1 := (by omega)) (w := w) (w01 := (by omega)) (ok := ok2) (wp := (by first | assumption | omega)) (hc := (fun p hp => by have := wpB p hp; omega))) (fun r3a r3b ok4 => ?_)
  refine x_lstore (pc := 17) dX11_partedBelow_17 (Nat.le_of_ble_eq_true rfl) ?_
  show Ev _ _ _ _ _ [(4, .long (zL ((psum (H.1 2) 502 w (H.1 2 477).toNat)))), (2, .long (zL ((psum (H.1 2) 490 w (H.1 2 477).toNat)))), (0, .ref 0), (1, .int (zN (w)))] _ _
  refine x_lload_n (pc := 19) dX11_partedBelow_19 (List.Mem.tail _ (List.Mem.head _)) ?_
  refine z_lconst (pc := 20) 0 dX11_partedBelow_20 rfl ?_
  refine z_lcmp_ne (pc := 21) (tgt := 29) dX11_partedBelow_21 dX11_partedBelow_22 (by decide) (by omega) (by omega) (by decide) (by decide) (fun hb5 => ?_) (fun hb5 => ?_)
  · skip
    refine x_lload_n (pc := 29) dX11_partedBelow_29 (List.Mem.tail _ (List.Mem.head _)) ?_
    refine x_lload (pc := 30) dX11_partedBelow_30 (List.Mem.head _) ?_
    refine z_lconst (pc := 32) 0 dX11_partedBelow_32 rfl ?_
    refine z_lcmp_ne (pc := 33) (tgt := 41) dX11_partedBelow_33 dX11_partedBelow_34 (by decide) (by omega) (by omega) (by decide) (by decide) (fun hb6 => ?_) (fun hb6 => ?_)
    · skip
      refine x_lload (pc := 41) dX11_partedBelow_41 (List.Mem.head _) ?_
      have g0 := nn2 (x := psum (H.1 2) 490 w (H.1 2 477).toNat) (y := psum (H.1 2) 502 w (H.1 2 477).toNat) (A := 3600) (B := 3600) (by omega) (by omega) (by omega) (by omega)
      refine z_lmul (pc := 43) dX11_partedBelow_43 ?_
      refine z_lreturn (pc := 44) dX11_partedBelow_44 rfl ok4 (by omega) (by omega) ?_
      refine ⟨?_, rfl⟩
      unfold pbe zmx
      (repeat' split) <;> first | rfl | omega
    · skip
      refine z_lconst (pc := 37) 1 dX11_partedBelow_37 rfl ?_
      refine x_goto (pc := 38) (tgt := 43) dX11_partedBelow_38 (by decide) ?_
      have g0 := nn2 (x := psum (H.1 2) 490 w (H.1 2 477).toNat) (y := psum (H.1 2) 502 w (H.1 2 477).toNat) (A := 3600) (B := 3600) (by omega) (by omega) (by omega) (by omega)
      refine z_lmul (pc := 43) dX11_partedBelow_43 ?_
      refine z_lreturn (pc := 44) dX11_partedBelow_44 rfl ok4 (by omega) (by omega) ?_
      refine ⟨?_, rfl⟩
      unfold pbe zmx
      (repeat' split) <;> first | rfl | omega
  · skip
    refine z_lconst (pc := 25) 1 dX11_partedBelow_25 rfl ?_
    refine x_goto (pc := 26) (tgt := 30) dX11_partedBelow_26 (by decide) ?_
    refine x_lload (pc := 30) dX11_partedBelow_30 (List.Mem.head _) ?_
    refine z_lconst (pc := 32) 0 dX11_partedBelow_32 rfl ?_
    refine z_lcmp_ne (pc := 33) (tgt := 41) dX11_partedBelow_33 dX11_partedBelow_34 (by decide) (by omega) (by omega) (by decide) (by decide) (fun hb7 => ?_) (fun hb7 => ?_)
    · skip
      refine x_lload (pc := 41) dX11_partedBelow_41 (List.Mem.head _) ?_
      have g0 := nn2 (x := psum (H.1 2) 490 w (H.1 2 477).toNat) (y := psum (H.1 2) 502 w (H.1 2 477).toNat) (A := 3600) (B := 3600) (by omega) (by omega) (by omega) (by omega)
      refine z_lmul (pc := 43) dX11_partedBelow_43 ?_
      refine z_lreturn (pc := 44) dX11_partedBelow_44 rfl ok4 (by omega) (by omega) ?_
      refine ⟨?_, rfl⟩
      unfold pbe zmx
      (repeat' split) <;> first | rfl | omega
    · skip
      refine z_lconst (pc := 37) 1 dX11_partedBelow_37 rfl ?_
      refine x_goto (pc := 38) (tgt := 43) dX11_partedBelow_38 (by decide) ?_
      have g0 := nn2 (x := psum (H.1 2) 490 w (H.1 2 477).toNat) (y := psum (H.1 2) 502 w (H.1 2 477).toNat) (A := 3600) (B := 3600) (by omega) (by omega) (by omega) (by omega)
      refine z_lmul (pc := 43) dX11_partedBelow_43 ?_
      rw [show (1 * 1) = (1 : Int) from rfl]
      refine z_lreturn (pc := 44) dX11_partedBelow_44 rfl ok4 (by decide) (by decide) ?_
      refine ⟨?_, rfl⟩
      unfold pbe zmx
      (repeat' split) <;> first | rfl | omega


def cross (A : Nat → Int) (p : Nat) : Int := A (490 + p) + A (502 + p)
/-- p is worse than q -/
def pwor (A : Nat → Int) (p q : Nat) : Bool := decide (phurt A q * zmx (cross A p) < phurt A p * zmx (cross A q))
def prank (A : Nat → Int) (p : Nat) : Nat → Int
  | 0 => 0
  | q + 1 => prank A p q + (if pwor A q p = true ∨ q < p ∧ ¬ pwor A p q = true then 1 else 0)
theorem prank_bd (A : Nat → Int) (p n : Nat) : 0 ≤ prank A p n ∧ prank A p n ≤ n ∧ (p < n → prank A p n ≤ (n : Int) - 1) := by
  induction n with
  | zero => exact ⟨Int.le_refl _, Int.le_refl _, fun h => absurd h (Nat.not_lt_zero _)⟩
  | succ n ih =>
    show 0 ≤ prank A p n + (if pwor A n p = true ∨ n < p ∧ ¬ pwor A p n = true then 1 else 0) ∧ prank A p n + (if pwor A n p = true ∨ n < p ∧ ¬ pwor A p n = true then 1 else 0) ≤ ((n + 1 : Nat) : Int) ∧ (p < n + 1 → prank A p n + (if pwor A n p = true ∨ n < p ∧ ¬ pwor A p n = true then 1 else 0) ≤ ((n + 1 : Nat) : Int) - 1)
    by_cases e : n = p
    · subst e
      rw [if_neg (fun h => by
        rcases h with h | h
        · have := of_decide_eq_true h; omega
        · omega)]
      omega
    · split <;> omega
def zfirst (A : Nat → Int) (k : Int) (N : Nat) : Nat → Nat → Int
  | 0, _ => -1
  | m + 1, p => if prank A p N = k then (p : Int) else zfirst A k N m (p + 1)
def S_ranked (A : Nat → Int) (k : Int) : Int := zfirst A k (A 477).toNat (A 477).toNat 0
theorem zfirst_none {A : Nat → Int} {k : Int} {N m p : Nat} (h : k < 0 ∨ (N : Int) ≤ k) (hp : p + m ≤ N) : zfirst A k N m p = -1 := by
  induction m generalizing p with
  | zero => rfl
  | succ m ih =>
    have b := prank_bd A p N
    show (if prank A p N = k then (p : Int) else zfirst A k N m (p + 1)) = -1
    rw [if_neg (by omega)]
    exact ih (by omega)
theorem cross_bd {A : Nat → Int} (h : WFP A) {p : Nat} (hp : p < 12) : 0 ≤ cross A p ∧ cross A p ≤ 600 ∧ 0 ≤ phurt A p ∧ phurt A p ≤ cross A p := by
  have a := h.2.1 p hp
  unfold cross phurt
  omega
theorem pw_bd {A : Nat → Int} (h : WFP A) {p q : Nat} (hp : p < 12) (hq : q < 12) : 0 ≤ phurt A p * zmx (cross A q) ∧ phurt A p * zmx (cross A q) ≤ 360000 := by
  have a := cross_bd h hp
  have b := cross_bd h hq
  have c := zmx_bd (a := cross A q) (by omega)
  have e : zmx (cross A q) ≤ 600 := by unfold zmx; split <;> omega
  exact nn2 (A := 600) (B := 600) (by omega) (by omega) (by omega) e
/-- MEASURES -/
def mcost (A : Nat → Int) (b : Nat) : Nat → Int
  | 0 => 0
  | m + 1 => mcost A b m + (if (b : Int) / 2 ^ m % 2 = 0 then 0 else A (550 + m))
def mleft (A : Nat → Int) (p b : Nat) : Nat → Int
  | 0 => phurt A p * 10000
  | m + 1 => if (b : Int) / 2 ^ m % 2 = 0 then mleft A p b m else mleft A p b m * A (554 + m) / 100
theorem mcost_bd {A : Nat → Int} (h : WFP A) (b m : Nat) (hm : m ≤ 4) : 0 ≤ mcost A b m ∧ mcost A b m ≤ 99 * (m : Int) := by
  induction m with
  | zero => exact ⟨Int.le_refl _, Int.le_refl _⟩
  | succ m ih =>
    have i := ih (by omega)
    have j := h.2.2 m (by omega)
    show 0 ≤ mcost A b m + (if (b : Int) / 2 ^ m % 2 = 0 then 0 else A (550 + m)) ∧ mcost A b m + (if (b : Int) / 2 ^ m % 2 = 0 then 0 else A (550 + m)) ≤ 99 * ((m + 1 : Nat) : Int)
    split <;> omega
theorem mleft_bd {A : Nat → Int} (h : WFP A) {p : Nat} (hp : p < 12) (b m : Nat) (hm : m ≤ 4) : 0 ≤ mleft A p b m ∧ mleft A p b m ≤ 6000000 := by
  induction m with
  | zero =>
    have a := cross_bd h hp
    show 0 ≤ phurt A p * 10000 ∧ phurt A p * 10000 ≤ 6000000
    omega
  | succ m ih =>
    have i := ih (by omega)
    have j := h.2.2 m (by omega)
    have k := nn2 (x := mleft A p b m) (y := A (554 + m)) (A := 6000000) (B := 100) (by omega) (by omega) (by omega) (by omega)
    show 0 ≤ (if (b : Int) / 2 ^ m % 2 = 0 then mleft A p b m else mleft A p b m * A (554 + m) / 100) ∧ (if (b : Int) / 2 ^ m % 2 = 0 then mleft A p b m else mleft A p b m * A (554 + m) / 100) ≤ 6000000
    split <;> omega

theorem c_X2_fallOf {d : Nat} {H : ZH} (ok : okZ H) {b : Nat} (hb : b < 4096) (wp : WFP (H.1 2)) (rp : RepP H) : EvC zX (d + 2) mX2_fallOf [.ref 71, .int (zN ((b : Int)))] (eh H) (zPi (fun (rz : Int) (Hz : ZH) => rz = (pfal (H.1 2) b (H.1 2 477).toNat) ∧ Hz = H)) := by
  show _ ∧ Ev zX mX2_fallOf (EvC zX (d + 1)) (zPi (fun (rz : Int) (Hz : ZH) => rz = (pfal (H.1 2) b (H.1 2 477).toNat) ∧ Hz = H)) 0 [(0, .ref 71), (1, .int (zN ((b : Int))))] [] (eh H)
  refine ⟨Nat.le_of_ble_eq_true rfl, ?_⟩
  have wpx := wp
  obtain ⟨wpA, wpB, wpC⟩ := wpx
  have rpx := rp
  obtain ⟨rpA, rpB, rpC⟩ := rpx
  refine z_iconst (pc := 0) dX2_fallOf_0 ?_
  refine x_istore_n (pc := 1) dX2_fallOf_1 (Nat.le_of_ble_eq_true rfl) ?_
  show Ev _ _ _ _ _ [(2, .int (zN (0))), (0, .ref 71), (1, .int (zN ((b : Int))))] _ _
  refine z_iconst (pc := 2) dX2_fallOf_2 ?_
  refine x_istore_n (pc := 3) dX2_fallOf_3 (Nat.le_of_ble_eq_true rfl) ?_
  show Ev _ _ _ _ _ [(3, .int (zN (0))), (2, .int (zN (0))), (0, .ref 71), (1, .int (zN ((b : Int))))] _ _
  have lp4 : ∀ (nF : Nat) (k : Nat), ((k : Int) ≤ H.1 2 477) → (H.1 2 477).toNat - k < nF → Ev zX mX2_fallOf (EvC zX (d + 1)) (zPi (fun (rz : Int) (Hz : ZH) => rz = (pfal (H.1 2) b (H.1 2 477).toNat) ∧ Hz = H)) 4 [(0, .ref 71), (1, .int (zN ((b : Int)))), (2, .int (zN (pfal (H.1 2) b k))), (3, .int (zN ((k : Int))))] [] (eh H) := by
    intro nF
    induction nF with
    | zero => intro k hk hm; exact absurd hm (Nat.not_lt_zero _)
    | succ nF ih4 =>
      intro k hk hm
      have fb := pfal_bd wp b k (by omega)
      have eb := bit12 b hb k
      refine x_iload_n (pc := 4) dX2_fallOf_4 (List.Mem.tail _ (List.Mem.tail _ (List.Mem.tail _ (List.Mem.head _)))) ?_
      refine x_aload_n (pc := 5) dX2_fallOf_5 (List.Mem.head _) ?_
      have rd1 := ok.1 71 0
      refine z_getI (pc := 6) (k := 0) (v := H.1 71 0) dX2_fallOf_6 lf_X2_36 sh_71 rfl rfl ?_
      refine z_icmp_ge (pc := 9) (tgt := 45) dX2_fallOf_9 (by decide) (by omega) (by omega) (by omega) (by omega) (fun hb2 => ?_) (fun hb2 => ?_)
      · skip
        refine x_iload_n (pc := 45) dX2_fallOf_45 (List.Mem.tail _ (List.Mem.tail _ (List.Mem.head _))) ?_
        refine z_ireturn (pc := 46) dX2_fallOf_46 rfl (Or.inl rfl) ok (by omega) (by omega) ?_
        exact ⟨by rw [show k = (H.1 2 477).toNat by omega], rfl⟩
      · skip
        have wq := wpB k (by omega)
        have rq := rpB k (by omega)
        refine x_iload_n (pc := 12) dX2_fallOf_12 (List.Mem.tail _ (List.Mem.tail _ (List.Mem.head _))) ?_
        refine x_iload_n (pc := 13) dX2_fallOf_13 (List.Mem.tail _ (List.Mem.head _)) ?_
        refine x_iload_n (pc := 14) dX2_fallOf_14 (List.Mem.tail _ (List.Mem.tail _ (List.Mem.tail _ (List.Mem.head _)))) ?_
        refine z_ishr (pc := 15) (k := k) dX2_fallOf_15 rfl (by omega) (by omega) (by omega) ?_
        refine z_iconst (pc := 16) dX2_fallOf_16 ?_
        refine z_iand1 (pc := 17) dX2_fallOf_17 ?_
        refine z_if_eq (pc := 18) (tgt := 36) dX2_fallOf_18 (by decide) (by omega) (by omega) (fun hb3 => ?_) (fun hb3 => ?_)
        · skip
          refine z_iconst (pc := 36) dX2_fallOf_36 ?_
          refine z_iadd (pc := 37) dX2_fallOf_37 ?_
          refine x_istore_n (pc := 38) dX2_fallOf_38 (Nat.le_of_ble_eq_true rfl) ?_
          show Ev _ _ _ _ _ [(2, .int (zN ((pfal (H.1 2) b k + 0)))), (0, .ref 71), (1, .int (zN ((b : Int)))), (3, .int (zN ((k : Int))))] _ _
          refine z_iinc (pc := 39) dX2_fallOf_39 (List.Mem.tail _ (List.Mem.tail _ (List.Mem.tail _ (List.Mem.head _)))) (Nat.le_of_ble_eq_true rfl) ?_
          show Ev _ _ _ _ _ [(3, .int (zN ((k : Int) + 1))), (2, .int (zN ((pfal (H.1 2) b k + 0)))), (0, .ref 71), (1, .int (zN ((b : Int))))] _ _
          refine x_goto (pc := 42) (tgt := 4) dX2_fallOf_42 (by decide) ?_
          refine x_weaken (L1 := [(0, .ref 71), (1, .int (zN ((b : Int)))), (2, .int (zN (pfal (H.1 2) b (k + 1)))), (3, .int (zN ((((k + 1) : Nat) : Int))))]) (List.forall_mem_cons.mpr ⟨(List.Mem.tail _ (List.Mem.tail _ (List.Mem.head _))), (List.forall_mem_cons.mpr ⟨(List.Mem.tail _ (List.Mem.tail _ (List.Mem.tail _ (List.Mem.head _)))), (List.forall_mem_cons.mpr ⟨(mem_ci (by show pfal (H.1 2) b k + (if (b : Int) / 2 ^ k % 2 = 0 then 0 else phurt (H.1 2) k - H.1 2 (538 + k)) = _; first | (rw [if_pos (by omega)]; try omega) | (rw [if_neg (by omega)]; try omega)) (List.Mem.tail _ (List.Mem.head _))), (List.forall_mem_cons.mpr ⟨(mem_ci (by omega) (List.Mem.head _)), (fun _ h => absurd h List.not_mem_nil)⟩)⟩)⟩)⟩) ?_
          exact ih4 ((k + 1)) (by first | assumption | omega) (by omega)
        · skip
          refine x_aload_n (pc := 21) dX2_fallOf_21 (List.Mem.head _) ?_
          refine x_iload_n (pc := 22) dX2_fallOf_22 (List.Mem.tail _ (List.Mem.tail _ (List.Mem.tail _ (List.Mem.head _)))) ?_
          refine z_callVip (pc := 23) (i := mX2_hurtAt) (S := [.int (zN (pfal (H.1 2) b k))]) [.int (zN ((k : Int)))] dX2_fallOf_23 ml_X2_56 ok_X2_hurtAt rfl sh_71 rfl (Or.inl rfl) (Nat.le_of_ble_eq_true rfl) (c_X2_hurtAt (d := d) (p := k) (hp := (by omega)) (ok := ok) (wp := (by first | assumption | omega)) (rp := (by first | assumption | omega))) (fun r4a r4b ok5 => ?_)
          have hcr := cross_bd wp (p := k) (by omega)
          unfold cross at hcr
          refine x_aload_n (pc := 26) dX2_fallOf_26 (List.Mem.head _) ?_
          refine z_getR (pc := 27) (k := 6) (r := 77) dX2_fallOf_27 lf_X2_27 sh_71 rfl rf_71_6 ?_
          refine x_iload_n (pc := 30) dX2_fallOf_30 (List.Mem.tail _ (List.Mem.tail _ (List.Mem.tail _ (List.Mem.head _)))) ?_
          have rd6 := ok5.1 77 k
          refine z_iald (pc := 31) (j := k) (v := H.1 77 k) dX2_fallOf_31 sh_77 rfl (by omega) (by decide) rfl ?_
          refine z_isub (pc := 32) dX2_fallOf_32 ?_
          refine x_goto (pc := 33) (tgt := 37) dX2_fallOf_33 (by decide) ?_
          refine z_iadd (pc := 37) dX2_fallOf_37 ?_
          refine x_istore_n (pc := 38) dX2_fallOf_38 (Nat.le_of_ble_eq_true rfl) ?_
          show Ev _ _ _ _ _ [(2, .int (zN ((pfal (H.1 2) b k + ((phurt (H.1 2) k) - (H.1 77 k)))))), (0, .ref 71), (1, .int (zN ((b : Int)))), (3, .int (zN ((k : Int))))] _ _
          refine z_iinc (pc := 39) dX2_fallOf_39 (List.Mem.tail _ (List.Mem.tail _ (List.Mem.tail _ (List.Mem.head _)))) (Nat.le_of_ble_eq_true rfl) ?_
          show Ev _ _ _ _ _ [(3, .int (zN ((k : Int) + 1))), (2, .int (zN ((pfal (H.1 2) b k + ((phurt (H.1 2) k) - (H.1 77 k)))))), (0, .ref 71), (1, .int (zN ((b : Int))))] _ _
          refine x_goto (pc := 42) (tgt := 4) dX2_fallOf_42 (by decide) ?_
          refine x_weaken (L1 := [(0, .ref 71), (1, .int (zN ((b : Int)))), (2, .int (zN (pfal (H.1 2) b (k + 1)))), (3, .int (zN ((((k + 1) : Nat) : Int))))]) (List.forall_mem_cons.mpr ⟨(List.Mem.tail _ (List.Mem.tail _ (List.Mem.head _))), (List.forall_mem_cons.mpr ⟨(List.Mem.tail _ (List.Mem.tail _ (List.Mem.tail _ (List.Mem.head _)))), (List.forall_mem_cons.mpr ⟨(mem_ci (by show pfal (H.1 2) b k + (if (b : Int) / 2 ^ k % 2 = 0 then 0 else phurt (H.1 2) k - H.1 2 (538 + k)) = _; first | (rw [if_pos (by omega)]; try omega) | (rw [if_neg (by omega)]; try omega)) (List.Mem.tail _ (List.Mem.head _))), (List.forall_mem_cons.mpr ⟨(mem_ci (by omega) (List.Mem.head _)), (fun _ h => absurd h List.not_mem_nil)⟩)⟩)⟩)⟩) ?_
          exact ih4 ((k + 1)) (by first | assumption | omega) (by omega)
  refine x_weaken (L1 := [(0, .ref 71), (1, .int (zN ((b : Int)))), (2, .int (zN (pfal (H.1 2) b 0))), (3, .int (zN (((0 : Nat) : Int))))]) (List.forall_mem_cons.mpr ⟨(List.Mem.tail _ (List.Mem.tail _ (List.Mem.head _))), (List.forall_mem_cons.mpr ⟨(List.Mem.tail _ (List.Mem.tail _ (List.Mem.tail _ (List.Mem.head _)))), (List.forall_mem_cons.mpr ⟨(mem_ci (rfl) (List.Mem.tail _ (List.Mem.head _))), (List.forall_mem_cons.mpr ⟨(mem_ci (by omega) (List.Mem.head _)), (fun _ h => absurd h List.not_mem_nil)⟩)⟩)⟩)⟩) ?_
  exact lp4 ((H.1 2 477).toNat - 0 + 1) (0) (by first | assumption | omega) (Nat.lt_succ_self _)

theorem c_X11_fallOf {d : Nat} {H : ZH} (ok : okZ H) {b : Nat} (hb : b < 4096) (wp : WFP (H.1 2)) : EvC zX (d + 2) mX11_fallOf [.ref 0, .int (zN ((b : Int)))] (eh H) (zPi (fun (rz : Int) (Hz : ZH) => rz = (pfal (H.1 2) b (H.1 2 477).toNat) ∧ Hz = H)) := by
  show _ ∧ Ev zX mX11_fallOf (EvC zX (d + 1)) (zPi (fun (rz : Int) (Hz : ZH) => rz = (pfal (H.1 2) b (H.1 2 477).toNat) ∧ Hz = H)) 0 [(0, .ref 0), (1, .int (zN ((b : Int))))] [] (eh H)
  refine ⟨Nat.le_of_ble_eq_true rfl, ?_⟩
  have wpx := wp
  obtain ⟨wpA, wpB, wpC⟩ := wpx
  refine z_iconst (pc := 0) dX11_fallOf_0 ?_
  refine x_istore_n (pc := 1) dX11_fallOf_1 (Nat.le_of_ble_eq_true rfl) ?_
  show Ev _ _ _ _ _ [(2, .int (zN (0))), (0, .ref 0), (1, .int (zN ((b : Int))))] _ _
  refine z_iconst (pc := 2) dX11_fallOf_2 ?_
  refine x_istore_n (pc := 3) dX11_fallOf_3 (Nat.le_of_ble_eq_true rfl) ?_
  show Ev _ _ _ _ _ [(3, .int (zN (0))), (2, .int (zN (0))), (0, .ref 0), (1, .int (zN ((b : Int))))] _ _
  have lp4 : ∀ (nF : Nat) (k : Nat), ((k : Int) ≤ H.1 2 477) → (H.1 2 477).toNat - k < nF → Ev zX mX11_fallOf (EvC zX (d + 1)) (zPi (fun (rz : Int) (Hz : ZH) => rz = (pfal (H.1 2) b (H.1 2 477).toNat) ∧ Hz = H)) 4 [(0, .ref 0), (1, .int (zN ((b : Int)))), (2, .int (zN (pfal (H.1 2) b k))), (3, .int (zN ((k : Int))))] [] (eh H) := by
    intro nF
    induction nF with
    | zero => intro k hk hm; exact absurd hm (Nat.not_lt_zero _)
    | succ nF ih4 =>
      intro k hk hm
      have fb := pfal_bd wp b k (by omega)
      have eb := bit12 b hb k
      refine x_iload_n (pc := 4) dX11_fallOf_4 (List.Mem.tail _ (List.Mem.tail _ (List.Mem.tail _ (List.Mem.head _)))) ?_
      refine x_aload_n (pc := 5) dX11_fallOf_5 (List.Mem.head _) ?_
      refine z_getR (pc := 6) (k := 2) (r := 2) dX11_fallOf_6 lf_X11_17 sh_0 rfl rf_0_2 ?_
      refine z_sipush (pc := 9) dX11_fallOf_9 sp_477 ?_
      have rd1 := ok.1 2 477
      refine z_iald (pc := 12) (j := 477) (v := H.1 2 477) dX11_fallOf_12 sh_2 rfl (Nat.le_of_ble_eq_true rfl) (by decide) rfl ?_
      refine z_icmp_ge (pc := 13) (tgt := 54) dX11_fallOf_13 (by decide) (by omega) (by omega) (by omega) (by omega) (fun hb2 => ?_) (fun hb2 => ?_)
      · skip
        refine x_iload_n (pc := 54) dX11_fallOf_54 (List.Mem.tail _ (List.Mem.tail _ (List.Mem.head _))) ?_
        refine z_ireturn (pc := 55) dX11_fallOf_55 rfl (Or.inl rfl) ok (by omega) (by omega) ?_
        exact ⟨by rw [show k = (H.1 2 477).toNat by omega], rfl⟩
      · skip
        have wq := wpB k (by omega)
        refine x_iload_n (pc := 16) dX11_fallOf_16 (List.Mem.tail _ (List.Mem.tail _ (List.Mem.head _))) ?_
        refine x_iload_n (pc := 17) dX11_fallOf_17 (List.Mem.tail _ (List.Mem.head _)) ?_
        refine x_iload_n (pc := 18) dX11_fallOf_18 (List.Mem.tail _ (List.Mem.tail _ (List.Mem.tail _ (List.Mem.head _)))) ?_
        refine z_ishr (pc := 19) (k := k) dX11_fallOf_19 rfl (by omega) (by omega) (by omega) ?_
        refine z_iconst (pc := 20) dX11_fallOf_20 ?_
        refine z_iand1 (pc := 21) dX11_fallOf_21 ?_
        refine z_iconst (pc := 22) dX11_fallOf_22 ?_
        refine z_icmp_ne (pc := 23) (tgt := 45) dX11_fallOf_23 (by decide) (by omega) (by omega) (by decide) (by decide) (fun hb3 => ?_) (fun hb3 => ?_)
        · skip
          refine z_iconst (pc := 45) dX11_fallOf_45 ?_
          refine z_iadd (pc := 46) dX11_fallOf_46 ?_
          refine x_istore_n (pc := 47) dX11_fallOf_47 (Nat.le_of_ble_eq_true rfl) ?_
          show Ev _ _ _ _ _ [(2, .int (zN ((pfal (H.1 2) b k + 0)))), (0, .ref 0), (1, .int (zN ((b : Int)))), (3, .int (zN ((k : Int))))] _ _
          refine z_iinc (pc := 48) dX11_fallOf_48 (List.Mem.tail _ (List.Mem.tail _ (List.Mem.tail _ (List.Mem.head _)))) (Nat.le_of_ble_eq_true rfl) ?_
          show Ev _ _ _ _ _ [(3, .int (zN ((k : Int) + 1))), (2, .int (zN ((pfal (H.1 2) b k + 0)))), (0, .ref 0), (1, .int (zN ((b : Int))))] _ _
          refine x_goto (pc := 51) (tgt := 4) dX11_fallOf_51 (by decide) ?_
          refine x_weaken (L1 := [(0, .ref 0), (1, .int (zN ((b : Int)))), (2, .int (zN (pfal (H.1 2) b (k + 1)))), (3, .int (zN ((((k + 1) : Nat) : Int))))]) (List.forall_mem_cons.mpr ⟨(List.Mem.tail _ (List.Mem.tail _ (List.Mem.head _))), (List.forall_mem_cons.mpr ⟨(List.Mem.tail _ (List.Mem.tail _ (List.Mem.tail _ (List.Mem.head _)))), (List.forall_mem_cons.mpr ⟨(mem_ci (by show pfal (H.1 2) b k + (if (b : Int) / 2 ^ k % 2 = 0 then 0 else phurt (H.1 2) k - H.1 2 (538 + k)) = _; first | (rw [if_pos (by omega)]; try omega) | (rw [if_neg (by omega)]; try omega)) (List.Mem.tail _ (List.Mem.head _))), (List.forall_mem_cons.mpr ⟨(mem_ci (by omega) (List.Mem.head _)), (fun _ h => absurd h List.not_mem_nil)⟩)⟩)⟩)⟩) ?_
          exact ih4 ((k + 1)) (by first | assumption | omega) (by omega)
        · skip
          refine x_aload_n (pc := 26) dX11_fallOf_26 (List.Mem.head _) ?_
          refine x_iload_n (pc := 27) dX11_fallOf_27 (List.Mem.tail _ (List.Mem.tail _ (List.Mem.tail _ (List.Mem.head _)))) ?_
          refine z_callVip (pc := 28) (i := mX11_hurtAt) (S := [.int (zN (pfal (H.1 2) b k))]) [.int (zN ((k : Int)))] dX11_fallOf_28 ml_X11_331 ok_X11_hurtAt rfl sh_0 rfl (Or.inl rfl) (Nat.le_of_ble_eq_true rfl) (c_X11_hurtAt (d := d) (p := k) (hp := (by omega)) (ok := ok) (wp := (by first | assumption | omega))) (fun r4a r4b ok5 => ?_)
          have hcr := cross_bd wp (p := k) (by omega)
          unfold cross at hcr
          refine x_aload_n (pc := 31) dX11_fallOf_31 (List.Mem.head _) ?_
          refine z_getR (pc := 32) (k := 2) (r := 2) dX11_fallOf_32 lf_X11_17 sh_0 rfl rf_0_2 ?_
          refine z_sipush (pc := 35) dX11_fallOf_35 sp_538 ?_
          refine x_iload_n (pc := 38) dX11_fallOf_38 (List.Mem.tail _ (List.Mem.tail _ (List.Mem.tail _ (List.Mem.head _)))) ?_
          refine z_iadd (pc := 39) dX11_fallOf_39 ?_
          have rd6 := ok5.1 2 (538 + k)
          refine z_iald (pc := 40) (j := 538 + k) (v := H.1 2 (538 + k)) dX11_fallOf_40 sh_2 (by omega) (by omega) (by decide) rfl ?_
          refine z_isub (pc := 41) dX11_fallOf_41 ?_
          refine x_goto (pc := 42) (tgt := 46) dX11_fallOf_42 (by decide) ?_
          refine z_iadd (pc := 46) dX11_fallOf_46 ?_
          refine x_istore_n (pc := 47) dX11_fallOf_47 (Nat.le_of_ble_eq_true rfl) ?_
          show Ev _ _ _ _ _ [(2, .int (zN ((pfal (H.1 2) b k + ((phurt (H.1 2) k) - (H.1 2 (538 + k))))))), (0, .ref 0), (1, .int (zN ((b : Int)))), (3, .int (zN ((k : Int))))] _ _
          refine z_iinc (pc := 48) dX11_fallOf_48 (List.Mem.tail _ (List.Mem.tail _ (List.Mem.tail _ (List.Mem.head _)))) (Nat.le_of_ble_eq_true rfl) ?_
          show Ev _ _ _ _ _ [(3, .int (zN ((k : Int) + 1))), (2, .int (zN ((pfal (H.1 2) b k + ((phurt (H.1 2) k) - (H.1 2 (538 + k))))))), (0, .ref 0), (1, .int (zN ((b : Int))))] _ _
          refine x_goto (pc := 51) (tgt := 4) dX11_fallOf_51 (by decide) ?_
          refine x_weaken (L1 := [(0, .ref 0), (1, .int (zN ((b : Int)))), (2, .int (zN (pfal (H.1 2) b (k + 1)))), (3, .int (zN ((((k + 1) : Nat) : Int))))]) (List.forall_mem_cons.mpr ⟨(List.Mem.tail _ (List.Mem.tail _ (List.Mem.head _))), (List.forall_mem_cons.mpr ⟨(List.Mem.tail _ (List.Mem.tail _ (List.Mem.tail _ (List.Mem.head _)))), (List.forall_mem_cons.mpr ⟨(mem_ci (by show pfal (H.1 2) b k + (if (b : Int) / 2 ^ k % 2 = 0 then 0 else phurt (H.1 2) k - H.1 2 (538 + k)) = _; first | (rw [if_pos (by omega)]; try omega) | (rw [if_neg (by omega)]; try omega)) (List.Mem.tail _ (List.Mem.head _))), (List.forall_mem_cons.mpr ⟨(mem_ci (by omega) (List.Mem.head _)), (fun _ h => absurd h List.not_mem_nil)⟩)⟩)⟩)⟩) ?_
          exact ih4 ((k + 1)) (by first | assumption | omega) (by omega)
  refine x_weaken (L1 := [(0, .ref 0), (1, .int (zN ((b : Int)))), (2, .int (zN (pfal (H.1 2) b 0))), (3, .int (zN (((0 : Nat) : Int))))]) (List.forall_mem_cons.mpr ⟨(List.Mem.tail _ (List.Mem.tail _ (List.Mem.head _))), (List.forall_mem_cons.mpr ⟨(List.Mem.tail _ (List.Mem.tail _ (List.Mem.tail _ (List.Mem.head _)))), (List.forall_mem_cons.mpr ⟨(mem_ci (rfl) (List.Mem.tail _ (List.Mem.head _))), (List.forall_mem_cons.mpr ⟨(mem_ci (by omega) (List.Mem.head _)), (fun _ h => absurd h List.not_mem_nil)⟩)⟩)⟩)⟩) ?_
  exact lp4 ((H.1 2 477).toNat - 0 + 1) (0) (by first | assumption | omega) (Nat.lt_succ_self _)

theorem c_X2_costOf {d : Nat} {H : ZH} (ok : okZ H) {b : Nat} (hb : b < 16) (wp : WFP (H.1 2)) (rp : RepP H) : EvC zX (d + 1) mX2_costOf [.ref 71, .int (zN ((b : Int)))] (eh H) (zPi (fun (rz : Int) (Hz : ZH) => rz = (mcost (H.1 2) b 4) ∧ Hz = H)) := by
  show _ ∧ Ev zX mX2_costOf (EvC zX d) (zPi (fun (rz : Int) (Hz : ZH) => rz = (mcost (H.1 2) b 4) ∧ Hz = H)) 0 [(0, .ref 71), (1, .int (zN ((b : Int))))] [] (eh H)
  refine ⟨Nat.le_of_ble_eq_true rfl, ?_⟩
  have wpx := wp
  obtain ⟨wpA, wpB, wpC⟩ := wpx
  have rpx := rp
  obtain ⟨rpA, rpB, rpC⟩ := rpx
  refine z_iconst (pc := 0) dX2_costOf_0 ?_
  refine x_istore_n (pc := 1) dX2_costOf_1 (Nat.le_of_ble_eq_true rfl) ?_
  show Ev _ _ _ _ _ [(2, .int (zN (0))), (0, .ref 71), (1, .int (zN ((b : Int))))] _ _
  refine z_iconst (pc := 2) dX2_costOf_2 ?_
  refine x_istore_n (pc := 3) dX2_costOf_3 (Nat.le_of_ble_eq_true rfl) ?_
  show Ev _ _ _ _ _ [(3, .int (zN (0))), (2, .int (zN (0))), (0, .ref 71), (1, .int (zN ((b : Int))))] _ _
  have lp4 : ∀ (nF : Nat) (k : Nat), (k ≤ 4) → 4 - k < nF → Ev zX mX2_costOf (EvC zX d) (zPi (fun (rz : Int) (Hz : ZH) => rz = (mcost (H.1 2) b 4) ∧ Hz = H)) 4 [(0, .ref 71), (1, .int (zN ((b : Int)))), (2, .int (zN (mcost (H.1 2) b k))), (3, .int (zN ((k : Int))))] [] (eh H) := by
    intro nF
    induction nF with
    | zero => intro k hk hm; exact absurd hm (Nat.not_lt_zero _)
    | succ nF ih4 =>
      intro k hk hm
      have fb := mcost_bd wp b k hk
      have eb := bit12 b (by omega) k
      refine x_iload_n (pc := 4) dX2_costOf_4 (List.Mem.tail _ (List.Mem.tail _ (List.Mem.tail _ (List.Mem.head _)))) ?_
      refine z_iconst (pc := 5) dX2_costOf_5 ?_
      refine z_icmp_ge (pc := 6) (tgt := 36) dX2_costOf_6 (by decide) (by omega) (by omega) (by decide) (by decide) (fun hb1 => ?_) (fun hb1 => ?_)
      · skip
        refine x_iload_n (pc := 36) dX2_costOf_36 (List.Mem.tail _ (List.Mem.tail _ (List.Mem.head _))) ?_
        refine z_ireturn (pc := 37) dX2_costOf_37 rfl (Or.inl rfl) ok (by omega) (by omega) ?_
        exact ⟨by rw [show k = 4 by omega], rfl⟩
      · skip
        have wq := wpC k (by omega)
        have rq := rpC k (by omega)
        refine x_iload_n (pc := 9) dX2_costOf_9 (List.Mem.tail _ (List.Mem.tail _ (List.Mem.head _))) ?_
        refine x_iload_n (pc := 10) dX2_costOf_10 (List.Mem.tail _ (List.Mem.head _)) ?_
        refine x_iload_n (pc := 11) dX2_costOf_11 (List.Mem.tail _ (List.Mem.tail _ (List.Mem.tail _ (List.Mem.head _)))) ?_
        refine z_ishr (pc := 12) (k := k) dX2_costOf_12 rfl (by omega) (by omega) (by omega) ?_
        refine z_iconst (pc := 13) dX2_costOf_13 ?_
        refine z_iand1 (pc := 14) dX2_costOf_14 ?_
        refine z_if_eq (pc := 15) (tgt := 27) dX2_costOf_15 (by decide) (by omega) (by omega) (fun hb2 => ?_) (fun hb2 => ?_)
        · skip
          refine z_iconst (pc := 27) dX2_costOf_27 ?_
          refine z_iadd (pc := 28) dX2_costOf_28 ?_
          refine x_istore_n (pc := 29) dX2_costOf_29 (Nat.le_of_ble_eq_true rfl) ?_
          show Ev _ _ _ _ _ [(2, .int (zN ((mcost (H.1 2) b k + 0)))), (0, .ref 71), (1, .int (zN ((b : Int)))), (3, .int (zN ((k : Int))))] _ _
          refine z_iinc (pc := 30) dX2_costOf_30 (List.Mem.tail _ (List.Mem.tail _ (List.Mem.tail _ (List.Mem.head _)))) (Nat.le_of_ble_eq_true rfl) ?_
          show Ev _ _ _ _ _ [(3, .int (zN ((k : Int) + 1))), (2, .int (zN ((mcost (H.1 2) b k + 0)))), (0, .ref 71), (1, .int (zN ((b : Int))))] _ _
          refine x_goto (pc := 33) (tgt := 4) dX2_costOf_33 (by decide) ?_
          refine x_weaken (L1 := [(0, .ref 71), (1, .int (zN ((b : Int)))), (2, .int (zN (mcost (H.1 2) b (k + 1)))), (3, .int (zN ((((k + 1) : Nat) : Int))))]) (List.forall_mem_cons.mpr ⟨(List.Mem.tail _ (List.Mem.tail _ (List.Mem.head _))), (List.forall_mem_cons.mpr ⟨(List.Mem.tail _ (List.Mem.tail _ (List.Mem.tail _ (List.Mem.head _)))), (List.forall_mem_cons.mpr ⟨(mem_ci (by show mcost (H.1 2) b k + (if (b : Int) / 2 ^ k % 2 = 0 then 0 else H.1 2 (550 + k)) = _; first | (rw [if_pos (by omega)]; try omega) | (rw [if_neg (by omega)]; try omega)) (List.Mem.tail _ (List.Mem.head _))), (List.forall_mem_cons.mpr ⟨(mem_ci (by omega) (List.Mem.head _)), (fun _ h => absurd h List.not_mem_nil)⟩)⟩)⟩)⟩) ?_
          exact ih4 ((k + 1)) (by omega) (by omega)
        · skip
          refine x_aload_n (pc := 18) dX2_costOf_18 (List.Mem.head _) ?_
          refine z_getR (pc := 19) (k := 7) (r := 78) dX2_costOf_19 lf_X2_30 sh_71 rfl rf_71_7 ?_
          refine x_iload_n (pc := 22) dX2_costOf_22 (List.Mem.tail _ (List.Mem.tail _ (List.Mem.tail _ (List.Mem.head _)))) ?_
          have rd3 := ok.1 78 k
          refine z_iald (pc := 23) (j := k) (v := H.1 78 k) dX2_costOf_23 sh_78 rfl (by omega) (by decide) rfl ?_
          refine x_goto (pc := 24) (tgt := 28) dX2_costOf_24 (by decide) ?_
          refine z_iadd (pc := 28) dX2_costOf_28 ?_
          refine x_istore_n (pc := 29) dX2_costOf_29 (Nat.le_of_ble_eq_true rfl) ?_
          show Ev _ _ _ _ _ [(2, .int (zN ((mcost (H.1 2) b k + (H.1 78 k))))), (0, .ref 71), (1, .int (zN ((b : Int)))), (3, .int (zN ((k : Int))))] _ _
          refine z_iinc (pc := 30) dX2_costOf_30 (List.Mem.tail _ (List.Mem.tail _ (List.Mem.tail _ (List.Mem.head _)))) (Nat.le_of_ble_eq_true rfl) ?_
          show Ev _ _ _ _ _ [(3, .int (zN ((k : Int) + 1))), (2, .int (zN ((mcost (H.1 2) b k + (H.1 78 k))))), (0, .ref 71), (1, .int (zN ((b : Int))))] _ _
          refine x_goto (pc := 33) (tgt := 4) dX2_costOf_33 (by decide) ?_
          refine x_weaken (L1 := [(0, .ref 71), (1, .int (zN ((b : Int)))), (2, .int (zN (mcost (H.1 2) b (k + 1)))), (3, .int (zN ((((k + 1) : Nat) : Int))))]) (List.forall_mem_cons.mpr ⟨(List.Mem.tail _ (List.Mem.tail _ (List.Mem.head _))), (List.forall_mem_cons.mpr ⟨(List.Mem.tail _ (List.Mem.tail _ (List.Mem.tail _ (List.Mem.head _)))), (List.forall_mem_cons.mpr ⟨(mem_ci (by show mcost (H.1 2) b k + (if (b : Int) / 2 ^ k % 2 = 0 then 0 else H.1 2 (550 + k)) = _; first | (rw [if_pos (by omega)]; try omega) | (rw [if_neg (by omega)]; try omega)) (List.Mem.tail _ (List.Mem.head _))), (List.forall_mem_cons.mpr ⟨(mem_ci (by omega) (List.Mem.head _)), (fun _ h => absurd h List.not_mem_nil)⟩)⟩)⟩)⟩) ?_
          exact ih4 ((k + 1)) (by omega) (by omega)
  refine x_weaken (L1 := [(0, .ref 71), (1, .int (zN ((b : Int)))), (2, .int (zN (mcost (H.1 2) b 0))), (3, .int (zN (((0 : Nat) : Int))))]) (List.forall_mem_cons.mpr ⟨(List.Mem.tail _ (List.Mem.tail _ (List.Mem.head _))), (List.forall_mem_cons.mpr ⟨(List.Mem.tail _ (List.Mem.tail _ (List.Mem.tail _ (List.Mem.head _)))), (List.forall_mem_cons.mpr ⟨(mem_ci (rfl) (List.Mem.tail _ (List.Mem.head _))), (List.forall_mem_cons.mpr ⟨(mem_ci (by omega) (List.Mem.head _)), (fun _ h => absurd h List.not_mem_nil)⟩)⟩)⟩)⟩) ?_
  exact lp4 (4 - 0 + 1) (0) (by omega) (Nat.lt_succ_self _)

theorem c_X11_costOf {d : Nat} {H : ZH} (ok : okZ H) {b : Nat} (hb : b < 16) (wp : WFP (H.1 2)) : EvC zX (d + 1) mX11_costOf [.ref 0, .int (zN ((b : Int)))] (eh H) (zPi (fun (rz : Int) (Hz : ZH) => rz = (mcost (H.1 2) b 4) ∧ Hz = H)) := by
  show _ ∧ Ev zX mX11_costOf (EvC zX d) (zPi (fun (rz : Int) (Hz : ZH) => rz = (mcost (H.1 2) b 4) ∧ Hz = H)) 0 [(0, .ref 0), (1, .int (zN ((b : Int))))] [] (eh H)
  refine ⟨Nat.le_of_ble_eq_true rfl, ?_⟩
  have wpx := wp
  obtain ⟨wpA, wpB, wpC⟩ := wpx
  refine z_iconst (pc := 0) dX11_costOf_0 ?_
  refine x_istore_n (pc := 1) dX11_costOf_1 (Nat.le_of_ble_eq_true rfl) ?_
  show Ev _ _ _ _ _ [(2, .int (zN (0))), (0, .ref 0), (1, .int (zN ((b : Int))))] _ _
  refine z_iconst (pc := 2) dX11_costOf_2 ?_
  refine x_istore_n (pc := 3) dX11_costOf_3 (Nat.le_of_ble_eq_true rfl) ?_
  show Ev _ _ _ _ _ [(3, .int (zN (0))), (2, .int (zN (0))), (0, .ref 0), (1, .int (zN ((b : Int))))] _ _
  have lp4 : ∀ (nF : Nat) (k : Nat), (k ≤ 4) → 4 - k < nF → Ev zX mX11_costOf (EvC zX d) (zPi (fun (rz : Int) (Hz : ZH) => rz = (mcost (H.1 2) b 4) ∧ Hz = H)) 4 [(0, .ref 0), (1, .int (zN ((b : Int)))), (2, .int (zN (mcost (H.1 2) b k))), (3, .int (zN ((k : Int))))] [] (eh H) := by
    intro nF
    induction nF with
    | zero => intro k hk hm; exact absurd hm (Nat.not_lt_zero _)
    | succ nF ih4 =>
      intro k hk hm
      have fb := mcost_bd wp b k hk
      have eb := bit12 b (by omega) k
      refine x_iload_n (pc := 4) dX11_costOf_4 (List.Mem.tail _ (List.Mem.tail _ (List.Mem.tail _ (List.Mem.head _)))) ?_
      refine z_iconst (pc := 5) dX11_costOf_5 ?_
      refine z_icmp_ge (pc := 6) (tgt := 41) dX11_costOf_6 (by decide) (by omega) (by omega) (by decide) (by decide) (fun hb1 => ?_) (fun hb1 => ?_)
      · skip
        refine x_iload_n (pc := 41) dX11_costOf_41 (List.Mem.tail _ (List.Mem.tail _ (List.Mem.head _))) ?_
        refine z_ireturn (pc := 42) dX11_costOf_42 rfl (Or.inl rfl) ok (by omega) (by omega) ?_
        exact ⟨by rw [show k = 4 by omega], rfl⟩
      · skip
        have wq := wpC k (by omega)
        refine x_iload_n (pc := 9) dX11_costOf_9 (List.Mem.tail _ (List.Mem.tail _ (List.Mem.head _))) ?_
        refine x_iload_n (pc := 10) dX11_costOf_10 (List.Mem.tail _ (List.Mem.head _)) ?_
        refine x_iload_n (pc := 11) dX11_costOf_11 (List.Mem.tail _ (List.Mem.tail _ (List.Mem.tail _ (List.Mem.head _)))) ?_
        refine z_ishr (pc := 12) (k := k) dX11_costOf_12 rfl (by omega) (by omega) (by omega) ?_
        refine z_iconst (pc := 13) dX11_costOf_13 ?_
        refine z_iand1 (pc := 14) dX11_costOf_14 ?_
        refine z_iconst (pc := 15) dX11_costOf_15 ?_
        refine z_icmp_ne (pc := 16) (tgt := 32) dX11_costOf_16 (by decide) (by omega) (by omega) (by decide) (by decide) (fun hb2 => ?_) (fun hb2 => ?_)
        · skip
          refine z_iconst (pc := 32) dX11_costOf_32 ?_
          refine z_iadd (pc := 33) dX11_costOf_33 ?_
          refine x_istore_n (pc := 34) dX11_costOf_34 (Nat.le_of_ble_eq_true rfl) ?_
          show Ev _ _ _ _ _ [(2, .int (zN ((mcost (H.1 2) b k + 0)))), (0, .ref 0), (1, .int (zN ((b : Int)))), (3, .int (zN ((k : Int))))] _ _
          refine z_iinc (pc := 35) dX11_costOf_35 (List.Mem.tail _ (List.Mem.tail _ (List.Mem.tail _ (List.Mem.head _)))) (Nat.le_of_ble_eq_true rfl) ?_
          show Ev _ _ _ _ _ [(3, .int (zN ((k : Int) + 1))), (2, .int (zN ((mcost (H.1 2) b k + 0)))), (0, .ref 0), (1, .int (zN ((b : Int))))] _ _
          refine x_goto (pc := 38) (tgt := 4) dX11_costOf_38 (by decide) ?_
          refine x_weaken (L1 := [(0, .ref 0), (1, .int (zN ((b : Int)))), (2, .int (zN (mcost (H.1 2) b (k + 1)))), (3, .int (zN ((((k + 1) : Nat) : Int))))]) (List.forall_mem_cons.mpr ⟨(List.Mem.tail _ (List.Mem.tail _ (List.Mem.head _))), (List.forall_mem_cons.mpr ⟨(List.Mem.tail _ (List.Mem.tail _ (List.Mem.tail _ (List.Mem.head _)))), (List.forall_mem_cons.mpr ⟨(mem_ci (by show mcost (H.1 2) b k + (if (b : Int) / 2 ^ k % 2 = 0 then 0 else H.1 2 (550 + k)) = _; first | (rw [if_pos (by omega)]; try omega) | (rw [if_neg (by omega)]; try omega)) (List.Mem.tail _ (List.Mem.head _))), (List.forall_mem_cons.mpr ⟨(mem_ci (by omega) (List.Mem.head _)), (fun _ h => absurd h List.not_mem_nil)⟩)⟩)⟩)⟩) ?_
          exact ih4 ((k + 1)) (by omega) (by omega)
        · skip
          refine x_aload_n (pc := 19) dX11_costOf_19 (List.Mem.head _) ?_
          refine z_getR (pc := 20) (k := 2) (r := 2) dX11_costOf_20 lf_X11_17 sh_0 rfl rf_0_2 ?_
          refine z_sipush (pc := 23) dX11_costOf_23 sp_550 ?_
          refine x_iload_n (pc := 26) dX11_costOf_26 (List.Mem.tail _ (List.Mem.tail _ (List.Mem.tail _ (List.Mem.head _)))) ?_
          refine z_iadd (pc := 27) dX11_costOf_27 ?_
          have rd3 := ok.1 2 (550 + k)
          refine z_iald (pc := 28) (j := 550 + k) (v := H.1 2 (550 + k)) dX11_costOf_28 sh_2 (by omega) (by omega) (by decide) rfl ?_
          refine x_goto (pc := 29) (tgt := 33) dX11_costOf_29 (by decide) ?_
          refine z_iadd (pc := 33) dX11_costOf_33 ?_
          refine x_istore_n (pc := 34) dX11_costOf_34 (Nat.le_of_ble_eq_true rfl) ?_
          show Ev _ _ _ _ _ [(2, .int (zN ((mcost (H.1 2) b k + (H.1 2 (550 + k)))))), (0, .ref 0), (1, .int (zN ((b : Int)))), (3, .int (zN ((k : Int))))] _ _
          refine z_iinc (pc := 35) dX11_costOf_35 (List.Mem.tail _ (List.Mem.tail _ (List.Mem.tail _ (List.Mem.head _)))) (Nat.le_of_ble_eq_true rfl) ?_
          show Ev _ _ _ _ _ [(3, .int (zN ((k : Int) + 1))), (2, .int (zN ((mcost (H.1 2) b k + (H.1 2 (550 + k)))))), (0, .ref 0), (1, .int (zN ((b : Int))))] _ _
          refine x_goto (pc := 38) (tgt := 4) dX11_costOf_38 (by decide) ?_
          refine x_weaken (L1 := [(0, .ref 0), (1, .int (zN ((b : Int)))), (2, .int (zN (mcost (H.1 2) b (k + 1)))), (3, .int (zN ((((k + 1) : Nat) : Int))))]) (List.forall_mem_cons.mpr ⟨(List.Mem.tail _ (List.Mem.tail _ (List.Mem.head _))), (List.forall_mem_cons.mpr ⟨(List.Mem.tail _ (List.Mem.tail _ (List.Mem.tail _ (List.Mem.head _)))), (List.forall_mem_cons.mpr ⟨(mem_ci (by show mcost (H.1 2) b k + (if (b : Int) / 2 ^ k % 2 = 0 then 0 else H.1 2 (550 + k)) = _; first | (rw [if_pos (by omega)]; try omega) | (rw [if_neg (by omega)]; try omega)) (List.Mem.tail _ (List.Mem.head _))), (List.forall_mem_cons.mpr ⟨(mem_ci (by omega) (List.Mem.head _)), (fun _ h => absurd h List.not_mem_nil)⟩)⟩)⟩)⟩) ?_
          exact ih4 ((k + 1)) (by omega) (by omega)
  refine x_weaken (L1 := [(0, .ref 0), (1, .int (zN ((b : Int)))), (2, .int (zN (mcost (H.1 2) b 0))), (3, .int (zN (((0 : Nat) : Int))))]) (List.forall_mem_cons.mpr ⟨(List.Mem.tail _ (List.Mem.tail _ (List.Mem.head _))), (List.forall_mem_cons.mpr ⟨(List.Mem.tail _ (List.Mem.tail _ (List.Mem.tail _ (List.Mem.head _)))), (List.forall_mem_cons.mpr ⟨(mem_ci (rfl) (List.Mem.tail _ (List.Mem.head _))), (List.forall_mem_cons.mpr ⟨(mem_ci (by omega) (List.Mem.head _)), (fun _ h => absurd h List.not_mem_nil)⟩)⟩)⟩)⟩) ?_
  exact lp4 (4 - 0 + 1) (0) (by omega) (Nat.lt_succ_self _)

theorem c_X2_leftAt {d : Nat} {H : ZH} (ok : okZ H) {p b : Nat} (hp : p < 12) (hb : b < 16) (wp : WFP (H.1 2)) (rp : RepP H) : EvC zX (d + 2) mX2_leftAt [.ref 71, .int (zN ((p : Int))), .int (zN ((b : Int)))] (eh H) (zPi (fun (rz : Int) (Hz : ZH) => rz = (mleft (H.1 2) p b 4) ∧ Hz = H)) := by
  show _ ∧ Ev zX mX2_leftAt (EvC zX (d + 1)) (zPi (fun (rz : Int) (Hz : ZH) => rz = (mleft (H.1 2) p b 4) ∧ Hz = H)) 0 [(0, .ref 71), (1, .int (zN ((p : Int)))), (2, .int (zN ((b : Int))))] [] (eh H)
  refine ⟨Nat.le_of_ble_eq_true rfl, ?_⟩
  have wpx := wp
  obtain ⟨wpA, wpB, wpC⟩ := wpx
  have rpx := rp
  obtain ⟨rpA, rpB, rpC⟩ := rpx
  have hcr := cross_bd wp hp
  refine x_aload_n (pc := 0) dX2_leftAt_0 (List.Mem.head _) ?_
  refine x_iload_n (pc := 1) dX2_leftAt_1 (List.Mem.tail _ (List.Mem.head _)) ?_
  refine z_callVip (pc := 2) (i := mX2_hurtAt) (S := []) [.int (zN ((p : Int)))] dX2_leftAt_2 ml_X2_56 ok_X2_hurtAt rfl sh_71 rfl (Or.inl rfl) (Nat.le_of_ble_eq_true rfl) (c_X2_hurtAt (d := d) (p := p) (hp := (by omega)) (ok := ok) (wp := (by first | assumption | omega)) (rp := (by first | assumption | omega))) (fun r1a r1b ok2 => ?_)
  refine z_sipush (pc := 5) dX2_leftAt_5 sp_10000 ?_
  refine z_imul (pc := 8) dX2_leftAt_8 ?_
  refine x_istore_n (pc := 9) dX2_leftAt_9 (Nat.le_of_ble_eq_true rfl) ?_
  show Ev _ _ _ _ _ [(3, .int (zN (((phurt (H.1 2) p) * 10000)))), (0, .ref 71), (1, .int (zN ((p : Int)))), (2, .int (zN ((b : Int))))] _ _
  refine z_iconst (pc := 10) dX2_leftAt_10 ?_
  refine x_istore (pc := 11) dX2_leftAt_11 (Nat.le_of_ble_eq_true rfl) ?_
  show Ev _ _ _ _ _ [(4, .int (zN (0))), (3, .int (zN (((phurt (H.1 2) p) * 10000)))), (0, .ref 71), (1, .int (zN ((p : Int)))), (2, .int (zN ((b : Int))))] _ _
  have lp13 : ∀ (nF : Nat) (k : Nat), (k ≤ 4) → 4 - k < nF → Ev zX mX2_leftAt (EvC zX (d + 1)) (zPi (fun (rz : Int) (Hz : ZH) => rz = (mleft (H.1 2) p b 4) ∧ Hz = H)) 13 [(0, .ref 71), (1, .int (zN ((p : Int)))), (2, .int (zN ((b : Int)))), (3, .int (zN (mleft (H.1 2) p b k))), (4, .int (zN ((k : Int))))] [] (eh H) := by
    intro nF
    induction nF with
    | zero => intro k hk hm; exact absurd hm (Nat.not_lt_zero _)
    | succ nF ih13 =>
      intro k hk hm
      have fb := mleft_bd wp hp b k hk
      have eb := bit12 b (by omega) k
      refine x_iload (pc := 13) dX2_leftAt_13 (List.Mem.tail _ (List.Mem.tail _ (List.Mem.tail _ (List.Mem.tail _ (List.Mem.head _))))) ?_
      refine z_iconst (pc := 15) dX2_leftAt_15 ?_
      refine z_icmp_ge (pc := 16) (tgt := 51) dX2_leftAt_16 (by decide) (by omega) (by omega) (by decide) (by decide) (fun hb3 => ?_) (fun hb3 => ?_)
      · skip
        refine x_iload_n (pc := 51) dX2_leftAt_51 (List.Mem.tail _ (List.Mem.tail _ (List.Mem.tail _ (List.Mem.head _)))) ?_
        refine z_ireturn (pc := 52) dX2_leftAt_52 rfl (Or.inl rfl) ok2 (by omega) (by omega) ?_
        exact ⟨by rw [show k = 4 by omega], rfl⟩
      · skip
        have wq := wpC k (by omega)
        have rq := rpC k (by omega)
        have fm := nn2 (x := mleft (H.1 2) p b k) (y := H.1 2 (554 + k)) (A := 6000000) (B := 100) (by omega) (by omega) (by omega) (by omega)
        rw [← rq.2] at fm
        refine x_iload_n (pc := 19) dX2_leftAt_19 (List.Mem.tail _ (List.Mem.tail _ (List.Mem.head _))) ?_
        refine x_iload (pc := 20) dX2_leftAt_20 (List.Mem.tail _ (List.Mem.tail _ (List.Mem.tail _ (List.Mem.tail _ (List.Mem.head _))))) ?_
        refine z_ishr (pc := 22) (k := k) dX2_leftAt_22 rfl (by omega) (by omega) (by omega) ?_
        refine z_iconst (pc := 23) dX2_leftAt_23 ?_
        refine z_iand1 (pc := 24) dX2_leftAt_24 ?_
        refine z_if_eq (pc := 25) (tgt := 43) dX2_leftAt_25 (by decide) (by omega) (by omega) (fun hb4 => ?_) (fun hb4 => ?_)
        · skip
          refine x_iload_n (pc := 43) dX2_leftAt_43 (List.Mem.tail _ (List.Mem.tail _ (List.Mem.tail _ (List.Mem.head _)))) ?_
          refine x_istore_n (pc := 44) dX2_leftAt_44 (Nat.le_of_ble_eq_true rfl) ?_
          show Ev _ _ _ _ _ [(3, .int (zN (mleft (H.1 2) p b k))), (0, .ref 71), (1, .int (zN ((p : Int)))), (2, .int (zN ((b : Int)))), (4, .int (zN ((k : Int))))] _ _
          refine z_iinc (pc := 45) dX2_leftAt_45 (List.Mem.tail _ (List.Mem.tail _ (List.Mem.tail _ (List.Mem.tail _ (List.Mem.head _))))) (Nat.le_of_ble_eq_true rfl) ?_
          show Ev _ _ _ _ _ [(4, .int (zN ((k : Int) + 1))), (3, .int (zN (mleft (H.1 2) p b k))), (0, .ref 71), (1, .int (zN ((p : Int)))), (2, .int (zN ((b : Int))))] _ _
          refine x_goto (pc := 48) (tgt := 13) dX2_leftAt_48 (by decide) ?_
          refine x_weaken (L1 := [(0, .ref 71), (1, .int (zN ((p : Int)))), (2, .int (zN ((b : Int)))), (3, .int (zN (mleft (H.1 2) p b (k + 1)))), (4, .int (zN ((((k + 1) : Nat) : Int))))]) (List.forall_mem_cons.mpr ⟨(List.Mem.tail _ (List.Mem.tail _ (List.Mem.head _))), (List.forall_mem_cons.mpr ⟨(List.Mem.tail _ (List.Mem.tail _ (List.Mem.tail _ (List.Mem.head _)))), (List.forall_mem_cons.mpr ⟨(List.Mem.tail _ (List.Mem.tail _ (List.Mem.tail _ (List.Mem.tail _ (List.Mem.head _))))), (List.forall_mem_cons.mpr ⟨(mem_ci (by show (if (b : Int) / 2 ^ k % 2 = 0 then mleft (H.1 2) p b k else mleft (H.1 2) p b k * H.1 2 (554 + k) / 100) = _; first | (rw [if_pos (by omega)]; done) | (rw [if_neg (by omega)]; try rw [rq.2]) | (rw [if_neg (by omega)])) (List.Mem.tail _ (List.Mem.head _))), (List.forall_mem_cons.mpr ⟨(mem_ci (by omega) (List.Mem.head _)), (fun _ h => absurd h List.not_mem_nil)⟩)⟩)⟩)⟩)⟩) ?_
          exact ih13 ((k + 1)) (by omega) (by omega)
        · skip
          refine x_iload_n (pc := 28) dX2_leftAt_28 (List.Mem.tail _ (List.Mem.tail _ (List.Mem.tail _ (List.Mem.head _)))) ?_
          refine x_aload_n (pc := 29) dX2_leftAt_29 (List.Mem.head _) ?_
          refine z_getR (pc := 30) (k := 8) (r := 79) dX2_leftAt_30 lf_X2_33 sh_71 rfl rf_71_8 ?_
          refine x_iload (pc := 33) dX2_leftAt_33 (List.Mem.tail _ (List.Mem.tail _ (List.Mem.tail _ (List.Mem.tail _ (List.Mem.head _))))) ?_
          have rd5 := ok2.1 79 k
          refine z_iald (pc := 35) (j := k) (v := H.1 79 k) dX2_leftAt_35 sh_79 rfl (by omega) (by decide) rfl ?_
          refine z_imul (pc := 36) dX2_leftAt_36 ?_
          refine z_bipush (pc := 37) dX2_leftAt_37 bp_100 ?_
          refine z_idivP (pc := 39) dX2_leftAt_39 (by omega) (by omega) (by omega) (by omega) ?_
          refine x_goto (pc := 40) (tgt := 44) dX2_leftAt_40 (by decide) ?_
          refine x_istore_n (pc := 44) dX2_leftAt_44 (Nat.le_of_ble_eq_true rfl) ?_
          show Ev _ _ _ _ _ [(3, .int (zN (((mleft (H.1 2) p b k * (H.1 79 k)) / 100)))), (0, .ref 71), (1, .int (zN ((p : Int)))), (2, .int (zN ((b : Int)))), (4, .int (zN ((k : Int))))] _ _
          refine z_iinc (pc := 45) dX2_leftAt_45 (List.Mem.tail _ (List.Mem.tail _ (List.Mem.tail _ (List.Mem.tail _ (List.Mem.head _))))) (Nat.le_of_ble_eq_true rfl) ?_
          show Ev _ _ _ _ _ [(4, .int (zN ((k : Int) + 1))), (3, .int (zN (((mleft (H.1 2) p b k * (H.1 79 k)) / 100)))), (0, .ref 71), (1, .int (zN ((p : Int)))), (2, .int (zN ((b : Int))))] _ _
          refine x_goto (pc := 48) (tgt := 13) dX2_leftAt_48 (by decide) ?_
          refine x_weaken (L1 := [(0, .ref 71), (1, .int (zN ((p : Int)))), (2, .int (zN ((b : Int)))), (3, .int (zN (mleft (H.1 2) p b (k + 1)))), (4, .int (zN ((((k + 1) : Nat) : Int))))]) (List.forall_mem_cons.mpr ⟨(List.Mem.tail _ (List.Mem.tail _ (List.Mem.head _))), (List.forall_mem_cons.mpr ⟨(List.Mem.tail _ (List.Mem.tail _ (List.Mem.tail _ (List.Mem.head _)))), (List.forall_mem_cons.mpr ⟨(List.Mem.tail _ (List.Mem.tail _ (List.Mem.tail _ (List.Mem.tail _ (List.Mem.head _))))), (List.forall_mem_cons.mpr ⟨(mem_ci (by show (if (b : Int) / 2 ^ k % 2 = 0 then mleft (H.1 2) p b k else mleft (H.1 2) p b k * H.1 2 (554 + k) / 100) = _; first | (rw [if_pos (by omega)]; done) | (rw [if_neg (by omega)]; try rw [rq.2]) | (rw [if_neg (by omega)])) (List.Mem.tail _ (List.Mem.head _))), (List.forall_mem_cons.mpr ⟨(mem_ci (by omega) (List.Mem.head _)), (fun _ h => absurd h List.not_mem_nil)⟩)⟩)⟩)⟩)⟩) ?_
          exact ih13 ((k + 1)) (by omega) (by omega)
  refine x_weaken (L1 := [(0, .ref 71), (1, .int (zN ((p : Int)))), (2, .int (zN ((b : Int)))), (3, .int (zN (mleft (H.1 2) p b 0))), (4, .int (zN (((0 : Nat) : Int))))]) (List.forall_mem_cons.mpr ⟨(List.Mem.tail _ (List.Mem.tail _ (List.Mem.head _))), (List.forall_mem_cons.mpr ⟨(List.Mem.tail _ (List.Mem.tail _ (List.Mem.tail _ (List.Mem.head _)))), (List.forall_mem_cons.mpr ⟨(List.Mem.tail _ (List.Mem.tail _ (List.Mem.tail _ (List.Mem.tail _ (List.Mem.head _))))), (List.forall_mem_cons.mpr ⟨(mem_ci (rfl) (List.Mem.tail _ (List.Mem.head _))), (List.forall_mem_cons.mpr ⟨(mem_ci (by omega) (List.Mem.head _)), (fun _ h => absurd h List.not_mem_nil)⟩)⟩)⟩)⟩)⟩) ?_
  exact lp13 (4 - 0 + 1) (0) (by omega) (Nat.lt_succ_self _)

theorem c_X11_leftOf {d : Nat} {H : ZH} (ok : okZ H) {p b : Nat} (hp : p < 12) (hb : b < 16) (wp : WFP (H.1 2)) : EvC zX (d + 2) mX11_leftOf [.ref 0, .int (zN ((p : Int))), .int (zN ((b : Int)))] (eh H) (zPi (fun (rz : Int) (Hz : ZH) => rz = (mleft (H.1 2) p b 4) ∧ Hz = H)) := by
  show _ ∧ Ev zX mX11_leftOf (EvC zX (d + 1)) (zPi (fun (rz : Int) (Hz : ZH) => rz = (mleft (H.1 2) p b 4) ∧ Hz = H)) 0 [(0, .ref 0), (1, .int (zN ((p : Int)))), (2, .int (zN ((b : Int))))] [] (eh H)
  refine ⟨Nat.le_of_ble_eq_true rfl, ?_⟩
  have wpx := wp
  obtain ⟨wpA, wpB, wpC⟩ := wpx
  have hcr := cross_bd wp hp
  refine x_aload_n (pc := 0) dX11_leftOf_0 (List.Mem.head _) ?_
  refine x_iload_n (pc := 1) dX11_leftOf_1 (List.Mem.tail _ (List.Mem.head _)) ?_
  refine z_callVip (pc := 2) (i := mX11_hurtAt) (S := []) [.int (zN ((p : Int)))] dX11_leftOf_2 ml_X11_331 ok_X11_hurtAt rfl sh_0 rfl (Or.inl rfl) (Nat.le_of_ble_eq_true rfl) (c_X11_hurtAt (d := d) (p := p) (hp := (by omega)) (ok := ok) (wp := (by first | assumption | omega))) (fun r1a r1b ok2 => ?_)
  refine z_sipush (pc := 5) dX11_leftOf_5 sp_10000 ?_
  refine z_imul (pc := 8) dX11_leftOf_8 ?_
  refine x_istore_n (pc := 9) dX11_leftOf_9 (Nat.le_of_ble_eq_true rfl) ?_
  show Ev _ _ _ _ _ [(3, .int (zN (((phurt (H.1 2) p) * 10000)))), (0, .ref 0), (1, .int (zN ((p : Int)))), (2, .int (zN ((b : Int))))] _ _
  refine z_iconst (pc := 10) dX11_leftOf_10 ?_
  refine x_istore (pc := 11) dX11_leftOf_11 (Nat.le_of_ble_eq_true rfl) ?_
  show Ev _ _ _ _ _ [(4, .int (zN (0))), (3, .int (zN (((phurt (H.1 2) p) * 10000)))), (0, .ref 0), (1, .int (zN ((p : Int)))), (2, .int (zN ((b : Int))))] _ _
  have lp13 : ∀ (nF : Nat) (k : Nat), (k ≤ 4) → 4 - k < nF → Ev zX mX11_leftOf (EvC zX (d + 1)) (zPi (fun (rz : Int) (Hz : ZH) => rz = (mleft (H.1 2) p b 4) ∧ Hz = H)) 13 [(0, .ref 0), (1, .int (zN ((p : Int)))), (2, .int (zN ((b : Int)))), (3, .int (zN (mleft (H.1 2) p b k))), (4, .int (zN ((k : Int))))] [] (eh H) := by
    intro nF
    induction nF with
    | zero => intro k hk hm; exact absurd hm (Nat.not_lt_zero _)
    | succ nF ih13 =>
      intro k hk hm
      have fb := mleft_bd wp hp b k hk
      have eb := bit12 b (by omega) k
      refine x_iload (pc := 13) dX11_leftOf_13 (List.Mem.tail _ (List.Mem.tail _ (List.Mem.tail _ (List.Mem.tail _ (List.Mem.head _))))) ?_
      refine z_iconst (pc := 15) dX11_leftOf_15 ?_
      refine z_icmp_ge (pc := 16) (tgt := 60) dX11_leftOf_16 (by decide) (by omega) (by omega) (by decide) (by decide) (fun hb3 => ?_) (fun hb3 => ?_)
      · skip
        refine x_iload_n (pc := 60) dX11_leftOf_60 (List.Mem.tail _ (List.Mem.tail _ (List.Mem.tail _ (List.Mem.head _)))) ?_
        refine z_ireturn (pc := 61) dX11_leftOf_61 rfl (Or.inl rfl) ok2 (by omega) (by omega) ?_
        exact ⟨by rw [show k = 4 by omega], rfl⟩
      · skip
        have wq := wpC k (by omega)
        have fm := nn2 (x := mleft (H.1 2) p b k) (y := H.1 2 (554 + k)) (A := 6000000) (B := 100) (by omega) (by omega) (by omega) (by omega)
        refine x_iload_n (pc := 19) dX11_leftOf_19 (List.Mem.tail _ (List.Mem.tail _ (List.Mem.head _))) ?_
        refine x_iload (pc := 20) dX11_leftOf_20 (List.Mem.tail _ (List.Mem.tail _ (List.Mem.tail _ (List.Mem.tail _ (List.Mem.head _))))) ?_
        refine z_ishr (pc := 22) (k := k) dX11_leftOf_22 rfl (by omega) (by omega) (by omega) ?_
        refine z_iconst (pc := 23) dX11_leftOf_23 ?_
        refine z_iand1 (pc := 24) dX11_leftOf_24 ?_
        refine z_iconst (pc := 25) dX11_leftOf_25 ?_
        refine z_icmp_ne (pc := 26) (tgt := 52) dX11_leftOf_26 (by decide) (by omega) (by omega) (by decide) (by decide) (fun hb4 => ?_) (fun hb4 => ?_)
        · skip
          refine x_iload_n (pc := 52) dX11_leftOf_52 (List.Mem.tail _ (List.Mem.tail _ (List.Mem.tail _ (List.Mem.head _)))) ?_
          refine x_istore_n (pc := 53) dX11_leftOf_53 (Nat.le_of_ble_eq_true rfl) ?_
          show Ev _ _ _ _ _ [(3, .int (zN (mleft (H.1 2) p b k))), (0, .ref 0), (1, .int (zN ((p : Int)))), (2, .int (zN ((b : Int)))), (4, .int (zN ((k : Int))))] _ _
          refine z_iinc (pc := 54) dX11_leftOf_54 (List.Mem.tail _ (List.Mem.tail _ (List.Mem.tail _ (List.Mem.tail _ (List.Mem.head _))))) (Nat.le_of_ble_eq_true rfl) ?_
          show Ev _ _ _ _ _ [(4, .int (zN ((k : Int) + 1))), (3, .int (zN (mleft (H.1 2) p b k))), (0, .ref 0), (1, .int (zN ((p : Int)))), (2, .int (zN ((b : Int))))] _ _
          refine x_goto (pc := 57) (tgt := 13) dX11_leftOf_57 (by decide) ?_
          refine x_weaken (L1 := [(0, .ref 0), (1, .int (zN ((p : Int)))), (2, .int (zN ((b : Int)))), (3, .int (zN (mleft (H.1 2) p b (k + 1)))), (4, .int (zN ((((k + 1) : Nat) : Int))))]) (List.forall_mem_cons.mpr ⟨(List.Mem.tail _ (List.Mem.tail _ (List.Mem.head _))), (List.forall_mem_cons.mpr ⟨(List.Mem.tail _ (List.Mem.tail _ (List.Mem.tail _ (List.Mem.head _)))), (List.forall_mem_cons.mpr ⟨(List.Mem.tail _ (List.Mem.tail _ (List.Mem.tail _ (List.Mem.tail _ (List.Mem.head _))))), (List.forall_mem_cons.mpr ⟨(mem_ci (by show (if (b : Int) / 2 ^ k % 2 = 0 then mleft (H.1 2) p b k else mleft (H.1 2) p b k * H.1 2 (554 + k) / 100) = _; first | (rw [if_pos (by omega)]; done) | (rw [if_neg (by omega)]; try rw [rq.2]) | (rw [if_neg (by omega)])) (List.Mem.tail _ (List.Mem.head _))), (List.forall_mem_cons.mpr ⟨(mem_ci (by omega) (List.Mem.head _)), (fun _ h => absurd h List.not_mem_nil)⟩)⟩)⟩)⟩)⟩) ?_
          exact ih13 ((k + 1)) (by omega) (by omega)
        · skip
          refine x_iload_n (pc := 29) dX11_leftOf_29 (List.Mem.tail _ (List.Mem.tail _ (List.Mem.tail _ (List.Mem.head _)))) ?_
          refine z_i2l (pc := 30) dX11_leftOf_30 (by omega) (by omega) ?_
          refine x_aload_n (pc := 31) dX11_leftOf_31 (List.Mem.head _) ?_
          refine z_getR (pc := 32) (k := 2) (r := 2) dX11_leftOf_32 lf_X11_17 sh_0 rfl rf_0_2 ?_
          refine z_sipush (pc := 35) dX11_leftOf_35 sp_554 ?_
          refine x_iload (pc := 38) dX11_leftOf_38 (List.Mem.tail _ (List.Mem.tail _ (List.Mem.tail _ (List.Mem.tail _ (List.Mem.head _))))) ?_
          refine z_iadd (pc := 40) dX11_leftOf_40 ?_
          have rd5 := ok2.1 2 (554 + k)
          refine z_iald (pc := 41) (j := 554 + k) (v := H.1 2 (554 + k)) dX11_leftOf_41 sh_2 (by omega) (by omega) (by decide) rfl ?_
          refine z_i2l (pc := 42) dX11_leftOf_42 (by omega) (by omega) ?_
          refine z_lmul (pc := 43) dX11_leftOf_43 ?_
          refine z_ldc2_w (pc := 44) 100 dX11_leftOf_44 cl_X11_286 (by decide) ?_
          refine z_ldivP (pc := 47) dX11_leftOf_47 (by omega) (by omega) (by omega) (by omega) ?_
          refine z_l2i (pc := 48) dX11_leftOf_48 ?_
          refine x_goto (pc := 49) (tgt := 53) dX11_leftOf_49 (by decide) ?_
          refine x_istore_n (pc := 53) dX11_leftOf_53 (Nat.le_of_ble_eq_true rfl) ?_
          show Ev _ _ _ _ _ [(3, .int (zN (((mleft (H.1 2) p b k * (H.1 2 (554 + k))) / 100)))), (0, .ref 0), (1, .int (zN ((p : Int)))), (2, .int (zN ((b : Int)))), (4, .int (zN ((k : Int))))] _ _
          refine z_iinc (pc := 54) dX11_leftOf_54 (List.Mem.tail _ (List.Mem.tail _ (List.Mem.tail _ (List.Mem.tail _ (List.Mem.head _))))) (Nat.le_of_ble_eq_true rfl) ?_
          show Ev _ _ _ _ _ [(4, .int (zN ((k : Int) + 1))), (3, .int (zN (((mleft (H.1 2) p b k * (H.1 2 (554 + k))) / 100)))), (0, .ref 0), (1, .int (zN ((p : Int)))), (2, .int (zN ((b : Int))))] _ _
          refine x_goto (pc := 57) (tgt := 13) dX11_leftOf_57 (by decide) ?_
          refine x_weaken (L1 := [(0, .ref 0), (1, .int (zN ((p : Int)))), (2, .int (zN ((b : Int)))), (3, .int (zN (mleft (H.1 2) p b (k + 1)))), (4, .int (zN ((((k + 1) : Nat) : Int))))]) (List.forall_mem_cons.mpr ⟨(List.Mem.tail _ (List.Mem.tail _ (List.Mem.head _))), (List.forall_mem_cons.mpr ⟨(List.Mem.tail _ (List.Mem.tail _ (List.Mem.tail _ (List.Mem.head _)))), (List.forall_mem_cons.mpr ⟨(List.Mem.tail _ (List.Mem.tail _ (List.Mem.tail _ (List.Mem.tail _ (List.Mem.head _))))), (List.forall_mem_cons.mpr ⟨(mem_ci (by show (if (b : Int) / 2 ^ k % 2 = 0 then mleft (H.1 2) p b k else mleft (H.1 2) p b k * H.1 2 (554 + k) / 100) = _; first | (rw [if_pos (by omega)]; done) | (rw [if_neg (by omega)]; try rw [rq.2]) | (rw [if_neg (by omega)])) (List.Mem.tail _ (List.Mem.head _))), (List.forall_mem_cons.mpr ⟨(mem_ci (by omega) (List.Mem.head _)), (fun _ h => absurd h List.not_mem_nil)⟩)⟩)⟩)⟩)⟩) ?_
          exact ih13 ((k + 1)) (by omega) (by omega)
  refine x_weaken (L1 := [(0, .ref 0), (1, .int (zN ((p : Int)))), (2, .int (zN ((b : Int)))), (3, .int (zN (mleft (H.1 2) p b 0))), (4, .int (zN (((0 : Nat) : Int))))]) (List.forall_mem_cons.mpr ⟨(List.Mem.tail _ (List.Mem.tail _ (List.Mem.head _))), (List.forall_mem_cons.mpr ⟨(List.Mem.tail _ (List.Mem.tail _ (List.Mem.tail _ (List.Mem.head _)))), (List.forall_mem_cons.mpr ⟨(List.Mem.tail _ (List.Mem.tail _ (List.Mem.tail _ (List.Mem.tail _ (List.Mem.head _))))), (List.forall_mem_cons.mpr ⟨(mem_ci (rfl) (List.Mem.tail _ (List.Mem.head _))), (List.forall_mem_cons.mpr ⟨(mem_ci (by omega) (List.Mem.head _)), (fun _ h => absurd h List.not_mem_nil)⟩)⟩)⟩)⟩)⟩) ?_
  exact lp13 (4 - 0 + 1) (0) (by omega) (Nat.lt_succ_self _)

theorem c_X2_worstOf {d : Nat} {H : ZH} (ok : okZ H) {k : Nat} (hk : (k : Int) ≤ H.1 2 477) (wp : WFP (H.1 2)) (rp : RepP H) : EvC zX (d + 2) mX2_worstOf [.ref 71, .int (zN ((k : Int)))] (eh H) (zPi (fun (rz : Int) (Hz : ZH) => rz = (((wset (H.1 2) (H.1 2 477).toNat k : Nat) : Int)) ∧ Hz = H)) := by
  show _ ∧ Ev zX mX2_worstOf (EvC zX (d + 1)) (zPi (fun (rz : Int) (Hz : ZH) => rz = (((wset (H.1 2) (H.1 2 477).toNat k : Nat) : Int)) ∧ Hz = H)) 0 [(0, .ref 71), (1, .int (zN ((k : Int))))] [] (eh H)
  refine ⟨Nat.le_of_ble_eq_true rfl, ?_⟩
  have wpx := wp
  obtain ⟨wpA, wpB, wpC⟩ := wpx
  have rpx := rp
  obtain ⟨rpA, rpB, rpC⟩ := rpx
  refine z_iconst (pc := 0) dX2_worstOf_0 ?_
  refine x_istore_n (pc := 1) dX2_worstOf_1 (Nat.le_of_ble_eq_true rfl) ?_
  show Ev _ _ _ _ _ [(2, .int (zN (0))), (0, .ref 71), (1, .int (zN ((k : Int))))] _ _
  refine z_iconst (pc := 2) dX2_worstOf_2 ?_
  refine x_istore_n (pc := 3) dX2_worstOf_3 (Nat.le_of_ble_eq_true rfl) ?_
  show Ev _ _ _ _ _ [(3, .int (zN (0))), (2, .int (zN (0))), (0, .ref 71), (1, .int (zN ((k : Int))))] _ _
  have lp4 : ∀ (nF : Nat) (j : Nat), (j ≤ k) → k - j < nF → Ev zX mX2_worstOf (EvC zX (d + 1)) (zPi (fun (rz : Int) (Hz : ZH) => rz = (((wset (H.1 2) (H.1 2 477).toNat k : Nat) : Int)) ∧ Hz = H)) 4 [(0, .ref 71), (1, .int (zN ((k : Int)))), (2, .int (zN (((wset (H.1 2) (H.1 2 477).toNat j : Nat) : Int)))), (3, .int (zN ((j : Int))))] [] (eh H) := by
    intro nF
    induction nF with
    | zero => intro j hj hm; exact absurd hm (Nat.not_lt_zero _)
    | succ nF ih4 =>
      intro j hj hm
      have wo := wset_ok (H.1 2) (N := (H.1 2 477).toNat) (by omega) j (by omega)
      refine x_iload_n (pc := 4) dX2_worstOf_4 (List.Mem.tail _ (List.Mem.tail _ (List.Mem.tail _ (List.Mem.head _)))) ?_
      refine x_iload_n (pc := 5) dX2_worstOf_5 (List.Mem.tail _ (List.Mem.head _)) ?_
      refine z_icmp_ge (pc := 6) (tgt := 78) dX2_worstOf_6 (by decide) (by omega) (by omega) (by omega) (by omega) (fun hb1 => ?_) (fun hb1 => ?_)
      · skip
        refine x_iload_n (pc := 78) dX2_worstOf_78 (List.Mem.tail _ (List.Mem.tail _ (List.Mem.head _))) ?_
        refine z_ireturn (pc := 79) dX2_worstOf_79 rfl (Or.inl rfl) ok (by omega) (by omega) ?_
        exact ⟨by rw [show j = k by omega], rfl⟩
      · skip
        refine z_iconst (pc := 9) dX2_worstOf_9 ?_
        refine x_istore (pc := 10) dX2_worstOf_10 (Nat.le_of_ble_eq_true rfl) ?_
        show Ev _ _ _ _ _ [(4, .int (zN ((-1)))), (0, .ref 71), (1, .int (zN ((k : Int)))), (2, .int (zN (((wset (H.1 2) (H.1 2 477).toNat j : Nat) : Int)))), (3, .int (zN ((j : Int))))] _ _
        refine z_iconst (pc := 12) dX2_worstOf_12 ?_
        refine x_istore (pc := 13) dX2_worstOf_13 (Nat.le_of_ble_eq_true rfl) ?_
        show Ev _ _ _ _ _ [(5, .int (zN (0))), (4, .int (zN ((-1)))), (0, .ref 71), (1, .int (zN ((k : Int)))), (2, .int (zN (((wset (H.1 2) (H.1 2 477).toNat j : Nat) : Int)))), (3, .int (zN ((j : Int))))] _ _
        refine z_iconst (pc := 15) dX2_worstOf_15 ?_
        refine x_istore (pc := 16) dX2_worstOf_16 (Nat.le_of_ble_eq_true rfl) ?_
        show Ev _ _ _ _ _ [(6, .int (zN (0))), (5, .int (zN (0))), (4, .int (zN ((-1)))), (0, .ref 71), (1, .int (zN ((k : Int)))), (2, .int (zN (((wset (H.1 2) (H.1 2 477).toNat j : Nat) : Int)))), (3, .int (zN ((j : Int))))] _ _
        have lp18 : ∀ (nF : Nat) (i : Nat), ((i : Int) ≤ H.1 2 477) → (H.1 2 477).toNat - i < nF → Ev zX mX2_worstOf (EvC zX (d + 1)) (zPi (fun (rz : Int) (Hz : ZH) => rz = (((wset (H.1 2) (H.1 2 477).toNat k : Nat) : Int)) ∧ Hz = H)) 18 [(0, .ref 71), (1, .int (zN ((k : Int)))), (2, .int (zN (((wset (H.1 2) (H.1 2 477).toNat j : Nat) : Int)))), (3, .int (zN ((j : Int)))), (4, .int (zN ((if wbest (H.1 2) (wset (H.1 2) (H.1 2 477).toNat j) i = -1 then -1 else phurt (H.1 2) (wbest (H.1 2) (wset (H.1 2) (H.1 2 477).toNat j) i).toNat)))), (5, .int (zN ((((wbest (H.1 2) (wset (H.1 2) (H.1 2 477).toNat j) i).toNat : Nat) : Int)))), (6, .int (zN ((i : Int))))] [] (eh H) := by
          intro nF
          induction nF with
          | zero => intro i hi hm; exact absurd hm (Nat.not_lt_zero _)
          | succ nF ih18 =>
            intro i hi hm
            have wb := wbest_bd (H.1 2) (wset (H.1 2) (H.1 2 477).toNat j) i
            have eb := bit12 (wset (H.1 2) (H.1 2 477).toNat j) wo.1 i
            have hq : -1 ≤ (if wbest (H.1 2) (wset (H.1 2) (H.1 2 477).toNat j) i = -1 then -1 else phurt (H.1 2) (wbest (H.1 2) (wset (H.1 2) (H.1 2 477).toNat j) i).toNat) ∧ (if wbest (H.1 2) (wset (H.1 2) (H.1 2 477).toNat j) i = -1 then -1 else phurt (H.1 2) (wbest (H.1 2) (wset (H.1 2) (H.1 2 477).toNat j) i).toNat) ≤ 600 := by
              by_cases c : wbest (H.1 2) (wset (H.1 2) (H.1 2 477).toNat j) i = -1
              · rw [if_pos c]; omega
              · rw [if_neg c]; have := cross_bd wp (p := (wbest (H.1 2) (wset (H.1 2) (H.1 2 477).toNat j) i).toNat) (by omega); omega
            refine x_iload (pc := 18) dX2_worstOf_18 (List.Mem.tail _ (List.Mem.tail _ (List.Mem.tail _ (List.Mem.tail _ (List.Mem.tail _ (List.Mem.tail _ (List.Mem.head _))))))) ?_
            refine x_aload_n (pc := 20) dX2_worstOf_20 (List.Mem.head _) ?_
            have rd2 := ok.1 71 0
            refine z_getI (pc := 21) (k := 0) (v := H.1 71 0) dX2_worstOf_21 lf_X2_36 sh_71 rfl rfl ?_
            refine z_icmp_ge (pc := 24) (tgt := 65) dX2_worstOf_24 (by decide) (by omega) (by omega) (by omega) (by omega) (fun hb3 => ?_) (fun hb3 => ?_)
            · skip
              have ei : i = (H.1 2 477).toNat := by omega
              refine x_iload_n (pc := 65) dX2_worstOf_65 (List.Mem.tail _ (List.Mem.tail _ (List.Mem.head _))) ?_
              refine z_iconst (pc := 66) dX2_worstOf_66 ?_
              refine x_iload (pc := 67) dX2_worstOf_67 (List.Mem.tail _ (List.Mem.tail _ (List.Mem.tail _ (List.Mem.tail _ (List.Mem.tail _ (List.Mem.head _)))))) ?_
              refine z_ishl1 (pc := 69) (k := (wbest (H.1 2) (wset (H.1 2) (H.1 2 477).toNat j) i).toNat) dX2_worstOf_69 (by omega) (by omega) ?_
              refine z_ior (pc := 70) (m := (wset (H.1 2) (H.1 2 477).toNat j)) (n := (2 ^ ((wbest (H.1 2) (wset (H.1 2) (H.1 2 477).toNat j) i).toNat))) dX2_worstOf_70 (by omega) (by omega) ?_
              refine x_istore_n (pc := 71) dX2_worstOf_71 (Nat.le_of_ble_eq_true rfl) ?_
              show Ev _ _ _ _ _ [(2, .int (zN (((((wset (H.1 2) (H.1 2 477).toNat j)) ||| ((2 ^ ((wbest (H.1 2) (wset (H.1 2) (H.1 2 477).toNat j) i).toNat))) : Nat) : Int)))), (0, .ref 71), (1, .int (zN ((k : Int)))), (3, .int (zN ((j : Int)))), (4, .int (zN ((if wbest (H.1 2) (wset (H.1 2) (H.1 2 477).toNat j) i = -1 then -1 else phurt (H.1 2) (wbest (H.1 2) (wset (H.1 2) (H.1 2 477).toNat j) i).toNat)))), (5, .int (zN ((((wbest (H.1 2) (wset (H.1 2) (H.1 2 477).toNat j) i).toNat : Nat) : Int)))), (6, .int (zN ((i : Int))))] _ _
              refine z_iinc (pc := 72) dX2_worstOf_72 (List.Mem.tail _ (List.Mem.tail _ (List.Mem.tail _ (List.Mem.head _)))) (Nat.le_of_ble_eq_true rfl) ?_
              show Ev _ _ _ _ _ [(3, .int (zN ((j : Int) + 1))), (2, .int (zN (((((wset (H.1 2) (H.1 2 477).toNat j)) ||| ((2 ^ ((wbest (H.1 2) (wset (H.1 2) (H.1 2 477).toNat j) i).toNat))) : Nat) : Int)))), (0, .ref 71), (1, .int (zN ((k : Int)))), (4, .int (zN ((if wbest (H.1 2) (wset (H.1 2) (H.1 2 477).toNat j) i = -1 then -1 else phurt (H.1 2) (wbest (H.1 2) (wset (H.1 2) (H.1 2 477).toNat j) i).toNat)))), (5, .int (zN ((((wbest (H.1 2) (wset (H.1 2) (H.1 2 477).toNat j) i).toNat : Nat) : Int)))), (6, .int (zN ((i : Int))))] _ _
              refine x_goto (pc := 75) (tgt := 4) dX2_worstOf_75 (by decide) ?_
              refine x_weaken (L1 := [(0, .ref 71), (1, .int (zN ((k : Int)))), (2, .int (zN (((wset (H.1 2) (H.1 2 477).toNat (j + 1) : Nat) : Int)))), (3, .int (zN ((((j + 1) : Nat) : Int))))]) (List.forall_mem_cons.mpr ⟨(List.Mem.tail _ (List.Mem.tail _ (List.Mem.head _))), (List.forall_mem_cons.mpr ⟨(List.Mem.tail _ (List.Mem.tail _ (List.Mem.tail _ (List.Mem.head _)))), (List.forall_mem_cons.mpr ⟨(mem_ci (by rw [ei]; rfl) (List.Mem.tail _ (List.Mem.head _))), (List.forall_mem_cons.mpr ⟨(mem_ci (by omega) (List.Mem.head _)), (fun _ h => absurd h List.not_mem_nil)⟩)⟩)⟩)⟩) ?_
              exact ih4 ((j + 1)) (by omega) (by omega)
            · skip
              have hcr := cross_bd wp (p := i) (by omega)
              refine x_iload_n (pc := 27) dX2_worstOf_27 (List.Mem.tail _ (List.Mem.tail _ (List.Mem.head _))) ?_
              refine x_iload (pc := 28) dX2_worstOf_28 (List.Mem.tail _ (List.Mem.tail _ (List.Mem.tail _ (List.Mem.tail _ (List.Mem.tail _ (List.Mem.tail _ (List.Mem.head _))))))) ?_
              refine z_ishr (pc := 30) (k := i) dX2_worstOf_30 rfl (by omega) (by omega) (by omega) ?_
              refine z_iconst (pc := 31) dX2_worstOf_31 ?_
              refine z_iand1 (pc := 32) dX2_worstOf_32 ?_
              refine z_if_ne (pc := 33) (tgt := 59) dX2_worstOf_33 (by decide) (by omega) (by omega) (fun hb4 => ?_) (fun hb4 => ?_)
              · skip
                refine z_iinc (pc := 59) dX2_worstOf_59 (List.Mem.tail _ (List.Mem.tail _ (List.Mem.tail _ (List.Mem.tail _ (List.Mem.tail _ (List.Mem.tail _ (List.Mem.head _))))))) (Nat.le_of_ble_eq_true rfl) ?_
                show Ev _ _ _ _ _ [(6, .int (zN ((i : Int) + 1))), (0, .ref 71), (1, .int (zN ((k : Int)))), (2, .int (zN (((wset (H.1 2) (H.1 2 477).toNat j : Nat) : Int)))), (3, .int (zN ((j : Int)))), (4, .int (zN ((if wbest (H.1 2) (wset (H.1 2) (H.1 2 477).toNat j) i = -1 then -1 else phurt (H.1 2) (wbest (H.1 2) (wset (H.1 2) (H.1 2 477).toNat j) i).toNat)))), (5, .int (zN ((((wbest (H.1 2) (wset (H.1 2) (H.1 2 477).toNat j) i).toNat : Nat) : Int))))] _ _
                refine x_goto (pc := 62) (tgt := 18) dX2_worstOf_62 (by decide) ?_
                refine x_weaken (L1 := [(0, .ref 71), (1, .int (zN ((k : Int)))), (2, .int (zN (((wset (H.1 2) (H.1 2 477).toNat j : Nat) : Int)))), (3, .int (zN ((j : Int)))), (4, .int (zN ((if wbest (H.1 2) (wset (H.1 2) (H.1 2 477).toNat j) (i + 1) = -1 then -1 else phurt (H.1 2) (wbest (H.1 2) (wset (H.1 2) (H.1 2 477).toNat j) (i + 1)).toNat)))), (5, .int (zN ((((wbest (H.1 2) (wset (H.1 2) (H.1 2 477).toNat j) (i + 1)).toNat : Nat) : Int)))), (6, .int (zN ((((i + 1) : Nat) : Int))))]) (List.forall_mem_cons.mpr ⟨(List.Mem.tail _ (List.Mem.head _)), (List.forall_mem_cons.mpr ⟨(List.Mem.tail _ (List.Mem.tail _ (List.Mem.head _))), (List.forall_mem_cons.mpr ⟨(List.Mem.tail _ (List.Mem.tail _ (List.Mem.tail _ (List.Mem.head _)))), (List.forall_mem_cons.mpr ⟨(List.Mem.tail _ (List.Mem.tail _ (List.Mem.tail _ (List.Mem.tail _ (List.Mem.head _))))), (List.forall_mem_cons.mpr ⟨(mem_ci (by first | rw [show wbest (H.1 2) (wset (H.1 2) (H.1 2 477).toNat j) (i + 1) = (i : Int) from by rw [wbest_s (H.1 2) (wset (H.1 2) (H.1 2 477).toNat j) i (by omega)]; exact if_pos ⟨by omega, by omega⟩, if_neg (by omega), Int.toNat_natCast] | rw [show wbest (H.1 2) (wset (H.1 2) (H.1 2 477).toNat j) (i + 1) = wbest (H.1 2) (wset (H.1 2) (H.1 2 477).toNat j) i from by rw [wbest_s (H.1 2) (wset (H.1 2) (H.1 2 477).toNat j) i (by omega)]; exact if_neg (by omega)]) (List.Mem.tail _ (List.Mem.tail _ (List.Mem.tail _ (List.Mem.tail _ (List.Mem.tail _ (List.Mem.head _))))))), (List.forall_mem_cons.mpr ⟨(mem_ci (by first | rw [show wbest (H.1 2) (wset (H.1 2) (H.1 2 477).toNat j) (i + 1) = (i : Int) from by rw [wbest_s (H.1 2) (wset (H.1 2) (H.1 2 477).toNat j) i (by omega)]; exact if_pos ⟨by omega, by omega⟩, Int.toNat_natCast] | rw [show wbest (H.1 2) (wset (H.1 2) (H.1 2 477).toNat j) (i + 1) = wbest (H.1 2) (wset (H.1 2) (H.1 2 477).toNat j) i from by rw [wbest_s (H.1 2) (wset (H.1 2) (H.1 2 477).toNat j) i (by omega)]; exact if_neg (by omega)]) (List.Mem.tail _ (List.Mem.tail _ (List.Mem.tail _ (List.Mem.tail _ (List.Mem.tail _ (List.Mem.tail _ (List.Mem.head _)))))))), (List.forall_mem_cons.mpr ⟨(mem_ci (by omega) (List.Mem.head _)), (fun _ h => absurd h List.not_mem_nil)⟩)⟩)⟩)⟩)⟩)⟩)⟩) ?_
                exact ih18 ((i + 1)) (by first | assumption | omega) (by omega)
              · skip
                refine x_aload_n (pc := 36) dX2_worstOf_36 (List.Mem.head _) ?_
                refine x_iload (pc := 37) dX2_worstOf_37 (List.Mem.tail _ (List.Mem.tail _ (List.Mem.tail _ (List.Mem.tail _ (List.Mem.tail _ (List.Mem.tail _ (List.Mem.head _))))))) ?_
                refine z_callVip (pc := 39) (i := mX2_hurtAt) (S := []) [.int (zN ((i : Int)))] dX2_worstOf_39 ml_X2_56 ok_X2_hurtAt rfl sh_71 rfl (Or.inl rfl) (Nat.le_of_ble_eq_true rfl) (c_X2_hurtAt (d := d) (p := i) (hp := (by omega)) (ok := ok) (wp := (by first | assumption | omega)) (rp := (by first | assumption | omega))) (fun r5a r5b ok6 => ?_)
                refine x_iload (pc := 42) dX2_worstOf_42 (List.Mem.tail _ (List.Mem.tail _ (List.Mem.tail _ (List.Mem.tail _ (List.Mem.head _))))) ?_
                refine z_icmp_le (pc := 44) (tgt := 59) dX2_worstOf_44 (by decide) (by omega) (by omega) (by omega) (by omega) (fun hb7 => ?_) (fun hb7 => ?_)
                · skip
                  refine z_iinc (pc := 59) dX2_worstOf_59 (List.Mem.tail _ (List.Mem.tail _ (List.Mem.tail _ (List.Mem.tail _ (List.Mem.tail _ (List.Mem.tail _ (List.Mem.head _))))))) (Nat.le_of_ble_eq_true rfl) ?_
                  show Ev _ _ _ _ _ [(6, .int (zN ((i : Int) + 1))), (0, .ref 71), (1, .int (zN ((k : Int)))), (2, .int (zN (((wset (H.1 2) (H.1 2 477).toNat j : Nat) : Int)))), (3, .int (zN ((j : Int)))), (4, .int (zN ((if wbest (H.1 2) (wset (H.1 2) (H.1 2 477).toNat j) i = -1 then -1 else phurt (H.1 2) (wbest (H.1 2) (wset (H.1 2) (H.1 2 477).toNat j) i).toNat)))), (5, .int (zN ((((wbest (H.1 2) (wset (H.1 2) (H.1 2 477).toNat j) i).toNat : Nat) : Int))))] _ _
                  refine x_goto (pc := 62) (tgt := 18) dX2_worstOf_62 (by decide) ?_
                  refine x_weaken (L1 := [(0, .ref 71), (1, .int (zN ((k : Int)))), (2, .int (zN (((wset (H.1 2) (H.1 2 477).toNat j : Nat) : Int)))), (3, .int (zN ((j : Int)))), (4, .int (zN ((if wbest (H.1 2) (wset (H.1 2) (H.1 2 477).toNat j) (i + 1) = -1 then -1 else phurt (H.1 2) (wbest (H.1 2) (wset (H.1 2) (H.1 2 477).toNat j) (i + 1)).toNat)))), (5, .int (zN ((((wbest (H.1 2) (wset (H.1 2) (H.1 2 477).toNat j) (i + 1)).toNat : Nat) : Int)))), (6, .int (zN ((((i + 1) : Nat) : Int))))]) (List.forall_mem_cons.mpr ⟨(List.Mem.tail _ (List.Mem.head _)), (List.forall_mem_cons.mpr ⟨(List.Mem.tail _ (List.Mem.tail _ (List.Mem.head _))), (List.forall_mem_cons.mpr ⟨(List.Mem.tail _ (List.Mem.tail _ (List.Mem.tail _ (List.Mem.head _)))), (List.forall_mem_cons.mpr ⟨(List.Mem.tail _ (List.Mem.tail _ (List.Mem.tail _ (List.Mem.tail _ (List.Mem.head _))))), (List.forall_mem_cons.mpr ⟨(mem_ci (by first | rw [show wbest (H.1 2) (wset (H.1 2) (H.1 2 477).toNat j) (i + 1) = (i : Int) from by rw [wbest_s (H.1 2) (wset (H.1 2) (H.1 2 477).toNat j) i (by omega)]; exact if_pos ⟨by omega, by omega⟩, if_neg (by omega), Int.toNat_natCast] | rw [show wbest (H.1 2) (wset (H.1 2) (H.1 2 477).toNat j) (i + 1) = wbest (H.1 2) (wset (H.1 2) (H.1 2 477).toNat j) i from by rw [wbest_s (H.1 2) (wset (H.1 2) (H.1 2 477).toNat j) i (by omega)]; exact if_neg (by omega)]) (List.Mem.tail _ (List.Mem.tail _ (List.Mem.tail _ (List.Mem.tail _ (List.Mem.tail _ (List.Mem.head _))))))), (List.forall_mem_cons.mpr ⟨(mem_ci (by first | rw [show wbest (H.1 2) (wset (H.1 2) (H.1 2 477).toNat j) (i + 1) = (i : Int) from by rw [wbest_s (H.1 2) (wset (H.1 2) (H.1 2 477).toNat j) i (by omega)]; exact if_pos ⟨by omega, by omega⟩, Int.toNat_natCast] | rw [show wbest (H.1 2) (wset (H.1 2) (H.1 2 477).toNat j) (i + 1) = wbest (H.1 2) (wset (H.1 2) (H.1 2 477).toNat j) i from by rw [wbest_s (H.1 2) (wset (H.1 2) (H.1 2 477).toNat j) i (by omega)]; exact if_neg (by omega)]) (List.Mem.tail _ (List.Mem.tail _ (List.Mem.tail _ (List.Mem.tail _ (List.Mem.tail _ (List.Mem.tail _ (List.Mem.head _)))))))), (List.forall_mem_cons.mpr ⟨(mem_ci (by omega) (List.Mem.head _)), (fun _ h => absurd h List.not_mem_nil)⟩)⟩)⟩)⟩)⟩)⟩)⟩) ?_
                  exact ih18 ((i + 1)) (by first | assumption | omega) (by omega)
                · skip
                  refine x_aload_n (pc := 47) dX2_worstOf_47 (List.Mem.head _) ?_
                  refine x_iload (pc := 48) dX2_worstOf_48 (List.Mem.tail _ (List.Mem.tail _ (List.Mem.tail _ (List.Mem.tail _ (List.Mem.tail _ (List.Mem.tail _ (List.Mem.head _))))))) ?_
                  refine z_callVip (pc := 50) (i := mX2_hurtAt) (S := []) [.int (zN ((i : Int)))] dX2_worstOf_50 ml_X2_56 ok_X2_hurtAt rfl sh_71 rfl (Or.inl rfl) (Nat.le_of_ble_eq_true rfl) (c_X2_hurtAt (d := d) (p := i) (hp := (by omega)) (ok := ok6) (wp := (by first | assumption | omega)) (rp := (by first | assumption | omega))) (fun r8a r8b ok9 => ?_)
                  refine x_istore (pc := 53) dX2_worstOf_53 (Nat.le_of_ble_eq_true rfl) ?_
                  show Ev _ _ _ _ _ [(4, .int (zN ((phurt (H.1 2) i)))), (0, .ref 71), (1, .int (zN ((k : Int)))), (2, .int (zN (((wset (H.1 2) (H.1 2 477).toNat j : Nat) : Int)))), (3, .int (zN ((j : Int)))), (5, .int (zN ((((wbest (H.1 2) (wset (H.1 2) (H.1 2 477).toNat j) i).toNat : Nat) : Int)))), (6, .int (zN ((i : Int))))] _ _
                  refine x_iload (pc := 55) dX2_worstOf_55 (List.Mem.tail _ (List.Mem.tail _ (List.Mem.tail _ (List.Mem.tail _ (List.Mem.tail _ (List.Mem.tail _ (List.Mem.head _))))))) ?_
                  refine x_istore (pc := 57) dX2_worstOf_57 (Nat.le_of_ble_eq_true rfl) ?_
                  show Ev _ _ _ _ _ [(5, .int (zN ((i : Int)))), (4, .int (zN ((phurt (H.1 2) i)))), (0, .ref 71), (1, .int (zN ((k : Int)))), (2, .int (zN (((wset (H.1 2) (H.1 2 477).toNat j : Nat) : Int)))), (3, .int (zN ((j : Int)))), (6, .int (zN ((i : Int))))] _ _
                  refine z_iinc (pc := 59) dX2_worstOf_59 (List.Mem.tail _ (List.Mem.tail _ (List.Mem.tail _ (List.Mem.tail _ (List.Mem.tail _ (List.Mem.tail _ (List.Mem.head _))))))) (Nat.le_of_ble_eq_true rfl) ?_
                  show Ev _ _ _ _ _ [(6, .int (zN ((i : Int) + 1))), (5, .int (zN ((i : Int)))), (4, .int (zN ((phurt (H.1 2) i)))), (0, .ref 71), (1, .int (zN ((k : Int)))), (2, .int (zN (((wset (H.1 2) (H.1 2 477).toNat j : Nat) : Int)))), (3, .int (zN ((j : Int))))] _ _
                  refine x_goto (pc := 62) (tgt := 18) dX2_worstOf_62 (by decide) ?_
                  refine x_weaken (L1 := [(0, .ref 71), (1, .int (zN ((k : Int)))), (2, .int (zN (((wset (H.1 2) (H.1 2 477).toNat j : Nat) : Int)))), (3, .int (zN ((j : Int)))), (4, .int (zN ((if wbest (H.1 2) (wset (H.1 2) (H.1 2 477).toNat j) (i + 1) = -1 then -1 else phurt (H.1 2) (wbest (H.1 2) (wset (H.1 2) (H.1 2 477).toNat j) (i + 1)).toNat)))), (5, .int (zN ((((wbest (H.1 2) (wset (H.1 2) (H.1 2 477).toNat j) (i + 1)).toNat : Nat) : Int)))), (6, .int (zN ((((i + 1) : Nat) : Int))))]) (List.forall_mem_cons.mpr ⟨(List.Mem.tail _ (List.Mem.tail _ (List.Mem.tail _ (List.Mem.head _)))), (List.forall_mem_cons.mpr ⟨(List.Mem.tail _ (List.Mem.tail _ (List.Mem.tail _ (List.Mem.tail _ (List.Mem.head _))))), (List.forall_mem_cons.mpr ⟨(List.Mem.tail _ (List.Mem.tail _ (List.Mem.tail _ (List.Mem.tail _ (List.Mem.tail _ (List.Mem.head _)))))), (List.forall_mem_cons.mpr ⟨(List.Mem.tail _ (List.Mem.tail _ (List.Mem.tail _ (List.Mem.tail _ (List.Mem.tail _ (List.Mem.tail _ (List.Mem.head _))))))), (List.forall_mem_cons.mpr ⟨(mem_ci (by first | rw [show wbest (H.1 2) (wset (H.1 2) (H.1 2 477).toNat j) (i + 1) = (i : Int) from by rw [wbest_s (H.1 2) (wset (H.1 2) (H.1 2 477).toNat j) i (by omega)]; exact if_pos ⟨by omega, by omega⟩, if_neg (by omega), Int.toNat_natCast] | rw [show wbest (H.1 2) (wset (H.1 2) (H.1 2 477).toNat j) (i + 1) = wbest (H.1 2) (wset (H.1 2) (H.1 2 477).toNat j) i from by rw [wbest_s (H.1 2) (wset (H.1 2) (H.1 2 477).toNat j) i (by omega)]; exact if_neg (by omega)]) (List.Mem.tail _ (List.Mem.tail _ (List.Mem.head _)))), (List.forall_mem_cons.mpr ⟨(mem_ci (by first | rw [show wbest (H.1 2) (wset (H.1 2) (H.1 2 477).toNat j) (i + 1) = (i : Int) from by rw [wbest_s (H.1 2) (wset (H.1 2) (H.1 2 477).toNat j) i (by omega)]; exact if_pos ⟨by omega, by omega⟩, Int.toNat_natCast] | rw [show wbest (H.1 2) (wset (H.1 2) (H.1 2 477).toNat j) (i + 1) = wbest (H.1 2) (wset (H.1 2) (H.1 2 477).toNat j) i from by rw [wbest_s (H.1 2) (wset (H.1 2) (H.1 2 477).toNat j) i (by omega)]; exact if_neg (by omega)]) (List.Mem.tail _ (List.Mem.head _))), (List.forall_mem_cons.mpr ⟨(mem_ci (by omega) (List.Mem.head _)), (fun _ h => absurd h List.not_mem_nil)⟩)⟩)⟩)⟩)⟩)⟩)⟩) ?_
                  exact ih18 ((i + 1)) (by first | assumption | omega) (by omega)
        refine x_weaken (L1 := [(0, .ref 71), (1, .int (zN ((k : Int)))), (2, .int (zN (((wset (H.1 2) (H.1 2 477).toNat j : Nat) : Int)))), (3, .int (zN ((j : Int)))), (4, .int (zN ((if wbest (H.1 2) (wset (H.1 2) (H.1 2 477).toNat j) 0 = -1 then -1 else phurt (H.1 2) (wbest (H.1 2) (wset (H.1 2) (H.1 2 477).toNat j) 0).toNat)))), (5, .int (zN ((((wbest (H.1 2) (wset (H.1 2) (H.1 2 477).toNat j) 0).toNat : Nat) : Int)))), (6, .int (zN (((0 : Nat) : Int))))]) (List.forall_mem_cons.mpr ⟨(List.Mem.tail _ (List.Mem.tail _ (List.Mem.tail _ (List.Mem.head _)))), (List.forall_mem_cons.mpr ⟨(List.Mem.tail _ (List.Mem.tail _ (List.Mem.tail _ (List.Mem.tail _ (List.Mem.head _))))), (List.forall_mem_cons.mpr ⟨(List.Mem.tail _ (List.Mem.tail _ (List.Mem.tail _ (List.Mem.tail _ (List.Mem.tail _ (List.Mem.head _)))))), (List.forall_mem_cons.mpr ⟨(List.Mem.tail _ (List.Mem.tail _ (List.Mem.tail _ (List.Mem.tail _ (List.Mem.tail _ (List.Mem.tail _ (List.Mem.head _))))))), (List.forall_mem_cons.mpr ⟨(mem_ci (rfl) (List.Mem.tail _ (List.Mem.tail _ (List.Mem.head _)))), (List.forall_mem_cons.mpr ⟨(mem_ci (rfl) (List.Mem.tail _ (List.Mem.head _))), (List.forall_mem_cons.mpr ⟨(mem_ci (by omega) (List.Mem.head _)), (fun _ h => absurd h List.not_mem_nil)⟩)⟩)⟩)⟩)⟩)⟩)⟩) ?_
        exact lp18 ((H.1 2 477).toNat - 0 + 1) (0) (by first | assumption | omega) (Nat.lt_succ_self _)
  refine x_weaken (L1 := [(0, .ref 71), (1, .int (zN ((k : Int)))), (2, .int (zN (((wset (H.1 2) (H.1 2 477).toNat 0 : Nat) : Int)))), (3, .int (zN (((0 : Nat) : Int))))]) (List.forall_mem_cons.mpr ⟨(List.Mem.tail _ (List.Mem.tail _ (List.Mem.head _))), (List.forall_mem_cons.mpr ⟨(List.Mem.tail _ (List.Mem.tail _ (List.Mem.tail _ (List.Mem.head _)))), (List.forall_mem_cons.mpr ⟨(mem_ci (rfl) (List.Mem.tail _ (List.Mem.head _))), (List.forall_mem_cons.mpr ⟨(mem_ci (by omega) (List.Mem.head _)), (fun _ h => absurd h List.not_mem_nil)⟩)⟩)⟩)⟩) ?_
  exact lp4 (k - 0 + 1) (0) (by omega) (Nat.lt_succ_self _)


def S_place (A : Nat → Int) (old others ho hu : Int) : Int × Nat := if A 477 ≠ 12 then (if ((0 ≤ old ∧ old ≤ 300) ∧ (0 ≤ others ∧ others ≤ 300)) ∧ (0 ≤ ho ∧ ho ≤ old) ∧ (0 ≤ hu ∧ hu ≤ others) then (A 477, 6) else (-3, 1)) else (-5, 2)
def S_behind (A : Nat → Int) (p v : Int) : Int × Nat := if 0 ≤ p ∧ p ≤ A 477 - 1 then (if 0 ≤ v ∧ v ≤ 600 then (A (538 + p.toNat), 6) else (-3, 1)) else (-2, 0)
def S_at (A : Nat → Int) (p what : Int) : Int × Nat := if (0 ≤ p ∧ p ≤ A 477 - 1) ∧ (0 ≤ what ∧ what ≤ 5) then (A (478 + 12 * what.toNat + p.toNat), 6) else (-2, 0)
def rhurt (A : Nat → Int) (w : Int) : Int := psum A 514 w (A 477).toNat + psum A 526 w (A 477).toNat
def rcros (A : Nat → Int) (w : Int) : Int := psum A 490 w (A 477).toNat + psum A 502 w (A 477).toNat
def S_rate (A : Nat → Int) (w what : Int) : Int × Nat := if 0 ≤ what ∧ what ≤ 1 then ((if rcros A w = 0 then what else (if what = 0 then rhurt A w else rcros A w) / ((Int.gcd (rhurt A w) (rcros A w) : Nat) : Int)), 6) else (-2, 0)
def S_parted (A : Nat → Int) : Int := if pab A 1 (A 477).toNat * pbe A 0 (A 477).toNat = pab A 0 (A 477).toNat * pbe A 1 (A 477).toNat then 0 else if pab A 0 (A 477).toNat * pbe A 1 (A 477).toNat < pab A 1 (A 477).toNat * pbe A 0 (A 477).toNat then 1 else 2
def S_worst (A : Nat → Int) (k what : Int) : Int × Nat := if ((0 ≤ k ∧ k ≤ A 477) ∧ (0 ≤ what ∧ what ≤ 3)) ∧ ¬ (2 ≤ what ∧ A 477 < 2 * k) then ((if what = 0 then ((wset A (A 477).toNat k.toNat : Nat) : Int) else if what = 1 then pfal A (wset A (A 477).toNat k.toNat) (A 477).toNat else if what = 2 then pfal A (mtak A (wset A (A 477).toNat k.toNat) (A 477).toNat (A 477).toNat) (A 477).toNat else ((mtak A (wset A (A 477).toNat k.toNat) (A 477).toNat (A 477).toNat : Nat) : Int)), 6) else (-1000000, 0)
def S_measure (m cost left : Int) : Int × Nat := if 0 ≤ m ∧ m ≤ 3 then (if (1 ≤ cost ∧ cost ≤ 99) ∧ (0 ≤ left ∧ left ≤ 100) then (0, 6) else (-3, 1)) else (-2, 0)
theorem mlik_s {A : Nat → Int} (h : WFP A) (b p i : Nat) (hp : p < 12) (hi : i < 12) : mlik A b p (i + 1) = if (b : Int) / 2 ^ i % 2 = 0 ∧ moff A p i < (if (mlik A b p i).1 = -1 then 601 else (mlik A b p i).2) then ((i : Int), moff A p i) else mlik A b p i := by
  have hm := moff_bd h hp hi
  show (if (b : Int) / 2 ^ i % 2 = 0 ∧ ((mlik A b p i).1 = -1 ∨ moff A p i < (mlik A b p i).2) then ((i : Int), moff A p i) else mlik A b p i) = _
  by_cases c : (mlik A b p i).1 = -1
  · rw [if_pos c]
    by_cases d : (b : Int) / 2 ^ i % 2 = 0
    · rw [if_pos ⟨d, Or.inl c⟩, if_pos ⟨d, by omega⟩]
    · rw [if_neg (fun q => d q.1), if_neg (fun q => d q.1)]
  · rw [if_neg c]
    by_cases d : (b : Int) / 2 ^ i % 2 = 0 ∧ moff A p i < (mlik A b p i).2
    · rw [if_pos ⟨d.1, Or.inr d.2⟩, if_pos d]
    · rw [if_neg (fun q => d ⟨q.1, q.2.resolve_left c⟩), if_neg d]
theorem moff_sym (A : Nat → Int) (p q : Nat) : moff A p q = if 0 ≤ phurt A q - phurt A p then phurt A q - phurt A p else 0 - (phurt A q - phurt A p) := by
  unfold moff
  (repeat' split) <;> omega

theorem c_X11_worstOf {d : Nat} {H : ZH} (ok : okZ H) {k : Nat} (hk : (k : Int) ≤ H.1 2 477) (wp : WFP (H.1 2)) : EvC zX (d + 2) mX11_worstOf [.ref 0, .int (zN ((k : Int)))] (eh H) (zPi (fun (rz : Int) (Hz : ZH) => rz = (((wset (H.1 2) (H.1 2 477).toNat k : Nat) : Int)) ∧ Hz = H)) := by
  show _ ∧ Ev zX mX11_worstOf (EvC zX (d + 1)) (zPi (fun (rz : Int) (Hz : ZH) => rz = (((wset (H.1 2) (H.1 2 477).toNat k : Nat) : Int)) ∧ Hz = H)) 0 [(0, .ref 0), (1, .int (zN ((k : Int))))] [] (eh H)
  refine ⟨Nat.le_of_ble_eq_true rfl, ?_⟩
  have wpx := wp
  obtain ⟨wpA, wpB, wpC⟩ := wpx
  refine z_iconst (pc := 0) dX11_worstOf_0 ?_
  refine x_istore_n (pc := 1) dX11_worstOf_1 (Nat.le_of_ble_eq_true rfl) ?_
  show Ev _ _ _ _ _ [(2, .int (zN (0))), (0, .ref 0), (1, .int (zN ((k : Int))))] _ _
  refine z_iconst (pc := 2) dX11_worstOf_2 ?_
  refine x_istore_n (pc := 3) dX11_worstOf_3 (Nat.le_of_ble_eq_true rfl) ?_
  show Ev _ _ _ _ _ [(3, .int (zN (0))), (2, .int (zN (0))), (0, .ref 0), (1, .int (zN ((k : Int))))] _ _
  have lp4 : ∀ (nF : Nat) (j : Nat), (j ≤ k) → k - j < nF → Ev zX mX11_worstOf (EvC zX (d + 1)) (zPi (fun (rz : Int) (Hz : ZH) => rz = (((wset (H.1 2) (H.1 2 477).toNat k : Nat) : Int)) ∧ Hz = H)) 4 [(0, .ref 0), (1, .int (zN ((k : Int)))), (2, .int (zN (((wset (H.1 2) (H.1 2 477).toNat j : Nat) : Int)))), (3, .int (zN ((j : Int))))] [] (eh H) := by
    intro nF
    induction nF with
    | zero => intro j hj hm; exact absurd hm (Nat.not_lt_zero _)
    | succ nF ih4 =>
      intro j hj hm
      have wo := wset_ok (H.1 2) (N := (H.1 2 477).toNat) (by omega) j (by omega)
      refine x_iload_n (pc := 4) dX11_worstOf_4 (List.Mem.tail _ (List.Mem.tail _ (List.Mem.tail _ (List.Mem.head _)))) ?_
      refine x_iload_n (pc := 5) dX11_worstOf_5 (List.Mem.tail _ (List.Mem.head _)) ?_
      refine z_icmp_ge (pc := 6) (tgt := 81) dX11_worstOf_6 (by decide) (by omega) (by omega) (by omega) (by omega) (fun hb1 => ?_) (fun hb1 => ?_)
      · skip
        refine x_iload_n (pc := 81) dX11_worstOf_81 (List.Mem.tail _ (List.Mem.tail _ (List.Mem.head _))) ?_
        refine z_ireturn (pc := 82) dX11_worstOf_82 rfl (Or.inl rfl) ok (by omega) (by omega) ?_
        exact ⟨by rw [show j = k by omega], rfl⟩
      · skip
        refine z_iconst (pc := 9) dX11_worstOf_9 ?_
        refine x_istore (pc := 10) dX11_worstOf_10 (Nat.le_of_ble_eq_true rfl) ?_
        show Ev _ _ _ _ _ [(4, .int (zN ((-1)))), (0, .ref 0), (1, .int (zN ((k : Int)))), (2, .int (zN (((wset (H.1 2) (H.1 2 477).toNat j : Nat) : Int)))), (3, .int (zN ((j : Int))))] _ _
        refine z_iconst (pc := 12) dX11_worstOf_12 ?_
        refine x_istore (pc := 13) dX11_worstOf_13 (Nat.le_of_ble_eq_true rfl) ?_
        show Ev _ _ _ _ _ [(5, .int (zN (0))), (4, .int (zN ((-1)))), (0, .ref 0), (1, .int (zN ((k : Int)))), (2, .int (zN (((wset (H.1 2) (H.1 2 477).toNat j : Nat) : Int)))), (3, .int (zN ((j : Int))))] _ _
        have lp15 : ∀ (nF : Nat) (i : Nat), ((i : Int) ≤ H.1 2 477) → (H.1 2 477).toNat - i < nF → Ev zX mX11_worstOf (EvC zX (d + 1)) (zPi (fun (rz : Int) (Hz : ZH) => rz = (((wset (H.1 2) (H.1 2 477).toNat k : Nat) : Int)) ∧ Hz = H)) 15 [(0, .ref 0), (1, .int (zN ((k : Int)))), (2, .int (zN (((wset (H.1 2) (H.1 2 477).toNat j : Nat) : Int)))), (3, .int (zN ((j : Int)))), (4, .int (zN ((wbest (H.1 2) (wset (H.1 2) (H.1 2 477).toNat j) i)))), (5, .int (zN ((i : Int))))] [] (eh H) := by
          intro nF
          induction nF with
          | zero => intro i hi hm; exact absurd hm (Nat.not_lt_zero _)
          | succ nF ih15 =>
            intro i hi hm
            have wb := wbest_bd (H.1 2) (wset (H.1 2) (H.1 2 477).toNat j) i
            have eb := bit12 (wset (H.1 2) (H.1 2 477).toNat j) wo.1 i
            refine x_iload (pc := 15) dX11_worstOf_15 (List.Mem.tail _ (List.Mem.tail _ (List.Mem.tail _ (List.Mem.tail _ (List.Mem.tail _ (List.Mem.head _)))))) ?_
            refine x_aload_n (pc := 17) dX11_worstOf_17 (List.Mem.head _) ?_
            refine z_getR (pc := 18) (k := 2) (r := 2) dX11_worstOf_18 lf_X11_17 sh_0 rfl rf_0_2 ?_
            refine z_sipush (pc := 21) dX11_worstOf_21 sp_477 ?_
            have rd2 := ok.1 2 477
            refine z_iald (pc := 24) (j := 477) (v := H.1 2 477) dX11_worstOf_24 sh_2 rfl (Nat.le_of_ble_eq_true rfl) (by decide) rfl ?_
            refine z_icmp_ge (pc := 25) (tgt := 68) dX11_worstOf_25 (by decide) (by omega) (by omega) (by omega) (by omega) (fun hb3 => ?_) (fun hb3 => ?_)
            · skip
              have ei : i = (H.1 2 477).toNat := by omega
              have win := wbest_in (H.1 2) (N := (H.1 2 477).toNat) (k := j) (by omega) (by omega)
              have win2 : 0 ≤ wbest (H.1 2) (wset (H.1 2) (H.1 2 477).toNat j) i ∧ wbest (H.1 2) (wset (H.1 2) (H.1 2 477).toNat j) i < (H.1 2 477).toNat := by rw [ei]; exact win
              refine x_iload_n (pc := 68) dX11_worstOf_68 (List.Mem.tail _ (List.Mem.tail _ (List.Mem.head _))) ?_
              refine z_iconst (pc := 69) dX11_worstOf_69 ?_
              refine x_iload (pc := 70) dX11_worstOf_70 (List.Mem.tail _ (List.Mem.tail _ (List.Mem.tail _ (List.Mem.tail _ (List.Mem.head _))))) ?_
              refine z_ishl1 (pc := 72) (k := (wbest (H.1 2) (wset (H.1 2) (H.1 2 477).toNat j) i).toNat) dX11_worstOf_72 (by omega) (by omega) ?_
              refine z_ior (pc := 73) (m := (wset (H.1 2) (H.1 2 477).toNat j)) (n := (2 ^ ((wbest (H.1 2) (wset (H.1 2) (H.1 2 477).toNat j) i).toNat))) dX11_worstOf_73 (by omega) (by omega) ?_
              refine x_istore_n (pc := 74) dX11_worstOf_74 (Nat.le_of_ble_eq_true rfl) ?_
              show Ev _ _ _ _ _ [(2, .int (zN (((((wset (H.1 2) (H.1 2 477).toNat j)) ||| ((2 ^ ((wbest (H.1 2) (wset (H.1 2) (H.1 2 477).toNat j) i).toNat))) : Nat) : Int)))), (0, .ref 0), (1, .int (zN ((k : Int)))), (3, .int (zN ((j : Int)))), (4, .int (zN ((wbest (H.1 2) (wset (H.1 2) (H.1 2 477).toNat j) i)))), (5, .int (zN ((i : Int))))] _ _
              refine z_iinc (pc := 75) dX11_worstOf_75 (List.Mem.tail _ (List.Mem.tail _ (List.Mem.tail _ (List.Mem.head _)))) (Nat.le_of_ble_eq_true rfl) ?_
              show Ev _ _ _ _ _ [(3, .int (zN ((j : Int) + 1))), (2, .int (zN (((((wset (H.1 2) (H.1 2 477).toNat j)) ||| ((2 ^ ((wbest (H.1 2) (wset (H.1 2) (H.1 2 477).toNat j) i).toNat))) : Nat) : Int)))), (0, .ref 0), (1, .int (zN ((k : Int)))), (4, .int (zN ((wbest (H.1 2) (wset (H.1 2) (H.1 2 477).toNat j) i)))), (5, .int (zN ((i : Int))))] _ _
              refine x_goto (pc := 78) (tgt := 4) dX11_worstOf_78 (by decide) ?_
              refine x_weaken (L1 := [(0, .ref 0), (1, .int (zN ((k : Int)))), (2, .int (zN (((wset (H.1 2) (H.1 2 477).toNat (j + 1) : Nat) : Int)))), (3, .int (zN ((((j + 1) : Nat) : Int))))]) (List.forall_mem_cons.mpr ⟨(List.Mem.tail _ (List.Mem.tail _ (List.Mem.head _))), (List.forall_mem_cons.mpr ⟨(List.Mem.tail _ (List.Mem.tail _ (List.Mem.tail _ (List.Mem.head _)))), (List.forall_mem_cons.mpr ⟨(mem_ci (by rw [ei]; rfl) (List.Mem.tail _ (List.Mem.head _))), (List.forall_mem_cons.mpr ⟨(mem_ci (by omega) (List.Mem.head _)), (fun _ h => absurd h List.not_mem_nil)⟩)⟩)⟩)⟩) ?_
              exact ih4 ((j + 1)) (by omega) (by omega)
            · skip
              have hcr := cross_bd wp (p := i) (by omega)
              refine x_iload_n (pc := 28) dX11_worstOf_28 (List.Mem.tail _ (List.Mem.tail _ (List.Mem.head _))) ?_
              refine x_iload (pc := 29) dX11_worstOf_29 (List.Mem.tail _ (List.Mem.tail _ (List.Mem.tail _ (List.Mem.tail _ (List.Mem.tail _ (List.Mem.head _)))))) ?_
              refine z_ishr (pc := 31) (k := i) dX11_worstOf_31 rfl (by omega) (by omega) (by omega) ?_
              refine z_iconst (pc := 32) dX11_worstOf_32 ?_
              refine z_iand1 (pc := 33) dX11_worstOf_33 ?_
              refine z_if_ne (pc := 34) (tgt := 62) dX11_worstOf_34 (by decide) (by omega) (by omega) (fun hb4 => ?_) (fun hb4 => ?_)
              · skip
                refine z_iinc (pc := 62) dX11_worstOf_62 (List.Mem.tail _ (List.Mem.tail _ (List.Mem.tail _ (List.Mem.tail _ (List.Mem.tail _ (List.Mem.head _)))))) (Nat.le_of_ble_eq_true rfl) ?_
                show Ev _ _ _ _ _ [(5, .int (zN ((i : Int) + 1))), (0, .ref 0), (1, .int (zN ((k : Int)))), (2, .int (zN (((wset (H.1 2) (H.1 2 477).toNat j : Nat) : Int)))), (3, .int (zN ((j : Int)))), (4, .int (zN ((wbest (H.1 2) (wset (H.1 2) (H.1 2 477).toNat j) i))))] _ _
                refine x_goto (pc := 65) (tgt := 15) dX11_worstOf_65 (by decide) ?_
                refine x_weaken (L1 := [(0, .ref 0), (1, .int (zN ((k : Int)))), (2, .int (zN (((wset (H.1 2) (H.1 2 477).toNat j : Nat) : Int)))), (3, .int (zN ((j : Int)))), (4, .int (zN ((wbest (H.1 2) (wset (H.1 2) (H.1 2 477).toNat j) (i + 1))))), (5, .int (zN ((((i + 1) : Nat) : Int))))]) (List.forall_mem_cons.mpr ⟨(List.Mem.tail _ (List.Mem.head _)), (List.forall_mem_cons.mpr ⟨(List.Mem.tail _ (List.Mem.tail _ (List.Mem.head _))), (List.forall_mem_cons.mpr ⟨(List.Mem.tail _ (List.Mem.tail _ (List.Mem.tail _ (List.Mem.head _)))), (List.forall_mem_cons.mpr ⟨(List.Mem.tail _ (List.Mem.tail _ (List.Mem.tail _ (List.Mem.tail _ (List.Mem.head _))))), (List.forall_mem_cons.mpr ⟨(mem_ci (by first | exact if_pos ⟨by omega, by first | exact Or.inl (by omega) | exact Or.inr (by omega)⟩ | exact if_neg (fun q => by rcases q.2 with c | c <;> omega)) (List.Mem.tail _ (List.Mem.tail _ (List.Mem.tail _ (List.Mem.tail _ (List.Mem.tail _ (List.Mem.head _))))))), (List.forall_mem_cons.mpr ⟨(mem_ci (by omega) (List.Mem.head _)), (fun _ h => absurd h List.not_mem_nil)⟩)⟩)⟩)⟩)⟩)⟩) ?_
                exact ih15 ((i + 1)) (by first | assumption | omega) (by omega)
              · skip
                refine x_iload (pc := 37) dX11_worstOf_37 (List.Mem.tail _ (List.Mem.tail _ (List.Mem.tail _ (List.Mem.tail _ (List.Mem.head _))))) ?_
                refine z_iconst (pc := 39) dX11_worstOf_39 ?_
                refine z_icmp_eq (pc := 40) (tgt := 58) dX11_worstOf_40 (by decide) (by omega) (by omega) (by decide) (by decide) (fun hb5 => ?_) (fun hb5 => ?_)
                · skip
                  refine x_iload (pc := 58) dX11_worstOf_58 (List.Mem.tail _ (List.Mem.tail _ (List.Mem.tail _ (List.Mem.tail _ (List.Mem.tail _ (List.Mem.head _)))))) ?_
                  refine x_istore (pc := 60) dX11_worstOf_60 (Nat.le_of_ble_eq_true rfl) ?_
                  show Ev _ _ _ _ _ [(4, .int (zN ((i : Int)))), (0, .ref 0), (1, .int (zN ((k : Int)))), (2, .int (zN (((wset (H.1 2) (H.1 2 477).toNat j : Nat) : Int)))), (3, .int (zN ((j : Int)))), (5, .int (zN ((i : Int))))] _ _
                  refine z_iinc (pc := 62) dX11_worstOf_62 (List.Mem.tail _ (List.Mem.tail _ (List.Mem.tail _ (List.Mem.tail _ (List.Mem.tail _ (List.Mem.head _)))))) (Nat.le_of_ble_eq_true rfl) ?_
                  show Ev _ _ _ _ _ [(5, .int (zN ((i : Int) + 1))), (4, .int (zN ((i : Int)))), (0, .ref 0), (1, .int (zN ((k : Int)))), (2, .int (zN (((wset (H.1 2) (H.1 2 477).toNat j : Nat) : Int)))), (3, .int (zN ((j : Int))))] _ _
                  refine x_goto (pc := 65) (tgt := 15) dX11_worstOf_65 (by decide) ?_
                  refine x_weaken (L1 := [(0, .ref 0), (1, .int (zN ((k : Int)))), (2, .int (zN (((wset (H.1 2) (H.1 2 477).toNat j : Nat) : Int)))), (3, .int (zN ((j : Int)))), (4, .int (zN ((wbest (H.1 2) (wset (H.1 2) (H.1 2 477).toNat j) (i + 1))))), (5, .int (zN ((((i + 1) : Nat) : Int))))]) (List.forall_mem_cons.mpr ⟨(List.Mem.tail _ (List.Mem.tail _ (List.Mem.head _))), (List.forall_mem_cons.mpr ⟨(List.Mem.tail _ (List.Mem.tail _ (List.Mem.tail _ (List.Mem.head _)))), (List.forall_mem_cons.mpr ⟨(List.Mem.tail _ (List.Mem.tail _ (List.Mem.tail _ (List.Mem.tail _ (List.Mem.head _))))), (List.forall_mem_cons.mpr ⟨(List.Mem.tail _ (List.Mem.tail _ (List.Mem.tail _ (List.Mem.tail _ (List.Mem.tail _ (List.Mem.head _)))))), (List.forall_mem_cons.mpr ⟨(mem_ci (by first | exact if_pos ⟨by omega, by first | exact Or.inl (by omega) | exact Or.inr (by omega)⟩ | exact if_neg (fun q => by rcases q.2 with c | c <;> omega)) (List.Mem.tail _ (List.Mem.head _))), (List.forall_mem_cons.mpr ⟨(mem_ci (by omega) (List.Mem.head _)), (fun _ h => absurd h List.not_mem_nil)⟩)⟩)⟩)⟩)⟩)⟩) ?_
                  exact ih15 ((i + 1)) (by first | assumption | omega) (by omega)
                · skip
                  have hcr2 := cross_bd wp (p := (wbest (H.1 2) (wset (H.1 2) (H.1 2 477).toNat j) i).toNat) (by omega)
                  refine x_aload_n (pc := 43) dX11_worstOf_43 (List.Mem.head _) ?_
                  refine x_iload (pc := 44) dX11_worstOf_44 (List.Mem.tail _ (List.Mem.tail _ (List.Mem.tail _ (List.Mem.tail _ (List.Mem.tail _ (List.Mem.head _)))))) ?_
                  refine z_callVip (pc := 46) (i := mX11_hurtAt) (S := []) [.int (zN ((i : Int)))] dX11_worstOf_46 ml_X11_331 ok_X11_hurtAt rfl sh_0 rfl (Or.inl rfl) (Nat.le_of_ble_eq_true rfl) (c_X11_hurtAt (d := d) (p := i) (hp := (by omega)) (ok := ok) (wp := (by first | assumption | omega))) (fun r6a r6b ok7 => ?_)
                  refine x_aload_n (pc := 49) dX11_worstOf_49 (List.Mem.head _) ?_
                  refine x_iload (pc := 50) dX11_worstOf_50 (List.Mem.tail _ (List.Mem.tail _ (List.Mem.tail _ (List.Mem.tail _ (List.Mem.head _))))) ?_
                  refine z_callVip (pc := 52) (i := mX11_hurtAt) (S := [.int (zN ((phurt (H.1 2) i)))]) [.int (zN ((wbest (H.1 2) (wset (H.1 2) (H.1 2 477).toNat j) i)))] dX11_worstOf_52 ml_X11_331 ok_X11_hurtAt rfl sh_0 rfl (Or.inl rfl) (Nat.le_of_ble_eq_true rfl) (by have qz := c_X11_hurtAt (d := d) (p := ((wbest (H.1 2) (wset (H.1 2) (H.1 2 477).toNat j) i).toNat)) (hp := (by omega)) (ok := ok7) (wp := (by first | assumption | omega)); rw [show (((wbest (H.1 2) (wset (H.1 2) (H.1 2 477).toNat j) i).toNat : Nat) : Int) = (wbest (H.1 2) (wset (H.1 2) (H.1 2 477).toNat j) i) by omega] at qz; exact qz) (fun r8a r8b ok9 => ?_)
                  refine z_icmp_le (pc := 55) (tgt := 62) dX11_worstOf_55 (by decide) (by omega) (by omega) (by omega) (by omega) (fun hb10 => ?_) (fun hb10 => ?_)
                  · skip
                    refine z_iinc (pc := 62) dX11_worstOf_62 (List.Mem.tail _ (List.Mem.tail _ (List.Mem.tail _ (List.Mem.tail _ (List.Mem.tail _ (List.Mem.head _)))))) (Nat.le_of_ble_eq_true rfl) ?_
                    show Ev _ _ _ _ _ [(5, .int (zN ((i : Int) + 1))), (0, .ref 0), (1, .int (zN ((k : Int)))), (2, .int (zN (((wset (H.1 2) (H.1 2 477).toNat j : Nat) : Int)))), (3, .int (zN ((j : Int)))), (4, .int (zN ((wbest (H.1 2) (wset (H.1 2) (H.1 2 477).toNat j) i))))] _ _
                    refine x_goto (pc := 65) (tgt := 15) dX11_worstOf_65 (by decide) ?_
                    refine x_weaken (L1 := [(0, .ref 0), (1, .int (zN ((k : Int)))), (2, .int (zN (((wset (H.1 2) (H.1 2 477).toNat j : Nat) : Int)))), (3, .int (zN ((j : Int)))), (4, .int (zN ((wbest (H.1 2) (wset (H.1 2) (H.1 2 477).toNat j) (i + 1))))), (5, .int (zN ((((i + 1) : Nat) : Int))))]) (List.forall_mem_cons.mpr ⟨(List.Mem.tail _ (List.Mem.head _)), (List.forall_mem_cons.mpr ⟨(List.Mem.tail _ (List.Mem.tail _ (List.Mem.head _))), (List.forall_mem_cons.mpr ⟨(List.Mem.tail _ (List.Mem.tail _ (List.Mem.tail _ (List.Mem.head _)))), (List.forall_mem_cons.mpr ⟨(List.Mem.tail _ (List.Mem.tail _ (List.Mem.tail _ (List.Mem.tail _ (List.Mem.head _))))), (List.forall_mem_cons.mpr ⟨(mem_ci (by first | exact if_pos ⟨by omega, by first | exact Or.inl (by omega) | exact Or.inr (by omega)⟩ | exact if_neg (fun q => by rcases q.2 with c | c <;> omega)) (List.Mem.tail _ (List.Mem.tail _ (List.Mem.tail _ (List.Mem.tail _ (List.Mem.tail _ (List.Mem.head _))))))), (List.forall_mem_cons.mpr ⟨(mem_ci (by omega) (List.Mem.head _)), (fun _ h => absurd h List.not_mem_nil)⟩)⟩)⟩)⟩)⟩)⟩) ?_
                    exact ih15 ((i + 1)) (by first | assumption | omega) (by omega)
                  · skip
                    refine x_iload (pc := 58) dX11_worstOf_58 (List.Mem.tail _ (List.Mem.tail _ (List.Mem.tail _ (List.Mem.tail _ (List.Mem.tail _ (List.Mem.head _)))))) ?_
                    refine x_istore (pc := 60) dX11_worstOf_60 (Nat.le_of_ble_eq_true rfl) ?_
                    show Ev _ _ _ _ _ [(4, .int (zN ((i : Int)))), (0, .ref 0), (1, .int (zN ((k : Int)))), (2, .int (zN (((wset (H.1 2) (H.1 2 477).toNat j : Nat) : Int)))), (3, .int (zN ((j : Int)))), (5, .int (zN ((i : Int))))] _ _
                    refine z_iinc (pc := 62) dX11_worstOf_62 (List.Mem.tail _ (List.Mem.tail _ (List.Mem.tail _ (List.Mem.tail _ (List.Mem.tail _ (List.Mem.head _)))))) (Nat.le_of_ble_eq_true rfl) ?_
                    show Ev _ _ _ _ _ [(5, .int (zN ((i : Int) + 1))), (4, .int (zN ((i : Int)))), (0, .ref 0), (1, .int (zN ((k : Int)))), (2, .int (zN (((wset (H.1 2) (H.1 2 477).toNat j : Nat) : Int)))), (3, .int (zN ((j : Int))))] _ _
                    refine x_goto (pc := 65) (tgt := 15) dX11_worstOf_65 (by decide) ?_
                    refine x_weaken (L1 := [(0, .ref 0), (1, .int (zN ((k : Int)))), (2, .int (zN (((wset (H.1 2) (H.1 2 477).toNat j : Nat) : Int)))), (3, .int (zN ((j : Int)))), (4, .int (zN ((wbest (H.1 2) (wset (H.1 2) (H.1 2 477).toNat j) (i + 1))))), (5, .int (zN ((((i + 1) : Nat) : Int))))]) (List.forall_mem_cons.mpr ⟨(List.Mem.tail _ (List.Mem.tail _ (List.Mem.head _))), (List.forall_mem_cons.mpr ⟨(List.Mem.tail _ (List.Mem.tail _ (List.Mem.tail _ (List.Mem.head _)))), (List.forall_mem_cons.mpr ⟨(List.Mem.tail _ (List.Mem.tail _ (List.Mem.tail _ (List.Mem.tail _ (List.Mem.head _))))), (List.forall_mem_cons.mpr ⟨(List.Mem.tail _ (List.Mem.tail _ (List.Mem.tail _ (List.Mem.tail _ (List.Mem.tail _ (List.Mem.head _)))))), (List.forall_mem_cons.mpr ⟨(mem_ci (by first | exact if_pos ⟨by omega, by first | exact Or.inl (by omega) | exact Or.inr (by omega)⟩ | exact if_neg (fun q => by rcases q.2 with c | c <;> omega)) (List.Mem.tail _ (List.Mem.head _))), (List.forall_mem_cons.mpr ⟨(mem_ci (by omega) (List.Mem.head _)), (fun _ h => absurd h List.not_mem_nil)⟩)⟩)⟩)⟩)⟩)⟩) ?_
                    exact ih15 ((i + 1)) (by first | assumption | omega) (by omega)
        refine x_weaken (L1 := [(0, .ref 0), (1, .int (zN ((k : Int)))), (2, .int (zN (((wset (H.1 2) (H.1 2 477).toNat j : Nat) : Int)))), (3, .int (zN ((j : Int)))), (4, .int (zN ((wbest (H.1 2) (wset (H.1 2) (H.1 2 477).toNat j) 0)))), (5, .int (zN (((0 : Nat) : Int))))]) (List.forall_mem_cons.mpr ⟨(List.Mem.tail _ (List.Mem.tail _ (List.Mem.head _))), (List.forall_mem_cons.mpr ⟨(List.Mem.tail _ (List.Mem.tail _ (List.Mem.tail _ (List.Mem.head _)))), (List.forall_mem_cons.mpr ⟨(List.Mem.tail _ (List.Mem.tail _ (List.Mem.tail _ (List.Mem.tail _ (List.Mem.head _))))), (List.forall_mem_cons.mpr ⟨(List.Mem.tail _ (List.Mem.tail _ (List.Mem.tail _ (List.Mem.tail _ (List.Mem.tail _ (List.Mem.head _)))))), (List.forall_mem_cons.mpr ⟨(mem_ci (rfl) (List.Mem.tail _ (List.Mem.head _))), (List.forall_mem_cons.mpr ⟨(mem_ci (by omega) (List.Mem.head _)), (fun _ h => absurd h List.not_mem_nil)⟩)⟩)⟩)⟩)⟩)⟩) ?_
        exact lp15 ((H.1 2 477).toNat - 0 + 1) (0) (by first | assumption | omega) (Nat.lt_succ_self _)
  refine x_weaken (L1 := [(0, .ref 0), (1, .int (zN ((k : Int)))), (2, .int (zN (((wset (H.1 2) (H.1 2 477).toNat 0 : Nat) : Int)))), (3, .int (zN (((0 : Nat) : Int))))]) (List.forall_mem_cons.mpr ⟨(List.Mem.tail _ (List.Mem.tail _ (List.Mem.head _))), (List.forall_mem_cons.mpr ⟨(List.Mem.tail _ (List.Mem.tail _ (List.Mem.tail _ (List.Mem.head _)))), (List.forall_mem_cons.mpr ⟨(mem_ci (rfl) (List.Mem.tail _ (List.Mem.head _))), (List.forall_mem_cons.mpr ⟨(mem_ci (by omega) (List.Mem.head _)), (fun _ h => absurd h List.not_mem_nil)⟩)⟩)⟩)⟩) ?_
  exact lp4 (k - 0 + 1) (0) (by omega) (Nat.lt_succ_self _)

theorem c_X2_likest {d : Nat} {H : ZH} (ok : okZ H) {p b : Nat} (hp : p < 12) (hb : b < 4096) (wp : WFP (H.1 2)) (rp : RepP H) : EvC zX (d + 2) mX2_likest [.ref 71, .int (zN ((p : Int))), .int (zN ((b : Int)))] (eh H) (zPi (fun (rz : Int) (Hz : ZH) => rz = ((((mlik (H.1 2) b p (H.1 2 477).toNat).1.toNat : Nat) : Int)) ∧ Hz = H)) := by
  show _ ∧ Ev zX mX2_likest (EvC zX (d + 1)) (zPi (fun (rz : Int) (Hz : ZH) => rz = ((((mlik (H.1 2) b p (H.1 2 477).toNat).1.toNat : Nat) : Int)) ∧ Hz = H)) 0 [(0, .ref 71), (1, .int (zN ((p : Int)))), (2, .int (zN ((b : Int))))] [] (eh H)
  refine ⟨Nat.le_of_ble_eq_true rfl, ?_⟩
  have wpx := wp
  obtain ⟨wpA, wpB, wpC⟩ := wpx
  have rpx := rp
  obtain ⟨rpA, rpB, rpC⟩ := rpx
  have hcp := cross_bd wp hp
  refine z_sipush (pc := 0) dX2_likest_0 sp_601 ?_
  refine x_istore_n (pc := 3) dX2_likest_3 (Nat.le_of_ble_eq_true rfl) ?_
  show Ev _ _ _ _ _ [(3, .int (zN (601))), (0, .ref 71), (1, .int (zN ((p : Int)))), (2, .int (zN ((b : Int))))] _ _
  refine z_iconst (pc := 4) dX2_likest_4 ?_
  refine x_istore (pc := 5) dX2_likest_5 (Nat.le_of_ble_eq_true rfl) ?_
  show Ev _ _ _ _ _ [(4, .int (zN (0))), (3, .int (zN (601))), (0, .ref 71), (1, .int (zN ((p : Int)))), (2, .int (zN ((b : Int))))] _ _
  refine z_iconst (pc := 7) dX2_likest_7 ?_
  refine x_istore (pc := 8) dX2_likest_8 (Nat.le_of_ble_eq_true rfl) ?_
  show Ev _ _ _ _ _ [(5, .int (zN (0))), (4, .int (zN (0))), (3, .int (zN (601))), (0, .ref 71), (1, .int (zN ((p : Int)))), (2, .int (zN ((b : Int))))] _ _
  have lp10 : ∀ (nF : Nat) (i : Nat), ((i : Int) ≤ H.1 2 477) → (H.1 2 477).toNat - i < nF → Ev zX mX2_likest (EvC zX (d + 1)) (zPi (fun (rz : Int) (Hz : ZH) => rz = ((((mlik (H.1 2) b p (H.1 2 477).toNat).1.toNat : Nat) : Int)) ∧ Hz = H)) 10 [(0, .ref 71), (1, .int (zN ((p : Int)))), (2, .int (zN ((b : Int)))), (3, .int (zN ((if (mlik (H.1 2) b p i).1 = -1 then 601 else (mlik (H.1 2) b p i).2)))), (4, .int (zN ((((mlik (H.1 2) b p i).1.toNat : Nat) : Int)))), (5, .int (zN ((i : Int))))] [] (eh H) := by
    intro nF
    induction nF with
    | zero => intro i hi hm; exact absurd hm (Nat.not_lt_zero _)
    | succ nF ih10 =>
      intro i hi hm
      have mb := mlik_bd (H.1 2) b p i
      have m2 := mlik_bd2 wp (b := b) (p := p) (n := i) hp (by omega)
      have eb := bit12 b hb i
      have m3 : 0 ≤ (if (mlik (H.1 2) b p i).1 = -1 then 601 else (mlik (H.1 2) b p i).2) ∧ (if (mlik (H.1 2) b p i).1 = -1 then 601 else (mlik (H.1 2) b p i).2) ≤ 601 := by split <;> omega
      refine x_iload (pc := 10) dX2_likest_10 (List.Mem.tail _ (List.Mem.tail _ (List.Mem.tail _ (List.Mem.tail _ (List.Mem.tail _ (List.Mem.head _)))))) ?_
      refine x_aload_n (pc := 12) dX2_likest_12 (List.Mem.head _) ?_
      have rd1 := ok.1 71 0
      refine z_getI (pc := 13) (k := 0) (v := H.1 71 0) dX2_likest_13 lf_X2_36 sh_71 rfl rfl ?_
      refine z_icmp_ge (pc := 16) (tgt := 64) dX2_likest_16 (by decide) (by omega) (by omega) (by omega) (by omega) (fun hb2 => ?_) (fun hb2 => ?_)
      · skip
        refine x_iload (pc := 64) dX2_likest_64 (List.Mem.tail _ (List.Mem.tail _ (List.Mem.tail _ (List.Mem.tail _ (List.Mem.head _))))) ?_
        refine z_ireturn (pc := 66) dX2_likest_66 rfl (Or.inl rfl) ok (by omega) (by omega) ?_
        exact ⟨by rw [show i = (H.1 2 477).toNat by omega], rfl⟩
      · skip
        have hcr := cross_bd wp (p := i) (by omega)
        refine x_aload_n (pc := 19) dX2_likest_19 (List.Mem.head _) ?_
        refine x_iload (pc := 20) dX2_likest_20 (List.Mem.tail _ (List.Mem.tail _ (List.Mem.tail _ (List.Mem.tail _ (List.Mem.tail _ (List.Mem.head _)))))) ?_
        refine z_callVip (pc := 22) (i := mX2_hurtAt) (S := []) [.int (zN ((i : Int)))] dX2_likest_22 ml_X2_56 ok_X2_hurtAt rfl sh_71 rfl (Or.inl rfl) (Nat.le_of_ble_eq_true rfl) (c_X2_hurtAt (d := d) (p := i) (hp := (by omega)) (ok := ok) (wp := (by first | assumption | omega)) (rp := (by first | assumption | omega))) (fun r3a r3b ok4 => ?_)
        refine x_aload_n (pc := 25) dX2_likest_25 (List.Mem.head _) ?_
        refine x_iload_n (pc := 26) dX2_likest_26 (List.Mem.tail _ (List.Mem.head _)) ?_
        refine z_callVip (pc := 27) (i := mX2_hurtAt) (S := [.int (zN ((phurt (H.1 2) i)))]) [.int (zN ((p : Int)))] dX2_likest_27 ml_X2_56 ok_X2_hurtAt rfl sh_71 rfl (Or.inl rfl) (Nat.le_of_ble_eq_true rfl) (c_X2_hurtAt (d := d) (p := p) (hp := (by omega)) (ok := ok4) (wp := (by first | assumption | omega)) (rp := (by first | assumption | omega))) (fun r5a r5b ok6 => ?_)
        refine z_isub (pc := 30) dX2_likest_30 ?_
        refine z_mabs (pc := 31) dX2_likest_31 ml_X2_63 (Nat.le_of_ble_eq_true rfl) (by omega) (by omega) ?_
        refine x_istore (pc := 34) dX2_likest_34 (Nat.le_of_ble_eq_true rfl) ?_
        show Ev _ _ _ _ _ [(6, .int (zN ((if 0 ≤ ((phurt (H.1 2) i) - (phurt (H.1 2) p)) then ((phurt (H.1 2) i) - (phurt (H.1 2) p)) else 0 - ((phurt (H.1 2) i) - (phurt (H.1 2) p)))))), (0, .ref 71), (1, .int (zN ((p : Int)))), (2, .int (zN ((b : Int)))), (3, .int (zN ((if (mlik (H.1 2) b p i).1 = -1 then 601 else (mlik (H.1 2) b p i).2)))), (4, .int (zN ((((mlik (H.1 2) b p i).1.toNat : Nat) : Int)))), (5, .int (zN ((i : Int))))] _ _
        refine x_iload_n (pc := 36) dX2_likest_36 (List.Mem.tail _ (List.Mem.tail _ (List.Mem.tail _ (List.Mem.head _)))) ?_
        refine x_iload (pc := 37) dX2_likest_37 (List.Mem.tail _ (List.Mem.tail _ (List.Mem.tail _ (List.Mem.tail _ (List.Mem.tail _ (List.Mem.tail _ (List.Mem.head _))))))) ?_
        refine z_ishr (pc := 39) (k := i) dX2_likest_39 rfl (by omega) (by omega) (by omega) ?_
        refine z_iconst (pc := 40) dX2_likest_40 ?_
        refine z_iand1 (pc := 41) dX2_likest_41 ?_
        refine z_if_ne (pc := 42) (tgt := 58) dX2_likest_42 (by decide) (by omega) (by omega) (fun hb7 => ?_) (fun hb7 => ?_)
        · skip
          refine z_iinc (pc := 58) dX2_likest_58 (List.Mem.tail _ (List.Mem.tail _ (List.Mem.tail _ (List.Mem.tail _ (List.Mem.tail _ (List.Mem.tail _ (List.Mem.head _))))))) (Nat.le_of_ble_eq_true rfl) ?_
          show Ev _ _ _ _ _ [(5, .int (zN ((i : Int) + 1))), (6, .int (zN ((if 0 ≤ ((phurt (H.1 2) i) - (phurt (H.1 2) p)) then ((phurt (H.1 2) i) - (phurt (H.1 2) p)) else 0 - ((phurt (H.1 2) i) - (phurt (H.1 2) p)))))), (0, .ref 71), (1, .int (zN ((p : Int)))), (2, .int (zN ((b : Int)))), (3, .int (zN ((if (mlik (H.1 2) b p i).1 = -1 then 601 else (mlik (H.1 2) b p i).2)))), (4, .int (zN ((((mlik (H.1 2) b p i).1.toNat : Nat) : Int))))] _ _
          refine x_goto (pc := 61) (tgt := 10) dX2_likest_61 (by decide) ?_
          refine x_weaken (L1 := [(0, .ref 71), (1, .int (zN ((p : Int)))), (2, .int (zN ((b : Int)))), (3, .int (zN ((if (mlik (H.1 2) b p (i + 1)).1 = -1 then 601 else (mlik (H.1 2) b p (i + 1)).2)))), (4, .int (zN ((((mlik (H.1 2) b p (i + 1)).1.toNat : Nat) : Int)))), (5, .int (zN ((((i + 1) : Nat) : Int))))]) (List.forall_mem_cons.mpr ⟨(List.Mem.tail _ (List.Mem.tail _ (List.Mem.head _))), (List.forall_mem_cons.mpr ⟨(List.Mem.tail _ (List.Mem.tail _ (List.Mem.tail _ (List.Mem.head _)))), (List.forall_mem_cons.mpr ⟨(List.Mem.tail _ (List.Mem.tail _ (List.Mem.tail _ (List.Mem.tail _ (List.Mem.head _))))), (List.forall_mem_cons.mpr ⟨(mem_ci (by first | rw [show mlik (H.1 2) b p (i + 1) = ((i : Int), moff (H.1 2) p i) from by rw [mlik_s wp b p i hp (by omega)]; exact if_pos ⟨by omega, by rw [moff_sym]; omega⟩, if_neg (by dsimp only; omega), moff_sym] | rw [show mlik (H.1 2) b p (i + 1) = mlik (H.1 2) b p i from by rw [mlik_s wp b p i hp (by omega)]; exact if_neg (by rw [moff_sym]; omega)]) (List.Mem.tail _ (List.Mem.tail _ (List.Mem.tail _ (List.Mem.tail _ (List.Mem.tail _ (List.Mem.head _))))))), (List.forall_mem_cons.mpr ⟨(mem_ci (by first | rw [show mlik (H.1 2) b p (i + 1) = ((i : Int), moff (H.1 2) p i) from by rw [mlik_s wp b p i hp (by omega)]; exact if_pos ⟨by omega, by rw [moff_sym]; omega⟩, Int.toNat_natCast] | rw [show mlik (H.1 2) b p (i + 1) = mlik (H.1 2) b p i from by rw [mlik_s wp b p i hp (by omega)]; exact if_neg (by rw [moff_sym]; omega)]) (List.Mem.tail _ (List.Mem.tail _ (List.Mem.tail _ (List.Mem.tail _ (List.Mem.tail _ (List.Mem.tail _ (List.Mem.head _)))))))), (List.forall_mem_cons.mpr ⟨(mem_ci (by omega) (List.Mem.head _)), (fun _ h => absurd h List.not_mem_nil)⟩)⟩)⟩)⟩)⟩)⟩) ?_
          exact ih10 ((i + 1)) (by first | assumption | omega) (by omega)
        · skip
          refine x_iload (pc := 45) dX2_likest_45 (List.Mem.head _) ?_
          refine x_iload_n (pc := 47) dX2_likest_47 (List.Mem.tail _ (List.Mem.tail _ (List.Mem.tail _ (List.Mem.tail _ (List.Mem.head _))))) ?_
          refine z_icmp_ge (pc := 48) (tgt := 58) dX2_likest_48 (by decide) (by omega) (by omega) (by omega) (by omega) (fun hb8 => ?_) (fun hb8 => ?_)
          · skip
            refine z_iinc (pc := 58) dX2_likest_58 (List.Mem.tail _ (List.Mem.tail _ (List.Mem.tail _ (List.Mem.tail _ (List.Mem.tail _ (List.Mem.tail _ (List.Mem.head _))))))) (Nat.le_of_ble_eq_true rfl) ?_
            show Ev _ _ _ _ _ [(5, .int (zN ((i : Int) + 1))), (6, .int (zN ((if 0 ≤ ((phurt (H.1 2) i) - (phurt (H.1 2) p)) then ((phurt (H.1 2) i) - (phurt (H.1 2) p)) else 0 - ((phurt (H.1 2) i) - (phurt (H.1 2) p)))))), (0, .ref 71), (1, .int (zN ((p : Int)))), (2, .int (zN ((b : Int)))), (3, .int (zN ((if (mlik (H.1 2) b p i).1 = -1 then 601 else (mlik (H.1 2) b p i).2)))), (4, .int (zN ((((mlik (H.1 2) b p i).1.toNat : Nat) : Int))))] _ _
            refine x_goto (pc := 61) (tgt := 10) dX2_likest_61 (by decide) ?_
            refine x_weaken (L1 := [(0, .ref 71), (1, .int (zN ((p : Int)))), (2, .int (zN ((b : Int)))), (3, .int (zN ((if (mlik (H.1 2) b p (i + 1)).1 = -1 then 601 else (mlik (H.1 2) b p (i + 1)).2)))), (4, .int (zN ((((mlik (H.1 2) b p (i + 1)).1.toNat : Nat) : Int)))), (5, .int (zN ((((i + 1) : Nat) : Int))))]) (List.forall_mem_cons.mpr ⟨(List.Mem.tail _ (List.Mem.tail _ (List.Mem.head _))), (List.forall_mem_cons.mpr ⟨(List.Mem.tail _ (List.Mem.tail _ (List.Mem.tail _ (List.Mem.head _)))), (List.forall_mem_cons.mpr ⟨(List.Mem.tail _ (List.Mem.tail _ (List.Mem.tail _ (List.Mem.tail _ (List.Mem.head _))))), (List.forall_mem_cons.mpr ⟨(mem_ci (by first | rw [show mlik (H.1 2) b p (i + 1) = ((i : Int), moff (H.1 2) p i) from by rw [mlik_s wp b p i hp (by omega)]; exact if_pos ⟨by omega, by rw [moff_sym]; omega⟩, if_neg (by dsimp only; omega), moff_sym] | rw [show mlik (H.1 2) b p (i + 1) = mlik (H.1 2) b p i from by rw [mlik_s wp b p i hp (by omega)]; exact if_neg (by rw [moff_sym]; omega)]) (List.Mem.tail _ (List.Mem.tail _ (List.Mem.tail _ (List.Mem.tail _ (List.Mem.tail _ (List.Mem.head _))))))), (List.forall_mem_cons.mpr ⟨(mem_ci (by first | rw [show mlik (H.1 2) b p (i + 1) = ((i : Int), moff (H.1 2) p i) from by rw [mlik_s wp b p i hp (by omega)]; exact if_pos ⟨by omega, by rw [moff_sym]; omega⟩, Int.toNat_natCast] | rw [show mlik (H.1 2) b p (i + 1) = mlik (H.1 2) b p i from by rw [mlik_s wp b p i hp (by omega)]; exact if_neg (by rw [moff_sym]; omega)]) (List.Mem.tail _ (List.Mem.tail _ (List.Mem.tail _ (List.Mem.tail _ (List.Mem.tail _ (List.Mem.tail _ (List.Mem.head _)))))))), (List.forall_mem_cons.mpr ⟨(mem_ci (by omega) (List.Mem.head _)), (fun _ h => absurd h List.not_mem_nil)⟩)⟩)⟩)⟩)⟩)⟩) ?_
            exact ih10 ((i + 1)) (by first | assumption | omega) (by omega)
          · skip
            refine x_iload (pc := 51) dX2_likest_51 (List.Mem.head _) ?_
            refine x_istore_n (pc := 53) dX2_likest_53 (Nat.le_of_ble_eq_true rfl) ?_
            show Ev _ _ _ _ _ [(3, .int (zN ((if 0 ≤ ((phurt (H.1 2) i) - (phurt (H.1 2) p)) then ((phurt (H.1 2) i) - (phurt (H.1 2) p)) else 0 - ((phurt (H.1 2) i) - (phurt (H.1 2) p)))))), (6, .int (zN ((if 0 ≤ ((phurt (H.1 2) i) - (phurt (H.1 2) p)) then ((phurt (H.1 2) i) - (phurt (H.1 2) p)) else 0 - ((phurt (H.1 2) i) - (phurt (H.1 2) p)))))), (0, .ref 71), (1, .int (zN ((p : Int)))), (2, .int (zN ((b : Int)))), (4, .int (zN ((((mlik (H.1 2) b p i).1.toNat : Nat) : Int)))), (5, .int (zN ((i : Int))))] _ _
            refine x_iload (pc := 54) dX2_likest_54 (List.Mem.tail _ (List.Mem.tail _ (List.Mem.tail _ (List.Mem.tail _ (List.Mem.tail _ (List.Mem.tail _ (List.Mem.head _))))))) ?_
            refine x_istore (pc := 56) dX2_likest_56 (Nat.le_of_ble_eq_true rfl) ?_
            show Ev _ _ _ _ _ [(4, .int (zN ((i : Int)))), (3, .int (zN ((if 0 ≤ ((phurt (H.1 2) i) - (phurt (H.1 2) p)) then ((phurt (H.1 2) i) - (phurt (H.1 2) p)) else 0 - ((phurt (H.1 2) i) - (phurt (H.1 2) p)))))), (6, .int (zN ((if 0 ≤ ((phurt (H.1 2) i) - (phurt (H.1 2) p)) then ((phurt (H.1 2) i) - (phurt (H.1 2) p)) else 0 - ((phurt (H.1 2) i) - (phurt (H.1 2) p)))))), (0, .ref 71), (1, .int (zN ((p : Int)))), (2, .int (zN ((b : Int)))), (5, .int (zN ((i : Int))))] _ _
            refine z_iinc (pc := 58) dX2_likest_58 (List.Mem.tail _ (List.Mem.tail _ (List.Mem.tail _ (List.Mem.tail _ (List.Mem.tail _ (List.Mem.tail _ (List.Mem.head _))))))) (Nat.le_of_ble_eq_true rfl) ?_
            show Ev _ _ _ _ _ [(5, .int (zN ((i : Int) + 1))), (4, .int (zN ((i : Int)))), (3, .int (zN ((if 0 ≤ ((phurt (H.1 2) i) - (phurt (H.1 2) p)) then ((phurt (H.1 2) i) - (phurt (H.1 2) p)) else 0 - ((phurt (H.1 2) i) - (phurt (H.1 2) p)))))), (6, .int (zN ((if 0 ≤ ((phurt (H.1 2) i) - (phurt (H.1 2) p)) then ((phurt (H.1 2) i) - (phurt (H.1 2) p)) else 0 - ((phurt (H.1 2) i) - (phurt (H.1 2) p)))))), (0, .ref 71), (1, .int (zN ((p : Int)))), (2, .int (zN ((b : Int))))] _ _
            refine x_goto (pc := 61) (tgt := 10) dX2_likest_61 (by decide) ?_
            refine x_weaken (L1 := [(0, .ref 71), (1, .int (zN ((p : Int)))), (2, .int (zN ((b : Int)))), (3, .int (zN ((if (mlik (H.1 2) b p (i + 1)).1 = -1 then 601 else (mlik (H.1 2) b p (i + 1)).2)))), (4, .int (zN ((((mlik (H.1 2) b p (i + 1)).1.toNat : Nat) : Int)))), (5, .int (zN ((((i + 1) : Nat) : Int))))]) (List.forall_mem_cons.mpr ⟨(List.Mem.tail _ (List.Mem.tail _ (List.Mem.tail _ (List.Mem.tail _ (List.Mem.head _))))), (List.forall_mem_cons.mpr ⟨(List.Mem.tail _ (List.Mem.tail _ (List.Mem.tail _ (List.Mem.tail _ (List.Mem.tail _ (List.Mem.head _)))))), (List.forall_mem_cons.mpr ⟨(List.Mem.tail _ (List.Mem.tail _ (List.Mem.tail _ (List.Mem.tail _ (List.Mem.tail _ (List.Mem.tail _ (List.Mem.head _))))))), (List.forall_mem_cons.mpr ⟨(mem_ci (by first | rw [show mlik (H.1 2) b p (i + 1) = ((i : Int), moff (H.1 2) p i) from by rw [mlik_s wp b p i hp (by omega)]; exact if_pos ⟨by omega, by rw [moff_sym]; omega⟩, if_neg (by dsimp only; omega), moff_sym] | rw [show mlik (H.1 2) b p (i + 1) = mlik (H.1 2) b p i from by rw [mlik_s wp b p i hp (by omega)]; exact if_neg (by rw [moff_sym]; omega)]) (List.Mem.tail _ (List.Mem.tail _ (List.Mem.head _)))), (List.forall_mem_cons.mpr ⟨(mem_ci (by first | rw [show mlik (H.1 2) b p (i + 1) = ((i : Int), moff (H.1 2) p i) from by rw [mlik_s wp b p i hp (by omega)]; exact if_pos ⟨by omega, by rw [moff_sym]; omega⟩, Int.toNat_natCast] | rw [show mlik (H.1 2) b p (i + 1) = mlik (H.1 2) b p i from by rw [mlik_s wp b p i hp (by omega)]; exact if_neg (by rw [moff_sym]; omega)]) (List.Mem.tail _ (List.Mem.head _))), (List.forall_mem_cons.mpr ⟨(mem_ci (by omega) (List.Mem.head _)), (fun _ h => absurd h List.not_mem_nil)⟩)⟩)⟩)⟩)⟩)⟩) ?_
            exact ih10 ((i + 1)) (by first | assumption | omega) (by omega)
  refine x_weaken (L1 := [(0, .ref 71), (1, .int (zN ((p : Int)))), (2, .int (zN ((b : Int)))), (3, .int (zN ((if (mlik (H.1 2) b p 0).1 = -1 then 601 else (mlik (H.1 2) b p 0).2)))), (4, .int (zN ((((mlik (H.1 2) b p 0).1.toNat : Nat) : Int)))), (5, .int (zN (((0 : Nat) : Int))))]) (List.forall_mem_cons.mpr ⟨(List.Mem.tail _ (List.Mem.tail _ (List.Mem.tail _ (List.Mem.head _)))), (List.forall_mem_cons.mpr ⟨(List.Mem.tail _ (List.Mem.tail _ (List.Mem.tail _ (List.Mem.tail _ (List.Mem.head _))))), (List.forall_mem_cons.mpr ⟨(List.Mem.tail _ (List.Mem.tail _ (List.Mem.tail _ (List.Mem.tail _ (List.Mem.tail _ (List.Mem.head _)))))), (List.forall_mem_cons.mpr ⟨(mem_ci (rfl) (List.Mem.tail _ (List.Mem.tail _ (List.Mem.head _)))), (List.forall_mem_cons.mpr ⟨(mem_ci (rfl) (List.Mem.tail _ (List.Mem.head _))), (List.forall_mem_cons.mpr ⟨(mem_ci (by omega) (List.Mem.head _)), (fun _ h => absurd h List.not_mem_nil)⟩)⟩)⟩)⟩)⟩)⟩) ?_
  exact lp10 ((H.1 2 477).toNat - 0 + 1) (0) (by first | assumption | omega) (Nat.lt_succ_self _)

theorem c_X2_matchesOf {d : Nat} {H : ZH} (ok : okZ H) {b k : Nat} (hb : b < 4096) (hc : bcnt b (H.1 2 477).toNat ≤ k) (h2 : 2 * (k : Int) ≤ H.1 2 477) (wp : WFP (H.1 2)) (rp : RepP H) : EvC zX (d + 3) mX2_matchesOf [.ref 71, .int (zN ((b : Int)))] (eh H) (zPi (fun (rz : Int) (Hz : ZH) => rz = (((mtak (H.1 2) b (H.1 2 477).toNat (H.1 2 477).toNat : Nat) : Int)) ∧ Hz = H)) := by
  show _ ∧ Ev zX mX2_matchesOf (EvC zX (d + 2)) (zPi (fun (rz : Int) (Hz : ZH) => rz = (((mtak (H.1 2) b (H.1 2 477).toNat (H.1 2 477).toNat : Nat) : Int)) ∧ Hz = H)) 0 [(0, .ref 71), (1, .int (zN ((b : Int))))] [] (eh H)
  refine ⟨Nat.le_of_ble_eq_true rfl, ?_⟩
  have wpx := wp
  obtain ⟨wpA, wpB, wpC⟩ := wpx
  have rpx := rp
  obtain ⟨rpA, rpB, rpC⟩ := rpx
  refine z_iconst (pc := 0) dX2_matchesOf_0 ?_
  refine x_istore_n (pc := 1) dX2_matchesOf_1 (Nat.le_of_ble_eq_true rfl) ?_
  show Ev _ _ _ _ _ [(2, .int (zN (0))), (0, .ref 71), (1, .int (zN ((b : Int))))] _ _
  refine z_iconst (pc := 2) dX2_matchesOf_2 ?_
  refine x_istore_n (pc := 3) dX2_matchesOf_3 (Nat.le_of_ble_eq_true rfl) ?_
  show Ev _ _ _ _ _ [(3, .int (zN (0))), (2, .int (zN (0))), (0, .ref 71), (1, .int (zN ((b : Int))))] _ _
  have lp4 : ∀ (nF : Nat) (p : Nat), ((p : Int) ≤ H.1 2 477) → (H.1 2 477).toNat - p < nF → Ev zX mX2_matchesOf (EvC zX (d + 2)) (zPi (fun (rz : Int) (Hz : ZH) => rz = (((mtak (H.1 2) b (H.1 2 477).toNat (H.1 2 477).toNat : Nat) : Int)) ∧ Hz = H)) 4 [(0, .ref 71), (1, .int (zN ((b : Int)))), (2, .int (zN (((mtak (H.1 2) b (H.1 2 477).toNat p : Nat) : Int)))), (3, .int (zN ((p : Int))))] [] (eh H) := by
    intro nF
    induction nF with
    | zero => intro p hp hm; exact absurd hm (Nat.not_lt_zero _)
    | succ nF ih4 =>
      intro p hp hm
      have mo := mtak_ok (H.1 2) hb hc (by omega) (by omega) p (by omega)
      have eb := bit12 b hb p
      have o12 := or12b hb mo.1
      refine x_iload_n (pc := 4) dX2_matchesOf_4 (List.Mem.tail _ (List.Mem.tail _ (List.Mem.tail _ (List.Mem.head _)))) ?_
      refine x_aload_n (pc := 5) dX2_matchesOf_5 (List.Mem.head _) ?_
      have rd1 := ok.1 71 0
      refine z_getI (pc := 6) (k := 0) (v := H.1 71 0) dX2_matchesOf_6 lf_X2_36 sh_71 rfl rfl ?_
      refine z_icmp_ge (pc := 9) (tgt := 39) dX2_matchesOf_9 (by decide) (by omega) (by omega) (by omega) (by omega) (fun hb2 => ?_) (fun hb2 => ?_)
      · skip
        refine x_iload_n (pc := 39) dX2_matchesOf_39 (List.Mem.tail _ (List.Mem.tail _ (List.Mem.head _))) ?_
        refine z_ireturn (pc := 40) dX2_matchesOf_40 rfl (Or.inl rfl) ok (by omega) (by omega) ?_
        exact ⟨by rw [show p = (H.1 2 477).toNat by omega], rfl⟩
      · skip
        refine x_iload_n (pc := 12) dX2_matchesOf_12 (List.Mem.tail _ (List.Mem.head _)) ?_
        refine x_iload_n (pc := 13) dX2_matchesOf_13 (List.Mem.tail _ (List.Mem.tail _ (List.Mem.tail _ (List.Mem.head _)))) ?_
        refine z_ishr (pc := 14) (k := p) dX2_matchesOf_14 rfl (by omega) (by omega) (by omega) ?_
        refine z_iconst (pc := 15) dX2_matchesOf_15 ?_
        refine z_iand1 (pc := 16) dX2_matchesOf_16 ?_
        refine z_if_eq (pc := 17) (tgt := 33) dX2_matchesOf_17 (by decide) (by omega) (by omega) (fun hb3 => ?_) (fun hb3 => ?_)
        · skip
          refine z_iinc (pc := 33) dX2_matchesOf_33 (List.Mem.tail _ (List.Mem.tail _ (List.Mem.tail _ (List.Mem.head _)))) (Nat.le_of_ble_eq_true rfl) ?_
          show Ev _ _ _ _ _ [(3, .int (zN ((p : Int) + 1))), (0, .ref 71), (1, .int (zN ((b : Int)))), (2, .int (zN (((mtak (H.1 2) b (H.1 2 477).toNat p : Nat) : Int))))] _ _
          refine x_goto (pc := 36) (tgt := 4) dX2_matchesOf_36 (by decide) ?_
          refine x_weaken (L1 := [(0, .ref 71), (1, .int (zN ((b : Int)))), (2, .int (zN (((mtak (H.1 2) b (H.1 2 477).toNat (p + 1) : Nat) : Int)))), (3, .int (zN ((((p + 1) : Nat) : Int))))]) (List.forall_mem_cons.mpr ⟨(List.Mem.tail _ (List.Mem.head _)), (List.forall_mem_cons.mpr ⟨(List.Mem.tail _ (List.Mem.tail _ (List.Mem.head _))), (List.forall_mem_cons.mpr ⟨(mem_ci (by first | (rw [show mtak (H.1 2) b (H.1 2 477).toNat (p + 1) = mtak (H.1 2) b (H.1 2 477).toNat p from if_pos (by omega)]) | (rw [show mtak (H.1 2) b (H.1 2 477).toNat (p + 1) = mtak (H.1 2) b (H.1 2 477).toNat p ||| 2 ^ ((mlik (H.1 2) (b ||| mtak (H.1 2) b (H.1 2 477).toNat p) p (H.1 2 477).toNat).1).toNat from if_neg (by omega)])) (List.Mem.tail _ (List.Mem.tail _ (List.Mem.tail _ (List.Mem.head _))))), (List.forall_mem_cons.mpr ⟨(mem_ci (by omega) (List.Mem.head _)), (fun _ h => absurd h List.not_mem_nil)⟩)⟩)⟩)⟩) ?_
          exact ih4 ((p + 1)) (by first | assumption | omega) (by omega)
        · skip
          have mli := mlik_in (H.1 2) (st := b) (N := (H.1 2 477).toNat) (k := k) (p := p) hb hc (by omega) (by omega) (by omega) (by omega)
          refine x_iload_n (pc := 20) dX2_matchesOf_20 (List.Mem.tail _ (List.Mem.tail _ (List.Mem.head _))) ?_
          refine z_iconst (pc := 21) dX2_matchesOf_21 ?_
          refine x_aload_n (pc := 22) dX2_matchesOf_22 (List.Mem.head _) ?_
          refine x_iload_n (pc := 23) dX2_matchesOf_23 (List.Mem.tail _ (List.Mem.tail _ (List.Mem.tail _ (List.Mem.head _)))) ?_
          refine x_iload_n (pc := 24) dX2_matchesOf_24 (List.Mem.tail _ (List.Mem.head _)) ?_
          refine x_iload_n (pc := 25) dX2_matchesOf_25 (List.Mem.tail _ (List.Mem.tail _ (List.Mem.head _))) ?_
          refine z_ior (pc := 26) (m := b) (n := (mtak (H.1 2) b (H.1 2 477).toNat p)) dX2_matchesOf_26 rfl (by omega) ?_
          refine z_callVip (pc := 27) (i := mX2_likest) (S := [.int (zN (1)), .int (zN (((mtak (H.1 2) b (H.1 2 477).toNat p : Nat) : Int)))]) [.int (zN ((p : Int))), .int (zN ((((b) ||| ((mtak (H.1 2) b (H.1 2 477).toNat p)) : Nat) : Int)))] dX2_matchesOf_27 ml_X2_60 ok_X2_likest rfl sh_71 rfl (Or.inl rfl) (Nat.le_of_ble_eq_true rfl) (c_X2_likest (d := d) (p := p) (b := ((b) ||| ((mtak (H.1 2) b (H.1 2 477).toNat p)))) (hp := (by omega)) (hb := (by omega)) (ok := ok) (wp := (by first | assumption | omega)) (rp := (by first | assumption | omega))) (fun r4a r4b ok5 => ?_)
          refine z_ishl1 (pc := 30) (k := ((mlik (H.1 2) ((b) ||| ((mtak (H.1 2) b (H.1 2 477).toNat p))) p (H.1 2 477).toNat).1.toNat)) dX2_matchesOf_30 (by omega) (by omega) ?_
          refine z_ior (pc := 31) (m := (mtak (H.1 2) b (H.1 2 477).toNat p)) (n := (2 ^ ((mlik (H.1 2) ((b) ||| ((mtak (H.1 2) b (H.1 2 477).toNat p))) p (H.1 2 477).toNat).1.toNat))) dX2_matchesOf_31 (by omega) (by omega) ?_
          refine x_istore_n (pc := 32) dX2_matchesOf_32 (Nat.le_of_ble_eq_true rfl) ?_
          show Ev _ _ _ _ _ [(2, .int (zN (((((mtak (H.1 2) b (H.1 2 477).toNat p)) ||| ((2 ^ ((mlik (H.1 2) ((b) ||| ((mtak (H.1 2) b (H.1 2 477).toNat p))) p (H.1 2 477).toNat).1.toNat))) : Nat) : Int)))), (0, .ref 71), (1, .int (zN ((b : Int)))), (3, .int (zN ((p : Int))))] _ _
          refine z_iinc (pc := 33) dX2_matchesOf_33 (List.Mem.tail _ (List.Mem.tail _ (List.Mem.tail _ (List.Mem.head _)))) (Nat.le_of_ble_eq_true rfl) ?_
          show Ev _ _ _ _ _ [(3, .int (zN ((p : Int) + 1))), (2, .int (zN (((((mtak (H.1 2) b (H.1 2 477).toNat p)) ||| ((2 ^ ((mlik (H.1 2) ((b) ||| ((mtak (H.1 2) b (H.1 2 477).toNat p))) p (H.1 2 477).toNat).1.toNat))) : Nat) : Int)))), (0, .ref 71), (1, .int (zN ((b : Int))))] _ _
          refine x_goto (pc := 36) (tgt := 4) dX2_matchesOf_36 (by decide) ?_
          refine x_weaken (L1 := [(0, .ref 71), (1, .int (zN ((b : Int)))), (2, .int (zN (((mtak (H.1 2) b (H.1 2 477).toNat (p + 1) : Nat) : Int)))), (3, .int (zN ((((p + 1) : Nat) : Int))))]) (List.forall_mem_cons.mpr ⟨(List.Mem.tail _ (List.Mem.tail _ (List.Mem.head _))), (List.forall_mem_cons.mpr ⟨(List.Mem.tail _ (List.Mem.tail _ (List.Mem.tail _ (List.Mem.head _)))), (List.forall_mem_cons.mpr ⟨(mem_ci (by first | (rw [show mtak (H.1 2) b (H.1 2 477).toNat (p + 1) = mtak (H.1 2) b (H.1 2 477).toNat p from if_pos (by omega)]) | (rw [show mtak (H.1 2) b (H.1 2 477).toNat (p + 1) = mtak (H.1 2) b (H.1 2 477).toNat p ||| 2 ^ ((mlik (H.1 2) (b ||| mtak (H.1 2) b (H.1 2 477).toNat p) p (H.1 2 477).toNat).1).toNat from if_neg (by omega)])) (List.Mem.tail _ (List.Mem.head _))), (List.forall_mem_cons.mpr ⟨(mem_ci (by omega) (List.Mem.head _)), (fun _ h => absurd h List.not_mem_nil)⟩)⟩)⟩)⟩) ?_
          exact ih4 ((p + 1)) (by first | assumption | omega) (by omega)
  refine x_weaken (L1 := [(0, .ref 71), (1, .int (zN ((b : Int)))), (2, .int (zN (((mtak (H.1 2) b (H.1 2 477).toNat 0 : Nat) : Int)))), (3, .int (zN (((0 : Nat) : Int))))]) (List.forall_mem_cons.mpr ⟨(List.Mem.tail _ (List.Mem.tail _ (List.Mem.head _))), (List.forall_mem_cons.mpr ⟨(List.Mem.tail _ (List.Mem.tail _ (List.Mem.tail _ (List.Mem.head _)))), (List.forall_mem_cons.mpr ⟨(mem_ci (rfl) (List.Mem.tail _ (List.Mem.head _))), (List.forall_mem_cons.mpr ⟨(mem_ci (by omega) (List.Mem.head _)), (fun _ h => absurd h List.not_mem_nil)⟩)⟩)⟩)⟩) ?_
  exact lp4 ((H.1 2 477).toNat - 0 + 1) (0) (by first | assumption | omega) (Nat.lt_succ_self _)

theorem c_X11_matchesOf {d : Nat} {H : ZH} (ok : okZ H) {b k : Nat} (hb : b < 4096) (hc : bcnt b (H.1 2 477).toNat ≤ k) (h2 : 2 * (k : Int) ≤ H.1 2 477) (wp : WFP (H.1 2)) : EvC zX (d + 2) mX11_matchesOf [.ref 0, .int (zN ((b : Int)))] (eh H) (zPi (fun (rz : Int) (Hz : ZH) => rz = (((mtak (H.1 2) b (H.1 2 477).toNat (H.1 2 477).toNat : Nat) : Int)) ∧ Hz = H)) := by
  show _ ∧ Ev zX mX11_matchesOf (EvC zX (d + 1)) (zPi (fun (rz : Int) (Hz : ZH) => rz = (((mtak (H.1 2) b (H.1 2 477).toNat (H.1 2 477).toNat : Nat) : Int)) ∧ Hz = H)) 0 [(0, .ref 0), (1, .int (zN ((b : Int))))] [] (eh H)
  refine ⟨Nat.le_of_ble_eq_true rfl, ?_⟩
  have wpx := wp
  obtain ⟨wpA, wpB, wpC⟩ := wpx
  refine z_iconst (pc := 0) dX11_matchesOf_0 ?_
  refine x_istore_n (pc := 1) dX11_matchesOf_1 (Nat.le_of_ble_eq_true rfl) ?_
  show Ev _ _ _ _ _ [(2, .int (zN (0))), (0, .ref 0), (1, .int (zN ((b : Int))))] _ _
  refine z_iconst (pc := 2) dX11_matchesOf_2 ?_
  refine x_istore_n (pc := 3) dX11_matchesOf_3 (Nat.le_of_ble_eq_true rfl) ?_
  show Ev _ _ _ _ _ [(3, .int (zN (0))), (2, .int (zN (0))), (0, .ref 0), (1, .int (zN ((b : Int))))] _ _
  have lp4 : ∀ (nF : Nat) (p : Nat), ((p : Int) ≤ H.1 2 477) → (H.1 2 477).toNat - p < nF → Ev zX mX11_matchesOf (EvC zX (d + 1)) (zPi (fun (rz : Int) (Hz : ZH) => rz = (((mtak (H.1 2) b (H.1 2 477).toNat (H.1 2 477).toNat : Nat) : Int)) ∧ Hz = H)) 4 [(0, .ref 0), (1, .int (zN ((b : Int)))), (2, .int (zN (((mtak (H.1 2) b (H.1 2 477).toNat p : Nat) : Int)))), (3, .int (zN ((p : Int))))] [] (eh H) := by
    intro nF
    induction nF with
    | zero => intro p hp hm; exact absurd hm (Nat.not_lt_zero _)
    | succ nF ih4 =>
      intro p hp hm
      have mo := mtak_ok (H.1 2) hb hc (by omega) (by omega) p (by omega)
      have eb := bit12 b hb p
      have o12 := or12b hb mo.1
      refine x_iload_n (pc := 4) dX11_matchesOf_4 (List.Mem.tail _ (List.Mem.tail _ (List.Mem.tail _ (List.Mem.head _)))) ?_
      refine x_aload_n (pc := 5) dX11_matchesOf_5 (List.Mem.head _) ?_
      refine z_getR (pc := 6) (k := 2) (r := 2) dX11_matchesOf_6 lf_X11_17 sh_0 rfl rf_0_2 ?_
      refine z_sipush (pc := 9) dX11_matchesOf_9 sp_477 ?_
      have rd1 := ok.1 2 477
      refine z_iald (pc := 12) (j := 477) (v := H.1 2 477) dX11_matchesOf_12 sh_2 rfl (Nat.le_of_ble_eq_true rfl) (by decide) rfl ?_
      refine z_icmp_ge (pc := 13) (tgt := 136) dX11_matchesOf_13 (by decide) (by omega) (by omega) (by omega) (by omega) (fun hb2 => ?_) (fun hb2 => ?_)
      · skip
        refine x_iload_n (pc := 136) dX11_matchesOf_136 (List.Mem.tail _ (List.Mem.tail _ (List.Mem.head _))) ?_
        refine z_ireturn (pc := 137) dX11_matchesOf_137 rfl (Or.inl rfl) ok (by omega) (by omega) ?_
        exact ⟨by rw [show p = (H.1 2 477).toNat by omega], rfl⟩
      · skip
        refine x_iload_n (pc := 16) dX11_matchesOf_16 (List.Mem.tail _ (List.Mem.head _)) ?_
        refine x_iload_n (pc := 17) dX11_matchesOf_17 (List.Mem.tail _ (List.Mem.tail _ (List.Mem.tail _ (List.Mem.head _)))) ?_
        refine z_ishr (pc := 18) (k := p) dX11_matchesOf_18 rfl (by omega) (by omega) (by omega) ?_
        refine z_iconst (pc := 19) dX11_matchesOf_19 ?_
        refine z_iand1 (pc := 20) dX11_matchesOf_20 ?_
        refine z_if_ne (pc := 21) (tgt := 27) dX11_matchesOf_21 (by decide) (by omega) (by omega) (fun hb3 => ?_) (fun hb3 => ?_)
        · skip
          refine z_iconst (pc := 27) dX11_matchesOf_27 ?_
          refine x_istore (pc := 28) dX11_matchesOf_28 (Nat.le_of_ble_eq_true rfl) ?_
          show Ev _ _ _ _ _ [(4, .int (zN ((-1)))), (0, .ref 0), (1, .int (zN ((b : Int)))), (2, .int (zN (((mtak (H.1 2) b (H.1 2 477).toNat p : Nat) : Int)))), (3, .int (zN ((p : Int))))] _ _
          refine z_iconst (pc := 30) dX11_matchesOf_30 ?_
          refine x_istore (pc := 31) dX11_matchesOf_31 (Nat.le_of_ble_eq_true rfl) ?_
          show Ev _ _ _ _ _ [(5, .int (zN (0))), (4, .int (zN ((-1)))), (0, .ref 0), (1, .int (zN ((b : Int)))), (2, .int (zN (((mtak (H.1 2) b (H.1 2 477).toNat p : Nat) : Int)))), (3, .int (zN ((p : Int))))] _ _
          refine z_iconst (pc := 33) dX11_matchesOf_33 ?_
          refine x_istore (pc := 34) dX11_matchesOf_34 (Nat.le_of_ble_eq_true rfl) ?_
          show Ev _ _ _ _ _ [(6, .int (zN (0))), (5, .int (zN (0))), (4, .int (zN ((-1)))), (0, .ref 0), (1, .int (zN ((b : Int)))), (2, .int (zN (((mtak (H.1 2) b (H.1 2 477).toNat p : Nat) : Int)))), (3, .int (zN ((p : Int))))] _ _
          have lp36 : ∀ (nF : Nat) (i : Nat), ((i : Int) ≤ H.1 2 477) → (H.1 2 477).toNat - i < nF → Ev zX mX11_matchesOf (EvC zX (d + 1)) (zPi (fun (rz : Int) (Hz : ZH) => rz = (((mtak (H.1 2) b (H.1 2 477).toNat (H.1 2 477).toNat : Nat) : Int)) ∧ Hz = H)) 36 [(0, .ref 0), (1, .int (zN ((b : Int)))), (2, .int (zN (((mtak (H.1 2) b (H.1 2 477).toNat p : Nat) : Int)))), (3, .int (zN ((p : Int)))), (4, .int (zN ((mlik (H.1 2) (b ||| mtak (H.1 2) b (H.1 2 477).toNat p) p i).1))), (5, .int (zN ((mlik (H.1 2) (b ||| mtak (H.1 2) b (H.1 2 477).toNat p) p i).2))), (6, .int (zN ((i : Int))))] [] (eh H) := by
            intro nF
            induction nF with
            | zero => intro i hi hm; exact absurd hm (Nat.not_lt_zero _)
            | succ nF ih36 =>
              intro i hi hm
              have mb := mlik_bd (H.1 2) (b ||| mtak (H.1 2) b (H.1 2 477).toNat p) p i
              have m2 := mlik_bd2 wp (b := b ||| mtak (H.1 2) b (H.1 2 477).toNat p) (p := p) (n := i) (by omega) (by omega)
              have eb2 := bit12 (b ||| mtak (H.1 2) b (H.1 2 477).toNat p) o12 i
              refine x_iload (pc := 36) dX11_matchesOf_36 (List.Mem.tail _ (List.Mem.tail _ (List.Mem.tail _ (List.Mem.tail _ (List.Mem.tail _ (List.Mem.tail _ (List.Mem.head _))))))) ?_
              refine x_aload_n (pc := 38) dX11_matchesOf_38 (List.Mem.head _) ?_
              refine z_getR (pc := 39) (k := 2) (r := 2) dX11_matchesOf_39 lf_X11_17 sh_0 rfl rf_0_2 ?_
              refine z_sipush (pc := 42) dX11_matchesOf_42 sp_477 ?_
              have rd4 := ok.1 2 477
              refine z_iald (pc := 45) (j := 477) (v := H.1 2 477) dX11_matchesOf_45 sh_2 rfl (Nat.le_of_ble_eq_true rfl) (by decide) rfl ?_
              refine z_icmp_ge (pc := 46) (tgt := 123) dX11_matchesOf_46 (by decide) (by omega) (by omega) (by omega) (by omega) (fun hb5 => ?_) (fun hb5 => ?_)
              · skip
                have ei : i = (H.1 2 477).toNat := by omega
                have mli := mlik_in (H.1 2) (st := b) (N := (H.1 2 477).toNat) (k := k) (p := p) hb hc (by omega) (by omega) (by omega) (by omega)
                have mli2 : 0 ≤ (mlik (H.1 2) (b ||| mtak (H.1 2) b (H.1 2 477).toNat p) p i).1 ∧ (mlik (H.1 2) (b ||| mtak (H.1 2) b (H.1 2 477).toNat p) p i).1 < (H.1 2 477).toNat := by rw [ei]; exact mli
                refine x_iload_n (pc := 123) dX11_matchesOf_123 (List.Mem.tail _ (List.Mem.tail _ (List.Mem.head _))) ?_
                refine z_iconst (pc := 124) dX11_matchesOf_124 ?_
                refine x_iload (pc := 125) dX11_matchesOf_125 (List.Mem.tail _ (List.Mem.tail _ (List.Mem.tail _ (List.Mem.tail _ (List.Mem.head _))))) ?_
                refine z_ishl1 (pc := 127) (k := (mlik (H.1 2) (b ||| mtak (H.1 2) b (H.1 2 477).toNat p) p i).1.toNat) dX11_matchesOf_127 (by omega) (by omega) ?_
                refine z_ior (pc := 128) (m := (mtak (H.1 2) b (H.1 2 477).toNat p)) (n := (2 ^ ((mlik (H.1 2) (b ||| mtak (H.1 2) b (H.1 2 477).toNat p) p i).1.toNat))) dX11_matchesOf_128 (by omega) (by omega) ?_
                refine x_istore_n (pc := 129) dX11_matchesOf_129 (Nat.le_of_ble_eq_true rfl) ?_
                show Ev _ _ _ _ _ [(2, .int (zN (((((mtak (H.1 2) b (H.1 2 477).toNat p)) ||| ((2 ^ ((mlik (H.1 2) (b ||| mtak (H.1 2) b (H.1 2 477).toNat p) p i).1.toNat))) : Nat) : Int)))), (0, .ref 0), (1, .int (zN ((b : Int)))), (3, .int (zN ((p : Int)))), (4, .int (zN ((mlik (H.1 2) (b ||| mtak (H.1 2) b (H.1 2 477).toNat p) p i).1))), (5, .int (zN ((mlik (H.1 2) (b ||| mtak (H.1 2) b (H.1 2 477).toNat p) p i).2))), (6, .int (zN ((i : Int))))] _ _
                refine z_iinc (pc := 130) dX11_matchesOf_130 (List.Mem.tail _ (List.Mem.tail _ (List.Mem.tail _ (List.Mem.head _)))) (Nat.le_of_ble_eq_true rfl) ?_
                show Ev _ _ _ _ _ [(3, .int (zN ((p : Int) + 1))), (2, .int (zN (((((mtak (H.1 2) b (H.1 2 477).toNat p)) ||| ((2 ^ ((mlik (H.1 2) (b ||| mtak (H.1 2) b (H.1 2 477).toNat p) p i).1.toNat))) : Nat) : Int)))), (0, .ref 0), (1, .int (zN ((b : Int)))), (4, .int (zN ((mlik (H.1 2) (b ||| mtak (H.1 2) b (H.1 2 477).toNat p) p i).1))), (5, .int (zN ((mlik (H.1 2) (b ||| mtak (H.1 2) b (H.1 2 477).toNat p) p i).2))), (6, .int (zN ((i : Int))))] _ _
                refine x_goto (pc := 133) (tgt := 4) dX11_matchesOf_133 (by decide) ?_
                refine x_weaken (L1 := [(0, .ref 0), (1, .int (zN ((b : Int)))), (2, .int (zN (((mtak (H.1 2) b (H.1 2 477).toNat (p + 1) : Nat) : Int)))), (3, .int (zN ((((p + 1) : Nat) : Int))))]) (List.forall_mem_cons.mpr ⟨(List.Mem.tail _ (List.Mem.tail _ (List.Mem.head _))), (List.forall_mem_cons.mpr ⟨(List.Mem.tail _ (List.Mem.tail _ (List.Mem.tail _ (List.Mem.head _)))), (List.forall_mem_cons.mpr ⟨(mem_ci (by first | (rw [show mtak (H.1 2) b (H.1 2 477).toNat (p + 1) = mtak (H.1 2) b (H.1 2 477).toNat p from if_pos (by omega)]) | (rw [show mtak (H.1 2) b (H.1 2 477).toNat (p + 1) = mtak (H.1 2) b (H.1 2 477).toNat p ||| 2 ^ ((mlik (H.1 2) (b ||| mtak (H.1 2) b (H.1 2 477).toNat p) p (H.1 2 477).toNat).1).toNat from if_neg (by omega), ei])) (List.Mem.tail _ (List.Mem.head _))), (List.forall_mem_cons.mpr ⟨(mem_ci (by omega) (List.Mem.head _)), (fun _ h => absurd h List.not_mem_nil)⟩)⟩)⟩)⟩) ?_
                exact ih4 ((p + 1)) (by first | assumption | omega) (by omega)
              · skip
                have hcr := cross_bd wp (p := i) (by omega)
                have hcp := cross_bd wp (p := p) (by omega)
                refine x_iload_n (pc := 49) dX11_matchesOf_49 (List.Mem.tail _ (List.Mem.head _)) ?_
                refine x_iload_n (pc := 50) dX11_matchesOf_50 (List.Mem.tail _ (List.Mem.tail _ (List.Mem.head _))) ?_
                refine z_ior (pc := 51) (m := b) (n := (mtak (H.1 2) b (H.1 2 477).toNat p)) dX11_matchesOf_51 rfl (by omega) ?_
                refine x_iload (pc := 52) dX11_matchesOf_52 (List.Mem.tail _ (List.Mem.tail _ (List.Mem.tail _ (List.Mem.tail _ (List.Mem.tail _ (List.Mem.tail _ (List.Mem.head _))))))) ?_
                refine z_ishr (pc := 54) (k := i) dX11_matchesOf_54 rfl (by omega) (by omega) (by omega) ?_
                refine z_iconst (pc := 55) dX11_matchesOf_55 ?_
                refine z_iand1 (pc := 56) dX11_matchesOf_56 ?_
                refine z_iconst (pc := 57) dX11_matchesOf_57 ?_
                refine z_icmp_ne (pc := 58) (tgt := 64) dX11_matchesOf_58 (by decide) (by omega) (by omega) (by decide) (by decide) (fun hb6 => ?_) (fun hb6 => ?_)
                · skip
                  refine x_aload_n (pc := 64) dX11_matchesOf_64 (List.Mem.head _) ?_
                  refine x_iload_n (pc := 65) dX11_matchesOf_65 (List.Mem.tail _ (List.Mem.tail _ (List.Mem.tail _ (List.Mem.head _)))) ?_
                  refine z_callVip (pc := 66) (i := mX11_hurtAt) (S := []) [.int (zN ((p : Int)))] dX11_matchesOf_66 ml_X11_331 ok_X11_hurtAt rfl sh_0 rfl (Or.inl rfl) (Nat.le_of_ble_eq_true rfl) (c_X11_hurtAt (d := d) (p := p) (hp := (by omega)) (ok := ok) (wp := (by first | assumption | omega))) (fun r7a r7b ok8 => ?_)
                  refine x_aload_n (pc := 69) dX11_matchesOf_69 (List.Mem.head _) ?_
                  refine x_iload (pc := 70) dX11_matchesOf_70 (List.Mem.tail _ (List.Mem.tail _ (List.Mem.tail _ (List.Mem.tail _ (List.Mem.tail _ (List.Mem.tail _ (List.Mem.head _))))))) ?_
                  refine z_callVip (pc := 72) (i := mX11_hurtAt) (S := [.int (zN ((phurt (H.1 2) p)))]) [.int (zN ((i : Int)))] dX11_matchesOf_72 ml_X11_331 ok_X11_hurtAt rfl sh_0 rfl (Or.inl rfl) (Nat.le_of_ble_eq_true rfl) (c_X11_hurtAt (d := d) (p := i) (hp := (by omega)) (ok := ok8) (wp := (by first | assumption | omega))) (fun r9a r9b ok10 => ?_)
                  refine z_isub (pc := 75) dX11_matchesOf_75 ?_
                  refine x_istore (pc := 76) dX11_matchesOf_76 (Nat.le_of_ble_eq_true rfl) ?_
                  show Ev _ _ _ _ _ [(7, .int (zN (((phurt (H.1 2) p) - (phurt (H.1 2) i))))), (0, .ref 0), (1, .int (zN ((b : Int)))), (2, .int (zN (((mtak (H.1 2) b (H.1 2 477).toNat p : Nat) : Int)))), (3, .int (zN ((p : Int)))), (4, .int (zN ((mlik (H.1 2) (b ||| mtak (H.1 2) b (H.1 2 477).toNat p) p i).1))), (5, .int (zN ((mlik (H.1 2) (b ||| mtak (H.1 2) b (H.1 2 477).toNat p) p i).2))), (6, .int (zN ((i : Int))))] _ _
                  refine x_iload (pc := 78) dX11_matchesOf_78 (List.Mem.head _) ?_
                  refine z_if_ge (pc := 80) (tgt := 89) dX11_matchesOf_80 (by decide) (by omega) (by omega) (fun hb11 => ?_) (fun hb11 => ?_)
                  · skip
                    refine x_iload (pc := 89) dX11_matchesOf_89 (List.Mem.head _) ?_
                    refine x_istore (pc := 91) dX11_matchesOf_91 (Nat.le_of_ble_eq_true rfl) ?_
                    show Ev _ _ _ _ _ [(7, .int (zN (((phurt (H.1 2) p) - (phurt (H.1 2) i))))), (0, .ref 0), (1, .int (zN ((b : Int)))), (2, .int (zN (((mtak (H.1 2) b (H.1 2 477).toNat p : Nat) : Int)))), (3, .int (zN ((p : Int)))), (4, .int (zN ((mlik (H.1 2) (b ||| mtak (H.1 2) b (H.1 2 477).toNat p) p i).1))), (5, .int (zN ((mlik (H.1 2) (b ||| mtak (H.1 2) b (H.1 2 477).toNat p) p i).2))), (6, .int (zN ((i : Int))))] _ _
                    refine x_iload (pc := 93) dX11_matchesOf_93 (List.Mem.tail _ (List.Mem.tail _ (List.Mem.tail _ (List.Mem.tail _ (List.Mem.tail _ (List.Mem.head _)))))) ?_
                    refine z_iconst (pc := 95) dX11_matchesOf_95 ?_
                    refine z_icmp_eq (pc := 96) (tgt := 109) dX11_matchesOf_96 (by decide) (by omega) (by omega) (by decide) (by decide) (fun hb12 => ?_) (fun hb12 => ?_)
                    · skip
                      refine x_iload (pc := 109) dX11_matchesOf_109 (List.Mem.tail _ (List.Mem.tail _ (List.Mem.tail _ (List.Mem.tail _ (List.Mem.tail _ (List.Mem.tail _ (List.Mem.tail _ (List.Mem.head _)))))))) ?_
                      refine x_istore (pc := 111) dX11_matchesOf_111 (Nat.le_of_ble_eq_true rfl) ?_
                      show Ev _ _ _ _ _ [(4, .int (zN ((i : Int)))), (7, .int (zN (((phurt (H.1 2) p) - (phurt (H.1 2) i))))), (0, .ref 0), (1, .int (zN ((b : Int)))), (2, .int (zN (((mtak (H.1 2) b (H.1 2 477).toNat p : Nat) : Int)))), (3, .int (zN ((p : Int)))), (5, .int (zN ((mlik (H.1 2) (b ||| mtak (H.1 2) b (H.1 2 477).toNat p) p i).2))), (6, .int (zN ((i : Int))))] _ _
                      refine x_iload (pc := 113) dX11_matchesOf_113 (List.Mem.tail _ (List.Mem.head _)) ?_
                      refine x_istore (pc := 115) dX11_matchesOf_115 (Nat.le_of_ble_eq_true rfl) ?_
                      show Ev _ _ _ _ _ [(5, .int (zN (((phurt (H.1 2) p) - (phurt (H.1 2) i))))), (4, .int (zN ((i : Int)))), (7, .int (zN (((phurt (H.1 2) p) - (phurt (H.1 2) i))))), (0, .ref 0), (1, .int (zN ((b : Int)))), (2, .int (zN (((mtak (H.1 2) b (H.1 2 477).toNat p : Nat) : Int)))), (3, .int (zN ((p : Int)))), (6, .int (zN ((i : Int))))] _ _
                      refine z_iinc (pc := 117) dX11_matchesOf_117 (List.Mem.tail _ (List.Mem.tail _ (List.Mem.tail _ (List.Mem.tail _ (List.Mem.tail _ (List.Mem.tail _ (List.Mem.tail _ (List.Mem.head _)))))))) (Nat.le_of_ble_eq_true rfl) ?_
                      show Ev _ _ _ _ _ [(6, .int (zN ((i : Int) + 1))), (5, .int (zN (((phurt (H.1 2) p) - (phurt (H.1 2) i))))), (4, .int (zN ((i : Int)))), (7, .int (zN (((phurt (H.1 2) p) - (phurt (H.1 2) i))))), (0, .ref 0), (1, .int (zN ((b : Int)))), (2, .int (zN (((mtak (H.1 2) b (H.1 2 477).toNat p : Nat) : Int)))), (3, .int (zN ((p : Int))))] _ _
                      refine x_goto (pc := 120) (tgt := 36) dX11_matchesOf_120 (by decide) ?_
                      refine x_weaken (L1 := [(0, .ref 0), (1, .int (zN ((b : Int)))), (2, .int (zN (((mtak (H.1 2) b (H.1 2 477).toNat p : Nat) : Int)))), (3, .int (zN ((p : Int)))), (4, .int (zN ((mlik (H.1 2) (b ||| mtak (H.1 2) b (H.1 2 477).toNat p) p (i + 1)).1))), (5, .int (zN ((mlik (H.1 2) (b ||| mtak (H.1 2) b (H.1 2 477).toNat p) p (i + 1)).2))), (6, .int (zN ((((i + 1) : Nat) : Int))))]) (List.forall_mem_cons.mpr ⟨(List.Mem.tail _ (List.Mem.tail _ (List.Mem.tail _ (List.Mem.tail _ (List.Mem.head _))))), (List.forall_mem_cons.mpr ⟨(List.Mem.tail _ (List.Mem.tail _ (List.Mem.tail _ (List.Mem.tail _ (List.Mem.tail _ (List.Mem.head _)))))), (List.forall_mem_cons.mpr ⟨(List.Mem.tail _ (List.Mem.tail _ (List.Mem.tail _ (List.Mem.tail _ (List.Mem.tail _ (List.Mem.tail _ (List.Mem.head _))))))), (List.forall_mem_cons.mpr ⟨(List.Mem.tail _ (List.Mem.tail _ (List.Mem.tail _ (List.Mem.tail _ (List.Mem.tail _ (List.Mem.tail _ (List.Mem.tail _ (List.Mem.head _)))))))), (List.forall_mem_cons.mpr ⟨(mem_ci (by first | rw [show mlik (H.1 2) (b ||| mtak (H.1 2) b (H.1 2 477).toNat p) p (i + 1) = ((i : Int), moff (H.1 2) p i) from if_pos ⟨by omega, by first | exact Or.inl (by omega) | exact Or.inr (by unfold moff; omega)⟩] | rw [show mlik (H.1 2) (b ||| mtak (H.1 2) b (H.1 2 477).toNat p) p (i + 1) = mlik (H.1 2) (b ||| mtak (H.1 2) b (H.1 2 477).toNat p) p i from if_neg (fun q => by rcases q.2 with c | c <;> first | omega | (unfold moff at c; omega))]) (List.Mem.tail _ (List.Mem.tail _ (List.Mem.head _)))), (List.forall_mem_cons.mpr ⟨(mem_ci (by first | (rw [show mlik (H.1 2) (b ||| mtak (H.1 2) b (H.1 2 477).toNat p) p (i + 1) = ((i : Int), moff (H.1 2) p i) from if_pos ⟨by omega, by first | exact Or.inl (by omega) | exact Or.inr (by unfold moff; omega)⟩]; show moff (H.1 2) p i = _; unfold moff; first | exact if_pos (by omega) | exact if_neg (by omega)) | rw [show mlik (H.1 2) (b ||| mtak (H.1 2) b (H.1 2 477).toNat p) p (i + 1) = mlik (H.1 2) (b ||| mtak (H.1 2) b (H.1 2 477).toNat p) p i from if_neg (fun q => by rcases q.2 with c | c <;> first | omega | (unfold moff at c; omega))]) (List.Mem.tail _ (List.Mem.head _))), (List.forall_mem_cons.mpr ⟨(mem_ci (by omega) (List.Mem.head _)), (fun _ h => absurd h List.not_mem_nil)⟩)⟩)⟩)⟩)⟩)⟩)⟩) ?_
                      exact ih36 ((i + 1)) (by first | assumption | omega) (by omega)
                    · skip
                      refine x_iload (pc := 99) dX11_matchesOf_99 (List.Mem.head _) ?_
                      refine x_iload (pc := 101) dX11_matchesOf_101 (List.Mem.tail _ (List.Mem.tail _ (List.Mem.tail _ (List.Mem.tail _ (List.Mem.tail _ (List.Mem.tail _ (List.Mem.head _))))))) ?_
                      refine z_icmp_lt (pc := 103) (tgt := 109) dX11_matchesOf_103 (by decide) (by omega) (by omega) (by omega) (by omega) (fun hb13 => ?_) (fun hb13 => ?_)
                      · skip
                        refine x_iload (pc := 109) dX11_matchesOf_109 (List.Mem.tail _ (List.Mem.tail _ (List.Mem.tail _ (List.Mem.tail _ (List.Mem.tail _ (List.Mem.tail _ (List.Mem.tail _ (List.Mem.head _)))))))) ?_
                        refine x_istore (pc := 111) dX11_matchesOf_111 (Nat.le_of_ble_eq_true rfl) ?_
                        show Ev _ _ _ _ _ [(4, .int (zN ((i : Int)))), (7, .int (zN (((phurt (H.1 2) p) - (phurt (H.1 2) i))))), (0, .ref 0), (1, .int (zN ((b : Int)))), (2, .int (zN (((mtak (H.1 2) b (H.1 2 477).toNat p : Nat) : Int)))), (3, .int (zN ((p : Int)))), (5, .int (zN ((mlik (H.1 2) (b ||| mtak (H.1 2) b (H.1 2 477).toNat p) p i).2))), (6, .int (zN ((i : Int))))] _ _
                        refine x_iload (pc := 113) dX11_matchesOf_113 (List.Mem.tail _ (List.Mem.head _)) ?_
                        refine x_istore (pc := 115) dX11_matchesOf_115 (Nat.le_of_ble_eq_true rfl) ?_
                        show Ev _ _ _ _ _ [(5, .int (zN (((phurt (H.1 2) p) - (phurt (H.1 2) i))))), (4, .int (zN ((i : Int)))), (7, .int (zN (((phurt (H.1 2) p) - (phurt (H.1 2) i))))), (0, .ref 0), (1, .int (zN ((b : Int)))), (2, .int (zN (((mtak (H.1 2) b (H.1 2 477).toNat p : Nat) : Int)))), (3, .int (zN ((p : Int)))), (6, .int (zN ((i : Int))))] _ _
                        refine z_iinc (pc := 117) dX11_matchesOf_117 (List.Mem.tail _ (List.Mem.tail _ (List.Mem.tail _ (List.Mem.tail _ (List.Mem.tail _ (List.Mem.tail _ (List.Mem.tail _ (List.Mem.head _)))))))) (Nat.le_of_ble_eq_true rfl) ?_
                        show Ev _ _ _ _ _ [(6, .int (zN ((i : Int) + 1))), (5, .int (zN (((phurt (H.1 2) p) - (phurt (H.1 2) i))))), (4, .int (zN ((i : Int)))), (7, .int (zN (((phurt (H.1 2) p) - (phurt (H.1 2) i))))), (0, .ref 0), (1, .int (zN ((b : Int)))), (2, .int (zN (((mtak (H.1 2) b (H.1 2 477).toNat p : Nat) : Int)))), (3, .int (zN ((p : Int))))] _ _
                        refine x_goto (pc := 120) (tgt := 36) dX11_matchesOf_120 (by decide) ?_
                        refine x_weaken (L1 := [(0, .ref 0), (1, .int (zN ((b : Int)))), (2, .int (zN (((mtak (H.1 2) b (H.1 2 477).toNat p : Nat) : Int)))), (3, .int (zN ((p : Int)))), (4, .int (zN ((mlik (H.1 2) (b ||| mtak (H.1 2) b (H.1 2 477).toNat p) p (i + 1)).1))), (5, .int (zN ((mlik (H.1 2) (b ||| mtak (H.1 2) b (H.1 2 477).toNat p) p (i + 1)).2))), (6, .int (zN ((((i + 1) : Nat) : Int))))]) (List.forall_mem_cons.mpr ⟨(List.Mem.tail _ (List.Mem.tail _ (List.Mem.tail _ (List.Mem.tail _ (List.Mem.head _))))), (List.forall_mem_cons.mpr ⟨(List.Mem.tail _ (List.Mem.tail _ (List.Mem.tail _ (List.Mem.tail _ (List.Mem.tail _ (List.Mem.head _)))))), (List.forall_mem_cons.mpr ⟨(List.Mem.tail _ (List.Mem.tail _ (List.Mem.tail _ (List.Mem.tail _ (List.Mem.tail _ (List.Mem.tail _ (List.Mem.head _))))))), (List.forall_mem_cons.mpr ⟨(List.Mem.tail _ (List.Mem.tail _ (List.Mem.tail _ (List.Mem.tail _ (List.Mem.tail _ (List.Mem.tail _ (List.Mem.tail _ (List.Mem.head _)))))))), (List.forall_mem_cons.mpr ⟨(mem_ci (by first | rw [show mlik (H.1 2) (b ||| mtak (H.1 2) b (H.1 2 477).toNat p) p (i + 1) = ((i : Int), moff (H.1 2) p i) from if_pos ⟨by omega, by first | exact Or.inl (by omega) | exact Or.inr (by unfold moff; omega)⟩] | rw [show mlik (H.1 2) (b ||| mtak (H.1 2) b (H.1 2 477).toNat p) p (i + 1) = mlik (H.1 2) (b ||| mtak (H.1 2) b (H.1 2 477).toNat p) p i from if_neg (fun q => by rcases q.2 with c | c <;> first | omega | (unfold moff at c; omega))]) (List.Mem.tail _ (List.Mem.tail _ (List.Mem.head _)))), (List.forall_mem_cons.mpr ⟨(mem_ci (by first | (rw [show mlik (H.1 2) (b ||| mtak (H.1 2) b (H.1 2 477).toNat p) p (i + 1) = ((i : Int), moff (H.1 2) p i) from if_pos ⟨by omega, by first | exact Or.inl (by omega) | exact Or.inr (by unfold moff; omega)⟩]; show moff (H.1 2) p i = _; unfold moff; first | exact if_pos (by omega) | exact if_neg (by omega)) | rw [show mlik (H.1 2) (b ||| mtak (H.1 2) b (H.1 2 477).toNat p) p (i + 1) = mlik (H.1 2) (b ||| mtak (H.1 2) b (H.1 2 477).toNat p) p i from if_neg (fun q => by rcases q.2 with c | c <;> first | omega | (unfold moff at c; omega))]) (List.Mem.tail _ (List.Mem.head _))), (List.forall_mem_cons.mpr ⟨(mem_ci (by omega) (List.Mem.head _)), (fun _ h => absurd h List.not_mem_nil)⟩)⟩)⟩)⟩)⟩)⟩)⟩) ?_
                        exact ih36 ((i + 1)) (by first | assumption | omega) (by omega)
                      · skip
                        refine x_goto (pc := 106) (tgt := 117) dX11_matchesOf_106 (by decide) ?_
                        refine z_iinc (pc := 117) dX11_matchesOf_117 (List.Mem.tail _ (List.Mem.tail _ (List.Mem.tail _ (List.Mem.tail _ (List.Mem.tail _ (List.Mem.tail _ (List.Mem.tail _ (List.Mem.head _)))))))) (Nat.le_of_ble_eq_true rfl) ?_
                        show Ev _ _ _ _ _ [(6, .int (zN ((i : Int) + 1))), (7, .int (zN (((phurt (H.1 2) p) - (phurt (H.1 2) i))))), (0, .ref 0), (1, .int (zN ((b : Int)))), (2, .int (zN (((mtak (H.1 2) b (H.1 2 477).toNat p : Nat) : Int)))), (3, .int (zN ((p : Int)))), (4, .int (zN ((mlik (H.1 2) (b ||| mtak (H.1 2) b (H.1 2 477).toNat p) p i).1))), (5, .int (zN ((mlik (H.1 2) (b ||| mtak (H.1 2) b (H.1 2 477).toNat p) p i).2)))] _ _
                        refine x_goto (pc := 120) (tgt := 36) dX11_matchesOf_120 (by decide) ?_
                        refine x_weaken (L1 := [(0, .ref 0), (1, .int (zN ((b : Int)))), (2, .int (zN (((mtak (H.1 2) b (H.1 2 477).toNat p : Nat) : Int)))), (3, .int (zN ((p : Int)))), (4, .int (zN ((mlik (H.1 2) (b ||| mtak (H.1 2) b (H.1 2 477).toNat p) p (i + 1)).1))), (5, .int (zN ((mlik (H.1 2) (b ||| mtak (H.1 2) b (H.1 2 477).toNat p) p (i + 1)).2))), (6, .int (zN ((((i + 1) : Nat) : Int))))]) (List.forall_mem_cons.mpr ⟨(List.Mem.tail _ (List.Mem.tail _ (List.Mem.head _))), (List.forall_mem_cons.mpr ⟨(List.Mem.tail _ (List.Mem.tail _ (List.Mem.tail _ (List.Mem.head _)))), (List.forall_mem_cons.mpr ⟨(List.Mem.tail _ (List.Mem.tail _ (List.Mem.tail _ (List.Mem.tail _ (List.Mem.head _))))), (List.forall_mem_cons.mpr ⟨(List.Mem.tail _ (List.Mem.tail _ (List.Mem.tail _ (List.Mem.tail _ (List.Mem.tail _ (List.Mem.head _)))))), (List.forall_mem_cons.mpr ⟨(mem_ci (by first | rw [show mlik (H.1 2) (b ||| mtak (H.1 2) b (H.1 2 477).toNat p) p (i + 1) = ((i : Int), moff (H.1 2) p i) from if_pos ⟨by omega, by first | exact Or.inl (by omega) | exact Or.inr (by unfold moff; omega)⟩] | rw [show mlik (H.1 2) (b ||| mtak (H.1 2) b (H.1 2 477).toNat p) p (i + 1) = mlik (H.1 2) (b ||| mtak (H.1 2) b (H.1 2 477).toNat p) p i from if_neg (fun q => by rcases q.2 with c | c <;> first | omega | (unfold moff at c; omega))]) (List.Mem.tail _ (List.Mem.tail _ (List.Mem.tail _ (List.Mem.tail _ (List.Mem.tail _ (List.Mem.tail _ (List.Mem.head _)))))))), (List.forall_mem_cons.mpr ⟨(mem_ci (by first | (rw [show mlik (H.1 2) (b ||| mtak (H.1 2) b (H.1 2 477).toNat p) p (i + 1) = ((i : Int), moff (H.1 2) p i) from if_pos ⟨by omega, by first | exact Or.inl (by omega) | exact Or.inr (by unfold moff; omega)⟩]; show moff (H.1 2) p i = _; unfold moff; first | exact if_pos (by omega) | exact if_neg (by omega)) | rw [show mlik (H.1 2) (b ||| mtak (H.1 2) b (H.1 2 477).toNat p) p (i + 1) = mlik (H.1 2) (b ||| mtak (H.1 2) b (H.1 2 477).toNat p) p i from if_neg (fun q => by rcases q.2 with c | c <;> first | omega | (unfold moff at c; omega))]) (List.Mem.tail _ (List.Mem.tail _ (List.Mem.tail _ (List.Mem.tail _ (List.Mem.tail _ (List.Mem.tail _ (List.Mem.tail _ (List.Mem.head _))))))))), (List.forall_mem_cons.mpr ⟨(mem_ci (by omega) (List.Mem.head _)), (fun _ h => absurd h List.not_mem_nil)⟩)⟩)⟩)⟩)⟩)⟩)⟩) ?_
                        exact ih36 ((i + 1)) (by first | assumption | omega) (by omega)
                  · skip
                    refine x_iload (pc := 83) dX11_matchesOf_83 (List.Mem.head _) ?_
                    refine z_ineg (pc := 85) dX11_matchesOf_85 ?_
                    refine x_goto (pc := 86) (tgt := 91) dX11_matchesOf_86 (by decide) ?_
                    refine x_istore (pc := 91) dX11_matchesOf_91 (Nat.le_of_ble_eq_true rfl) ?_
                    show Ev _ _ _ _ _ [(7, .int (zN ((0 - ((phurt (H.1 2) p) - (phurt (H.1 2) i)))))), (0, .ref 0), (1, .int (zN ((b : Int)))), (2, .int (zN (((mtak (H.1 2) b (H.1 2 477).toNat p : Nat) : Int)))), (3, .int (zN ((p : Int)))), (4, .int (zN ((mlik (H.1 2) (b ||| mtak (H.1 2) b (H.1 2 477).toNat p) p i).1))), (5, .int (zN ((mlik (H.1 2) (b ||| mtak (H.1 2) b (H.1 2 477).toNat p) p i).2))), (6, .int (zN ((i : Int))))] _ _
                    refine x_iload (pc := 93) dX11_matchesOf_93 (List.Mem.tail _ (List.Mem.tail _ (List.Mem.tail _ (List.Mem.tail _ (List.Mem.tail _ (List.Mem.head _)))))) ?_
                    refine z_iconst (pc := 95) dX11_matchesOf_95 ?_
                    refine z_icmp_eq (pc := 96) (tgt := 109) dX11_matchesOf_96 (by decide) (by omega) (by omega) (by decide) (by decide) (fun hb14 => ?_) (fun hb14 => ?_)
                    · skip
                      refine x_iload (pc := 109) dX11_matchesOf_109 (List.Mem.tail _ (List.Mem.tail _ (List.Mem.tail _ (List.Mem.tail _ (List.Mem.tail _ (List.Mem.tail _ (List.Mem.tail _ (List.Mem.head _)))))))) ?_
                      refine x_istore (pc := 111) dX11_matchesOf_111 (Nat.le_of_ble_eq_true rfl) ?_
                      show Ev _ _ _ _ _ [(4, .int (zN ((i : Int)))), (7, .int (zN ((0 - ((phurt (H.1 2) p) - (phurt (H.1 2) i)))))), (0, .ref 0), (1, .int (zN ((b : Int)))), (2, .int (zN (((mtak (H.1 2) b (H.1 2 477).toNat p : Nat) : Int)))), (3, .int (zN ((p : Int)))), (5, .int (zN ((mlik (H.1 2) (b ||| mtak (H.1 2) b (H.1 2 477).toNat p) p i).2))), (6, .int (zN ((i : Int))))] _ _
                      refine x_iload (pc := 113) dX11_matchesOf_113 (List.Mem.tail _ (List.Mem.head _)) ?_
                      refine x_istore (pc := 115) dX11_matchesOf_115 (Nat.le_of_ble_eq_true rfl) ?_
                      show Ev _ _ _ _ _ [(5, .int (zN ((0 - ((phurt (H.1 2) p) - (phurt (H.1 2) i)))))), (4, .int (zN ((i : Int)))), (7, .int (zN ((0 - ((phurt (H.1 2) p) - (phurt (H.1 2) i)))))), (0, .ref 0), (1, .int (zN ((b : Int)))), (2, .int (zN (((mtak (H.1 2) b (H.1 2 477).toNat p : Nat) : Int)))), (3, .int (zN ((p : Int)))), (6, .int (zN ((i : Int))))] _ _
                      refine z_iinc (pc := 117) dX11_matchesOf_117 (List.Mem.tail _ (List.Mem.tail _ (List.Mem.tail _ (List.Mem.tail _ (List.Mem.tail _ (List.Mem.tail _ (List.Mem.tail _ (List.Mem.head _)))))))) (Nat.le_of_ble_eq_true rfl) ?_
                      show Ev _ _ _ _ _ [(6, .int (zN ((i : Int) + 1))), (5, .int (zN ((0 - ((phurt (H.1 2) p) - (phurt (H.1 2) i)))))), (4, .int (zN ((i : Int)))), (7, .int (zN ((0 - ((phurt (H.1 2) p) - (phurt (H.1 2) i)))))), (0, .ref 0), (1, .int (zN ((b : Int)))), (2, .int (zN (((mtak (H.1 2) b (H.1 2 477).toNat p : Nat) : Int)))), (3, .int (zN ((p : Int))))] _ _
                      refine x_goto (pc := 120) (tgt := 36) dX11_matchesOf_120 (by decide) ?_
                      refine x_weaken (L1 := [(0, .ref 0), (1, .int (zN ((b : Int)))), (2, .int (zN (((mtak (H.1 2) b (H.1 2 477).toNat p : Nat) : Int)))), (3, .int (zN ((p : Int)))), (4, .int (zN ((mlik (H.1 2) (b ||| mtak (H.1 2) b (H.1 2 477).toNat p) p (i + 1)).1))), (5, .int (zN ((mlik (H.1 2) (b ||| mtak (H.1 2) b (H.1 2 477).toNat p) p (i + 1)).2))), (6, .int (zN ((((i + 1) : Nat) : Int))))]) (List.forall_mem_cons.mpr ⟨(List.Mem.tail _ (List.Mem.tail _ (List.Mem.tail _ (List.Mem.tail _ (List.Mem.head _))))), (List.forall_mem_cons.mpr ⟨(List.Mem.tail _ (List.Mem.tail _ (List.Mem.tail _ (List.Mem.tail _ (List.Mem.tail _ (List.Mem.head _)))))), (List.forall_mem_cons.mpr ⟨(List.Mem.tail _ (List.Mem.tail _ (List.Mem.tail _ (List.Mem.tail _ (List.Mem.tail _ (List.Mem.tail _ (List.Mem.head _))))))), (List.forall_mem_cons.mpr ⟨(List.Mem.tail _ (List.Mem.tail _ (List.Mem.tail _ (List.Mem.tail _ (List.Mem.tail _ (List.Mem.tail _ (List.Mem.tail _ (List.Mem.head _)))))))), (List.forall_mem_cons.mpr ⟨(mem_ci (by first | rw [show mlik (H.1 2) (b ||| mtak (H.1 2) b (H.1 2 477).toNat p) p (i + 1) = ((i : Int), moff (H.1 2) p i) from if_pos ⟨by omega, by first | exact Or.inl (by omega) | exact Or.inr (by unfold moff; omega)⟩] | rw [show mlik (H.1 2) (b ||| mtak (H.1 2) b (H.1 2 477).toNat p) p (i + 1) = mlik (H.1 2) (b ||| mtak (H.1 2) b (H.1 2 477).toNat p) p i from if_neg (fun q => by rcases q.2 with c | c <;> first | omega | (unfold moff at c; omega))]) (List.Mem.tail _ (List.Mem.tail _ (List.Mem.head _)))), (List.forall_mem_cons.mpr ⟨(mem_ci (by first | (rw [show mlik (H.1 2) (b ||| mtak (H.1 2) b (H.1 2 477).toNat p) p (i + 1) = ((i : Int), moff (H.1 2) p i) from if_pos ⟨by omega, by first | exact Or.inl (by omega) | exact Or.inr (by unfold moff; omega)⟩]; show moff (H.1 2) p i = _; unfold moff; first | exact if_pos (by omega) | exact if_neg (by omega)) | rw [show mlik (H.1 2) (b ||| mtak (H.1 2) b (H.1 2 477).toNat p) p (i + 1) = mlik (H.1 2) (b ||| mtak (H.1 2) b (H.1 2 477).toNat p) p i from if_neg (fun q => by rcases q.2 with c | c <;> first | omega | (unfold moff at c; omega))]) (List.Mem.tail _ (List.Mem.head _))), (List.forall_mem_cons.mpr ⟨(mem_ci (by omega) (List.Mem.head _)), (fun _ h => absurd h List.not_mem_nil)⟩)⟩)⟩)⟩)⟩)⟩)⟩) ?_
                      exact ih36 ((i + 1)) (by first | assumption | omega) (by omega)
                    · skip
                      refine x_iload (pc := 99) dX11_matchesOf_99 (List.Mem.head _) ?_
                      refine x_iload (pc := 101) dX11_matchesOf_101 (List.Mem.tail _ (List.Mem.tail _ (List.Mem.tail _ (List.Mem.tail _ (List.Mem.tail _ (List.Mem.tail _ (List.Mem.head _))))))) ?_
                      refine z_icmp_lt (pc := 103) (tgt := 109) dX11_matchesOf_103 (by decide) (by omega) (by omega) (by omega) (by omega) (fun hb15 => ?_) (fun hb15 => ?_)
                      · skip
                        refine x_iload (pc := 109) dX11_matchesOf_109 (List.Mem.tail _ (List.Mem.tail _ (List.Mem.tail _ (List.Mem.tail _ (List.Mem.tail _ (List.Mem.tail _ (List.Mem.tail _ (List.Mem.head _)))))))) ?_
                        refine x_istore (pc := 111) dX11_matchesOf_111 (Nat.le_of_ble_eq_true rfl) ?_
                        show Ev _ _ _ _ _ [(4, .int (zN ((i : Int)))), (7, .int (zN ((0 - ((phurt (H.1 2) p) - (phurt (H.1 2) i)))))), (0, .ref 0), (1, .int (zN ((b : Int)))), (2, .int (zN (((mtak (H.1 2) b (H.1 2 477).toNat p : Nat) : Int)))), (3, .int (zN ((p : Int)))), (5, .int (zN ((mlik (H.1 2) (b ||| mtak (H.1 2) b (H.1 2 477).toNat p) p i).2))), (6, .int (zN ((i : Int))))] _ _
                        refine x_iload (pc := 113) dX11_matchesOf_113 (List.Mem.tail _ (List.Mem.head _)) ?_
                        refine x_istore (pc := 115) dX11_matchesOf_115 (Nat.le_of_ble_eq_true rfl) ?_
                        show Ev _ _ _ _ _ [(5, .int (zN ((0 - ((phurt (H.1 2) p) - (phurt (H.1 2) i)))))), (4, .int (zN ((i : Int)))), (7, .int (zN ((0 - ((phurt (H.1 2) p) - (phurt (H.1 2) i)))))), (0, .ref 0), (1, .int (zN ((b : Int)))), (2, .int (zN (((mtak (H.1 2) b (H.1 2 477).toNat p : Nat) : Int)))), (3, .int (zN ((p : Int)))), (6, .int (zN ((i : Int))))] _ _
                        refine z_iinc (pc := 117) dX11_matchesOf_117 (List.Mem.tail _ (List.Mem.tail _ (List.Mem.tail _ (List.Mem.tail _ (List.Mem.tail _ (List.Mem.tail _ (List.Mem.tail _ (List.Mem.head _)))))))) (Nat.le_of_ble_eq_true rfl) ?_
                        show Ev _ _ _ _ _ [(6, .int (zN ((i : Int) + 1))), (5, .int (zN ((0 - ((phurt (H.1 2) p) - (phurt (H.1 2) i)))))), (4, .int (zN ((i : Int)))), (7, .int (zN ((0 - ((phurt (H.1 2) p) - (phurt (H.1 2) i)))))), (0, .ref 0), (1, .int (zN ((b : Int)))), (2, .int (zN (((mtak (H.1 2) b (H.1 2 477).toNat p : Nat) : Int)))), (3, .int (zN ((p : Int))))] _ _
                        refine x_goto (pc := 120) (tgt := 36) dX11_matchesOf_120 (by decide) ?_
                        refine x_weaken (L1 := [(0, .ref 0), (1, .int (zN ((b : Int)))), (2, .int (zN (((mtak (H.1 2) b (H.1 2 477).toNat p : Nat) : Int)))), (3, .int (zN ((p : Int)))), (4, .int (zN ((mlik (H.1 2) (b ||| mtak (H.1 2) b (H.1 2 477).toNat p) p (i + 1)).1))), (5, .int (zN ((mlik (H.1 2) (b ||| mtak (H.1 2) b (H.1 2 477).toNat p) p (i + 1)).2))), (6, .int (zN ((((i + 1) : Nat) : Int))))]) (List.forall_mem_cons.mpr ⟨(List.Mem.tail _ (List.Mem.tail _ (List.Mem.tail _ (List.Mem.tail _ (List.Mem.head _))))), (List.forall_mem_cons.mpr ⟨(List.Mem.tail _ (List.Mem.tail _ (List.Mem.tail _ (List.Mem.tail _ (List.Mem.tail _ (List.Mem.head _)))))), (List.forall_mem_cons.mpr ⟨(List.Mem.tail _ (List.Mem.tail _ (List.Mem.tail _ (List.Mem.tail _ (List.Mem.tail _ (List.Mem.tail _ (List.Mem.head _))))))), (List.forall_mem_cons.mpr ⟨(List.Mem.tail _ (List.Mem.tail _ (List.Mem.tail _ (List.Mem.tail _ (List.Mem.tail _ (List.Mem.tail _ (List.Mem.tail _ (List.Mem.head _)))))))), (List.forall_mem_cons.mpr ⟨(mem_ci (by first | rw [show mlik (H.1 2) (b ||| mtak (H.1 2) b (H.1 2 477).toNat p) p (i + 1) = ((i : Int), moff (H.1 2) p i) from if_pos ⟨by omega, by first | exact Or.inl (by omega) | exact Or.inr (by unfold moff; omega)⟩] | rw [show mlik (H.1 2) (b ||| mtak (H.1 2) b (H.1 2 477).toNat p) p (i + 1) = mlik (H.1 2) (b ||| mtak (H.1 2) b (H.1 2 477).toNat p) p i from if_neg (fun q => by rcases q.2 with c | c <;> first | omega | (unfold moff at c; omega))]) (List.Mem.tail _ (List.Mem.tail _ (List.Mem.head _)))), (List.forall_mem_cons.mpr ⟨(mem_ci (by first | (rw [show mlik (H.1 2) (b ||| mtak (H.1 2) b (H.1 2 477).toNat p) p (i + 1) = ((i : Int), moff (H.1 2) p i) from if_pos ⟨by omega, by first | exact Or.inl (by omega) | exact Or.inr (by unfold moff; omega)⟩]; show moff (H.1 2) p i = _; unfold moff; first | exact if_pos (by omega) | exact if_neg (by omega)) | rw [show mlik (H.1 2) (b ||| mtak (H.1 2) b (H.1 2 477).toNat p) p (i + 1) = mlik (H.1 2) (b ||| mtak (H.1 2) b (H.1 2 477).toNat p) p i from if_neg (fun q => by rcases q.2 with c | c <;> first | omega | (unfold moff at c; omega))]) (List.Mem.tail _ (List.Mem.head _))), (List.forall_mem_cons.mpr ⟨(mem_ci (by omega) (List.Mem.head _)), (fun _ h => absurd h List.not_mem_nil)⟩)⟩)⟩)⟩)⟩)⟩)⟩) ?_
                        exact ih36 ((i + 1)) (by first | assumption | omega) (by omega)
                      · skip
                        refine x_goto (pc := 106) (tgt := 117) dX11_matchesOf_106 (by decide) ?_
                        refine z_iinc (pc := 117) dX11_matchesOf_117 (List.Mem.tail _ (List.Mem.tail _ (List.Mem.tail _ (List.Mem.tail _ (List.Mem.tail _ (List.Mem.tail _ (List.Mem.tail _ (List.Mem.head _)))))))) (Nat.le_of_ble_eq_true rfl) ?_
                        show Ev _ _ _ _ _ [(6, .int (zN ((i : Int) + 1))), (7, .int (zN ((0 - ((phurt (H.1 2) p) - (phurt (H.1 2) i)))))), (0, .ref 0), (1, .int (zN ((b : Int)))), (2, .int (zN (((mtak (H.1 2) b (H.1 2 477).toNat p : Nat) : Int)))), (3, .int (zN ((p : Int)))), (4, .int (zN ((mlik (H.1 2) (b ||| mtak (H.1 2) b (H.1 2 477).toNat p) p i).1))), (5, .int (zN ((mlik (H.1 2) (b ||| mtak (H.1 2) b (H.1 2 477).toNat p) p i).2)))] _ _
                        refine x_goto (pc := 120) (tgt := 36) dX11_matchesOf_120 (by decide) ?_
                        refine x_weaken (L1 := [(0, .ref 0), (1, .int (zN ((b : Int)))), (2, .int (zN (((mtak (H.1 2) b (H.1 2 477).toNat p : Nat) : Int)))), (3, .int (zN ((p : Int)))), (4, .int (zN ((mlik (H.1 2) (b ||| mtak (H.1 2) b (H.1 2 477).toNat p) p (i + 1)).1))), (5, .int (zN ((mlik (H.1 2) (b ||| mtak (H.1 2) b (H.1 2 477).toNat p) p (i + 1)).2))), (6, .int (zN ((((i + 1) : Nat) : Int))))]) (List.forall_mem_cons.mpr ⟨(List.Mem.tail _ (List.Mem.tail _ (List.Mem.head _))), (List.forall_mem_cons.mpr ⟨(List.Mem.tail _ (List.Mem.tail _ (List.Mem.tail _ (List.Mem.head _)))), (List.forall_mem_cons.mpr ⟨(List.Mem.tail _ (List.Mem.tail _ (List.Mem.tail _ (List.Mem.tail _ (List.Mem.head _))))), (List.forall_mem_cons.mpr ⟨(List.Mem.tail _ (List.Mem.tail _ (List.Mem.tail _ (List.Mem.tail _ (List.Mem.tail _ (List.Mem.head _)))))), (List.forall_mem_cons.mpr ⟨(mem_ci (by first | rw [show mlik (H.1 2) (b ||| mtak (H.1 2) b (H.1 2 477).toNat p) p (i + 1) = ((i : Int), moff (H.1 2) p i) from if_pos ⟨by omega, by first | exact Or.inl (by omega) | exact Or.inr (by unfold moff; omega)⟩] | rw [show mlik (H.1 2) (b ||| mtak (H.1 2) b (H.1 2 477).toNat p) p (i + 1) = mlik (H.1 2) (b ||| mtak (H.1 2) b (H.1 2 477).toNat p) p i from if_neg (fun q => by rcases q.2 with c | c <;> first | omega | (unfold moff at c; omega))]) (List.Mem.tail _ (List.Mem.tail _ (List.Mem.tail _ (List.Mem.tail _ (List.Mem.tail _ (List.Mem.tail _ (List.Mem.head _)))))))), (List.forall_mem_cons.mpr ⟨(mem_ci (by first | (rw [show mlik (H.1 2) (b ||| mtak (H.1 2) b (H.1 2 477).toNat p) p (i + 1) = ((i : Int), moff (H.1 2) p i) from if_pos ⟨by omega, by first | exact Or.inl (by omega) | exact Or.inr (by unfold moff; omega)⟩]; show moff (H.1 2) p i = _; unfold moff; first | exact if_pos (by omega) | exact if_neg (by omega)) | rw [show mlik (H.1 2) (b ||| mtak (H.1 2) b (H.1 2 477).toNat p) p (i + 1) = mlik (H.1 2) (b ||| mtak (H.1 2) b (H.1 2 477).toNat p) p i from if_neg (fun q => by rcases q.2 with c | c <;> first | omega | (unfold moff at c; omega))]) (List.Mem.tail _ (List.Mem.tail _ (List.Mem.tail _ (List.Mem.tail _ (List.Mem.tail _ (List.Mem.tail _ (List.Mem.tail _ (List.Mem.head _))))))))), (List.forall_mem_cons.mpr ⟨(mem_ci (by omega) (List.Mem.head _)), (fun _ h => absurd h List.not_mem_nil)⟩)⟩)⟩)⟩)⟩)⟩)⟩) ?_
                        exact ih36 ((i + 1)) (by first | assumption | omega) (by omega)
                · skip
                  refine x_goto (pc := 61) (tgt := 117) dX11_matchesOf_61 (by decide) ?_
                  refine z_iinc (pc := 117) dX11_matchesOf_117 (List.Mem.tail _ (List.Mem.tail _ (List.Mem.tail _ (List.Mem.tail _ (List.Mem.tail _ (List.Mem.tail _ (List.Mem.head _))))))) (Nat.le_of_ble_eq_true rfl) ?_
                  show Ev _ _ _ _ _ [(6, .int (zN ((i : Int) + 1))), (0, .ref 0), (1, .int (zN ((b : Int)))), (2, .int (zN (((mtak (H.1 2) b (H.1 2 477).toNat p : Nat) : Int)))), (3, .int (zN ((p : Int)))), (4, .int (zN ((mlik (H.1 2) (b ||| mtak (H.1 2) b (H.1 2 477).toNat p) p i).1))), (5, .int (zN ((mlik (H.1 2) (b ||| mtak (H.1 2) b (H.1 2 477).toNat p) p i).2)))] _ _
                  refine x_goto (pc := 120) (tgt := 36) dX11_matchesOf_120 (by decide) ?_
                  refine x_weaken (L1 := [(0, .ref 0), (1, .int (zN ((b : Int)))), (2, .int (zN (((mtak (H.1 2) b (H.1 2 477).toNat p : Nat) : Int)))), (3, .int (zN ((p : Int)))), (4, .int (zN ((mlik (H.1 2) (b ||| mtak (H.1 2) b (H.1 2 477).toNat p) p (i + 1)).1))), (5, .int (zN ((mlik (H.1 2) (b ||| mtak (H.1 2) b (H.1 2 477).toNat p) p (i + 1)).2))), (6, .int (zN ((((i + 1) : Nat) : Int))))]) (List.forall_mem_cons.mpr ⟨(List.Mem.tail _ (List.Mem.head _)), (List.forall_mem_cons.mpr ⟨(List.Mem.tail _ (List.Mem.tail _ (List.Mem.head _))), (List.forall_mem_cons.mpr ⟨(List.Mem.tail _ (List.Mem.tail _ (List.Mem.tail _ (List.Mem.head _)))), (List.forall_mem_cons.mpr ⟨(List.Mem.tail _ (List.Mem.tail _ (List.Mem.tail _ (List.Mem.tail _ (List.Mem.head _))))), (List.forall_mem_cons.mpr ⟨(mem_ci (by first | rw [show mlik (H.1 2) (b ||| mtak (H.1 2) b (H.1 2 477).toNat p) p (i + 1) = ((i : Int), moff (H.1 2) p i) from if_pos ⟨by omega, by first | exact Or.inl (by omega) | exact Or.inr (by unfold moff; omega)⟩] | rw [show mlik (H.1 2) (b ||| mtak (H.1 2) b (H.1 2 477).toNat p) p (i + 1) = mlik (H.1 2) (b ||| mtak (H.1 2) b (H.1 2 477).toNat p) p i from if_neg (fun q => by rcases q.2 with c | c <;> first | omega | (unfold moff at c; omega))]) (List.Mem.tail _ (List.Mem.tail _ (List.Mem.tail _ (List.Mem.tail _ (List.Mem.tail _ (List.Mem.head _))))))), (List.forall_mem_cons.mpr ⟨(mem_ci (by first | (rw [show mlik (H.1 2) (b ||| mtak (H.1 2) b (H.1 2 477).toNat p) p (i + 1) = ((i : Int), moff (H.1 2) p i) from if_pos ⟨by omega, by first | exact Or.inl (by omega) | exact Or.inr (by unfold moff; omega)⟩]; show moff (H.1 2) p i = _; unfold moff; first | exact if_pos (by omega) | exact if_neg (by omega)) | rw [show mlik (H.1 2) (b ||| mtak (H.1 2) b (H.1 2 477).toNat p) p (i + 1) = mlik (H.1 2) (b ||| mtak (H.1 2) b (H.1 2 477).toNat p) p i from if_neg (fun q => by rcases q.2 with c | c <;> first | omega | (unfold moff at c; omega))]) (List.Mem.tail _ (List.Mem.tail _ (List.Mem.tail _ (List.Mem.tail _ (List.Mem.tail _ (List.Mem.tail _ (List.Mem.head _)))))))), (List.forall_mem_cons.mpr ⟨(mem_ci (by omega) (List.Mem.head _)), (fun _ h => absurd h List.not_mem_nil)⟩)⟩)⟩)⟩)⟩)⟩)⟩) ?_
                  exact ih36 ((i + 1)) (by first | assumption | omega) (by omega)
          refine x_weaken (L1 := [(0, .ref 0), (1, .int (zN ((b : Int)))), (2, .int (zN (((mtak (H.1 2) b (H.1 2 477).toNat p : Nat) : Int)))), (3, .int (zN ((p : Int)))), (4, .int (zN ((mlik (H.1 2) (b ||| mtak (H.1 2) b (H.1 2 477).toNat p) p 0).1))), (5, .int (zN ((mlik (H.1 2) (b ||| mtak (H.1 2) b (H.1 2 477).toNat p) p 0).2))), (6, .int (zN (((0 : Nat) : Int))))]) (List.forall_mem_cons.mpr ⟨(List.Mem.tail _ (List.Mem.tail _ (List.Mem.tail _ (List.Mem.head _)))), (List.forall_mem_cons.mpr ⟨(List.Mem.tail _ (List.Mem.tail _ (List.Mem.tail _ (List.Mem.tail _ (List.Mem.head _))))), (List.forall_mem_cons.mpr ⟨(List.Mem.tail _ (List.Mem.tail _ (List.Mem.tail _ (List.Mem.tail _ (List.Mem.tail _ (List.Mem.head _)))))), (List.forall_mem_cons.mpr ⟨(List.Mem.tail _ (List.Mem.tail _ (List.Mem.tail _ (List.Mem.tail _ (List.Mem.tail _ (List.Mem.tail _ (List.Mem.head _))))))), (List.forall_mem_cons.mpr ⟨(mem_ci (rfl) (List.Mem.tail _ (List.Mem.tail _ (List.Mem.head _)))), (List.forall_mem_cons.mpr ⟨(mem_ci (rfl) (List.Mem.tail _ (List.Mem.head _))), (List.forall_mem_cons.mpr ⟨(mem_ci (by omega) (List.Mem.head _)), (fun _ h => absurd h List.not_mem_nil)⟩)⟩)⟩)⟩)⟩)⟩)⟩) ?_
          exact lp36 ((H.1 2 477).toNat - 0 + 1) (0) (by first | assumption | omega) (Nat.lt_succ_self _)
        · skip
          refine x_goto (pc := 24) (tgt := 130) dX11_matchesOf_24 (by decide) ?_
          refine z_iinc (pc := 130) dX11_matchesOf_130 (List.Mem.tail _ (List.Mem.tail _ (List.Mem.tail _ (List.Mem.head _)))) (Nat.le_of_ble_eq_true rfl) ?_
          show Ev _ _ _ _ _ [(3, .int (zN ((p : Int) + 1))), (0, .ref 0), (1, .int (zN ((b : Int)))), (2, .int (zN (((mtak (H.1 2) b (H.1 2 477).toNat p : Nat) : Int))))] _ _
          refine x_goto (pc := 133) (tgt := 4) dX11_matchesOf_133 (by decide) ?_
          refine x_weaken (L1 := [(0, .ref 0), (1, .int (zN ((b : Int)))), (2, .int (zN (((mtak (H.1 2) b (H.1 2 477).toNat (p + 1) : Nat) : Int)))), (3, .int (zN ((((p + 1) : Nat) : Int))))]) (List.forall_mem_cons.mpr ⟨(List.Mem.tail _ (List.Mem.head _)), (List.forall_mem_cons.mpr ⟨(List.Mem.tail _ (List.Mem.tail _ (List.Mem.head _))), (List.forall_mem_cons.mpr ⟨(mem_ci (by first | (rw [show mtak (H.1 2) b (H.1 2 477).toNat (p + 1) = mtak (H.1 2) b (H.1 2 477).toNat p from if_pos (by omega)]) | (rw [show mtak (H.1 2) b (H.1 2 477).toNat (p + 1) = mtak (H.1 2) b (H.1 2 477).toNat p ||| 2 ^ ((mlik (H.1 2) (b ||| mtak (H.1 2) b (H.1 2 477).toNat p) p (H.1 2 477).toNat).1).toNat from if_neg (by omega), ei])) (List.Mem.tail _ (List.Mem.tail _ (List.Mem.tail _ (List.Mem.head _))))), (List.forall_mem_cons.mpr ⟨(mem_ci (by omega) (List.Mem.head _)), (fun _ h => absurd h List.not_mem_nil)⟩)⟩)⟩)⟩) ?_
          exact ih4 ((p + 1)) (by first | assumption | omega) (by omega)
  refine x_weaken (L1 := [(0, .ref 0), (1, .int (zN ((b : Int)))), (2, .int (zN (((mtak (H.1 2) b (H.1 2 477).toNat 0 : Nat) : Int)))), (3, .int (zN (((0 : Nat) : Int))))]) (List.forall_mem_cons.mpr ⟨(List.Mem.tail _ (List.Mem.tail _ (List.Mem.head _))), (List.forall_mem_cons.mpr ⟨(List.Mem.tail _ (List.Mem.tail _ (List.Mem.tail _ (List.Mem.head _)))), (List.forall_mem_cons.mpr ⟨(mem_ci (rfl) (List.Mem.tail _ (List.Mem.head _))), (List.forall_mem_cons.mpr ⟨(mem_ci (by omega) (List.Mem.head _)), (fun _ h => absurd h List.not_mem_nil)⟩)⟩)⟩)⟩) ?_
  exact lp4 ((H.1 2 477).toNat - 0 + 1) (0) (by first | assumption | omega) (Nat.lt_succ_self _)
