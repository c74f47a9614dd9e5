/-! GROUP S2: what SPENT is; shifts of longs. -/
theorem zN_and15 (a : Int) : zN a &&& zN 15 = zN (a % 16) := by
  rw [pk_and (zN a) (m := zN 15) 4 (by decide), ← zN_nat]
  congr 1
  show (((BitVec.ofInt 32 a).toNat % 2 ^ 4 : Nat) : Int) = a % 16
  rw [BitVec.toNat_ofInt]
  omega
theorem z_iand15 {X : MX} {mi : MI} {C : MCall} {Rt : MPost} {pc : Nat} {L : ML} {S : List Value} {H : ZH} {a : Int} (dg : decode mi.2.1 pc = .ok (.iand, 1)) (kk : Ev X mi C Rt (pc + 1) L (.int (zN (a % 16)) :: S) (eh H)) : Ev X mi C Rt pc L (.int (zN 15) :: .int (zN a) :: S) (eh H) := x_iand dg (zN_and15 a ▸ kk)
theorem lsh_k : ∀ q : Fin 64, ((((zN ((q : Nat) : Int)).toInt64 &&& 63)).toBitVec.smod 64).toNat = (q : Nat) := by decide +kernel
theorem zL_shl (a : Int) {k : Nat} (hk : k < 64) : zL a <<< ((zN (k : Int)).toInt64 &&& 63) = zL (a * 2 ^ k) := by
  apply Int64.toBitVec_inj.mp
  apply BitVec.eq_of_toNat_eq
  have e : (zL a <<< ((zN (k : Int)).toInt64 &&& 63)).toBitVec = (zL a).toBitVec <<< (((zN (k : Int)).toInt64 &&& 63).toBitVec.smod 64) := rfl
  rw [e, BitVec.shiftLeft_eq', BitVec.toNat_shiftLeft, lsh_k ⟨k, hk⟩, Nat.shiftLeft_eq]
  show (BitVec.ofInt 64 a).toNat * 2 ^ k % 2 ^ 64 = (BitVec.ofInt 64 (a * 2 ^ k)).toNat
  rw [BitVec.toNat_ofInt, BitVec.toNat_ofInt]
  apply Int.ofNat_inj.mp
  have h0 : (0 : Int) ≤ a % ((2 ^ 64 : Nat) : Int) := Int.emod_nonneg _ (by decide)
  have h1 : (0 : Int) ≤ (a * 2 ^ k) % ((2 ^ 64 : Nat) : Int) := Int.emod_nonneg _ (by decide)
  rw [Int.toNat_of_nonneg h1, Int.natCast_emod, Int.natCast_mul, Int.toNat_of_nonneg h0, show ((2 ^ k : Nat) : Int) = (2 : Int) ^ k from by rw [Int.natCast_pow]; rfl, Int.mul_emod, Int.emod_emod_of_dvd a (Int.dvd_refl _), ← Int.mul_emod]
theorem z_lshl {X : MX} {mi : MI} {C : MCall} {Rt : MPost} {pc : Nat} {L : ML} {S : List Value} {H : ZH} {a b : Int} (k : Nat) (dg : decode mi.2.1 pc = .ok (.lshl, 1)) (eb : b = k) (hk : k < 64) (kk : Ev X mi C Rt (pc + 1) L (.long (zL (a * 2 ^ k)) :: S) (eh H)) : Ev X mi C Rt pc L (.int (zN b) :: .long (zL a) :: S) (eh H) := by
  subst eb
  exact x_lshl dg (zL_shl a hk ▸ kk)
theorem z_lshr {X : MX} {mi : MI} {C : MCall} {Rt : MPost} {pc : Nat} {L : ML} {S : List Value} {H : ZH} {a b : Int} (k : Nat) (dg : decode mi.2.1 pc = .ok (.lshr, 1)) (eb : b = k) (hk : k < 64) (a1 : 0 ≤ a) (a2 : a ≤ 9223372036854775807) (kk : Ev X mi C Rt (pc + 1) L (.long (zL (a / 2 ^ k)) :: S) (eh H)) : Ev X mi C Rt pc L (.int (zN b) :: .long (zL a) :: S) (eh H) := by
  subst eb
  have h0 : 0 ≤ a / 2 ^ k := Int.ediv_nonneg a1 (Int.le_of_lt (Int.pow_pos (by decide)))
  have h1 : a / 2 ^ k ≤ a := Int.ediv_le_self _ a1
  have e : zL a >>> ((zN (k : Int)).toInt64 &&& 63) = zL (a / 2 ^ k) := by
    apply Int64.toInt_inj.mp
    have e2 : (zL a >>> ((zN (k : Int)).toInt64 &&& 63)).toInt = ((zL a).toBitVec.sshiftRight' (((zN (k : Int)).toInt64 &&& 63).toBitVec.smod 64)).toInt := rfl
    rw [e2, BitVec.toInt_sshiftRight', lsh_k ⟨k, hk⟩, Int.shiftRight_eq_div_pow]
    show (zL a).toInt / ((2 ^ k : Nat) : Int) = _
    rw [zL_toInt (by omega) a2, zL_toInt (by omega) (by omega), show ((2 ^ k : Nat) : Int) = (2 : Int) ^ k from by rw [Int.natCast_pow]; rfl]
  exact x_lshr dg (e ▸ kk)
theorem zL_or (a b : Nat) : zL (a : Int) ||| zL (b : Int) = zL ((a ||| b : Nat) : Int) := by
  apply Int64.toBitVec_inj.mp
  show BitVec.ofInt 64 (a : Int) ||| BitVec.ofInt 64 (b : Int) = BitVec.ofInt 64 ((a ||| b : Nat) : Int)
  rw [BitVec.ofInt_natCast, BitVec.ofInt_natCast, BitVec.ofInt_natCast, BitVec.ofNat_or]
theorem z_lor {X : MX} {mi : MI} {C : MCall} {Rt : MPost} {pc : Nat} {L : ML} {S : List Value} {H : ZH} {a b : Int} (m n : Nat) (dg : decode mi.2.1 pc = .ok (.lor, 1)) (ea : a = m) (eb : b = n) (kk : Ev X mi C Rt (pc + 1) L (.long (zL ((m ||| n : Nat) : Int)) :: S) (eh H)) : Ev X mi C Rt pc L (.long (zL b) :: .long (zL a) :: S) (eh H) := by subst ea; subst eb; exact x_lor dg (zL_or m n ▸ kk)
/-- the first best of those that are allowed -/
def bs (v : Nat → Int) (g : Nat → Bool) : Nat → Nat
  | 0 => 0
  | n + 1 => if g n = true ∧ v n < v (bs v g n) then n else bs v g n
theorem bs_s {v : Nat → Int} {g : Nat → Bool} {n : Nat} : bs v g (n + 1) = if g n = true ∧ v n < v (bs v g n) then n else bs v g n := rfl
theorem bs_p {v : Nat → Int} {g : Nat → Bool} (h0 : g 0 = true) : ∀ n, 1 ≤ n → g (bs v g n) = true ∧ bs v g n < n ∧ (∀ b, b < n → g b = true → v (bs v g n) ≤ v b) ∧ (∀ b, b < bs v g n → g b = true → v (bs v g n) < v b) := by
  intro n
  induction n with
  | zero => intro h; exact absurd h (by omega)
  | succ n ih =>
    intro _
    by_cases hn : n = 0
    · subst hn
      have e : bs v g 1 = 0 := if_neg (fun z => absurd z.2 (Int.lt_irrefl _))
      rw [e]
      exact ⟨h0, by omega, fun b hb _ => by rw [show b = 0 by omega]; exact Int.le_refl _, fun b hb _ => absurd hb (Nat.not_lt_zero _)⟩
    · obtain ⟨i1, i2, i3, i4⟩ := ih (by omega)
      rw [bs_s]
      by_cases z : g n = true ∧ v n < v (bs v g n)
      · rw [if_pos z]
        refine ⟨z.1, by omega, fun b hb hg => ?_, fun b hb hg => ?_⟩
        · by_cases e : b = n
          · rw [e]; exact Int.le_refl _
          · have y := i3 b (by omega) hg
            omega
        · have y := i3 b hb hg
          omega
      · rw [if_neg z]
        refine ⟨i1, by omega, fun b hb hg => ?_, i4⟩
        by_cases e : b = n
        · subst e
          have y : ¬ v b < v (bs v g b) := fun y => z ⟨hg, y⟩
          omega
        · exact i3 b (by omega) hg
theorem bs_u {v : Nat → Int} {g h : Nat → Bool} (g0 : g 0 = true) (h0 : h 0 = true) (hs : ∀ b, b < 16 → h b = true → g b = true) (hb : h (bs v g 16) = true) : bs v h 16 = bs v g 16 := by
  obtain ⟨i1, i2, i3, i4⟩ := bs_p (v := v) g0 16 (by omega)
  obtain ⟨j1, j2, j3, j4⟩ := bs_p (v := v) h0 16 (by omega)
  have a := j3 _ i2 hb
  have gb := hs _ j2 j1
  have b := i3 _ j2 gb
  rcases Nat.lt_trichotomy (bs v h 16) (bs v g 16) with c | c | c
  · have d := i4 _ c gb
    omega
  · exact c
  · have d := j4 _ c hb
    omega
theorem bs_skip {v : Nat → Int} {g : Nat → Bool} {b : Nat} : ∀ n, b ≤ n → (∀ x, b ≤ x → x < n → g x = false) → bs v g n = bs v g b := by
  intro n
  induction n with
  | zero => intro h _; rw [show b = 0 by omega]
  | succ n ih =>
    intro h hx
    by_cases e : b = n + 1
    · rw [e]
    · rw [bs_s, if_neg (fun z => by have y := hx n (by omega) (by omega); rw [y] at z; exact absurd z.1 (by decide))]
      exact ih (by omega) (fun x h1 h2 => hx x h1 (by omega))
/-- how many of the first n are so -/
def wn (U : Nat → Bool) : Nat → Nat
  | 0 => 0
  | n + 1 => wn U n + (if U n = true then 1 else 0)
theorem wn_le {U : Nat → Bool} {b : Nat} : ∀ n, b ≤ n → wn U b ≤ wn U n := by
  intro n
  induction n with
  | zero => intro h; rw [show b = 0 by omega]; exact Nat.le_refl _
  | succ n ih =>
    intro h
    by_cases e : b = n + 1
    · rw [e]; exact Nat.le_refl _
    · exact Nat.le_trans (ih (by omega)) (Nat.le_add_right _ _)
theorem wn_bd {U : Nat → Bool} : ∀ n, wn U n ≤ n := by
  intro n
  induction n with
  | zero => exact Nat.le_refl _
  | succ n ih =>
    show wn U n + (if U n = true then 1 else 0) ≤ n + 1
    split <;> omega
theorem wn_next {U : Nat → Bool} {n : Nat} : ∀ k b, n - b = k → b ≤ n → wn U b < wn U n → ∃ c, b ≤ c ∧ c < n ∧ U c = true ∧ wn U c = wn U b ∧ ∀ x, b ≤ x → x < c → U x = false := by
  intro k
  induction k with
  | zero => intro b hk hb h; rw [show b = n by omega] at h; exact absurd h (Nat.lt_irrefl _)
  | succ k ih =>
    intro b hk hb h
    by_cases u : U b = true
    · exact ⟨b, Nat.le_refl _, by omega, u, rfl, fun x h1 h2 => by omega⟩
    · have e : wn U (b + 1) = wn U b := by show wn U b + (if U b = true then 1 else 0) = wn U b; rw [if_neg u]; omega
      obtain ⟨c, c1, c2, c3, c4, c5⟩ := ih (b + 1) (by omega) (by omega) (by rw [e]; exact h)
      exact ⟨c, by omega, c2, c3, c4.trans e, fun x h1 h2 => by
        by_cases ex : x = b
        · rw [ex]; exact Bool.eq_false_iff.mpr u
        · exact c5 x (by omega) h2⟩
theorem wn_end {U : Nat → Bool} {n b : Nat} (hb : b ≤ n) (h : wn U n ≤ wn U b) : ∀ x, b ≤ x → x < n → U x = false := by
  intro x h1 h2
  by_cases u : U x = true
  · have e : wn U (x + 1) = wn U x + 1 := by show wn U x + (if U x = true then 1 else 0) = wn U x + 1; rw [if_pos u]
    have y := wn_le (U := U) (b := b) x h1
    have y2 := wn_le (U := U) (b := x + 1) n (by omega)
    omega
  · exact Bool.eq_false_iff.mpr u
/-- what is left and what it costs, in one number -/
def zz (A : Nat → Int) (p b : Nat) : Int := mleft A p b 4 * 1000 + mcost A b 4
def vv (A : Nat → Int) (p : Nat) (f : Nat → Int) (c b : Nat) : Int := zz A p b + f (c - (mcost A b 4).toNat)
def cOk (A : Nat → Int) (c b : Nat) : Bool := decide (mcost A b 4 ≤ (c : Int))
/-- the best for the last k of N PLACES with c coins -/
def zo (A : Nat → Int) (N : Nat) : Nat → Nat → Int
  | 0, _ => 0
  | k + 1, c => vv A (N - 1 - k) (zo A N k) c (bs (vv A (N - 1 - k) (zo A N k) c) (cOk A c) 16)
def sB (A : Nat → Int) (N k c : Nat) : Nat := bs (vv A (N - 1 - k) (zo A N k) c) (cOk A c) 16
theorem zo_s (A : Nat → Int) (N k c : Nat) : zo A N (k + 1) c = vv A (N - 1 - k) (zo A N k) c (sB A N k c) := rfl
def chD (A : Nat → Int) (N : Nat) : Nat → Nat → Nat
  | 0, _ => 0
  | k + 1, c => sB A N k c * 16 ^ k + chD A N k (c - (mcost A (sB A N k c) 4).toNat)
theorem mcost_0 (A : Nat → Int) : mcost A 0 4 = 0 := by
  show (((0 + (if ((0 : Nat) : Int) / 2 ^ 0 % 2 = 0 then 0 else A (550 + 0))) + (if ((0 : Nat) : Int) / 2 ^ 1 % 2 = 0 then 0 else A (550 + 1))) + (if ((0 : Nat) : Int) / 2 ^ 2 % 2 = 0 then 0 else A (550 + 2))) + (if ((0 : Nat) : Int) / 2 ^ 3 % 2 = 0 then 0 else A (550 + 3)) = 0
  rw [if_pos (by decide), if_pos (by decide), if_pos (by decide), if_pos (by decide)]
  rfl
theorem cOk_0 (A : Nat → Int) (c : Nat) : cOk A c 0 = true := decide_eq_true (by rw [mcost_0]; omega)
theorem mcost_pos {A : Nat → Int} (h : WFP A) {b : Nat} (h1 : 1 ≤ b) (h2 : b < 16) : 1 ≤ mcost A b 4 := by
  have q0 := h.2.2 0 (by omega)
  have q1 := h.2.2 1 (by omega)
  have q2 := h.2.2 2 (by omega)
  have q3 := h.2.2 3 (by omega)
  show 1 ≤ (((0 + (if (b : Int) / 2 ^ 0 % 2 = 0 then 0 else A (550 + 0))) + (if (b : Int) / 2 ^ 1 % 2 = 0 then 0 else A (550 + 1))) + (if (b : Int) / 2 ^ 2 % 2 = 0 then 0 else A (550 + 2))) + (if (b : Int) / 2 ^ 3 % 2 = 0 then 0 else A (550 + 3))
  have z0 : (0 : Int) ≤ (if (b : Int) / 2 ^ 0 % 2 = 0 then 0 else A (550 + 0)) := by split <;> omega
  have z1 : (0 : Int) ≤ (if (b : Int) / 2 ^ 1 % 2 = 0 then 0 else A (550 + 1)) := by split <;> omega
  have z2 : (0 : Int) ≤ (if (b : Int) / 2 ^ 2 % 2 = 0 then 0 else A (550 + 2)) := by split <;> omega
  have z3 : (0 : Int) ≤ (if (b : Int) / 2 ^ 3 % 2 = 0 then 0 else A (550 + 3)) := by split <;> omega
  rcases (show ¬ (b : Int) / 2 ^ 0 % 2 = 0 ∨ ¬ (b : Int) / 2 ^ 1 % 2 = 0 ∨ ¬ (b : Int) / 2 ^ 2 % 2 = 0 ∨ ¬ (b : Int) / 2 ^ 3 % 2 = 0 by omega) with e | e | e | e
  · rw [if_neg e] at z0 ⊢; omega
  · rw [if_neg e] at z1 ⊢; omega
  · rw [if_neg e] at z2 ⊢; omega
  · rw [if_neg e] at z3 ⊢; omega
theorem zo_mo {A : Nat → Int} (h : WFP A) (N : Nat) : ∀ k c d, c ≤ d → zo A N k d ≤ zo A N k c := by
  intro k
  induction k with
  | zero => intro c d _; exact Int.le_refl _
  | succ k ih =>
    intro c d hcd
    obtain ⟨i1, i2, i3, i4⟩ := bs_p (v := vv A (N - 1 - k) (zo A N k) c) (cOk_0 A c) 16 (by omega)
    obtain ⟨j1, j2, j3, j4⟩ := bs_p (v := vv A (N - 1 - k) (zo A N k) d) (cOk_0 A d) 16 (by omega)
    have o1 := of_decide_eq_true i1
    have y := j3 _ i2 (decide_eq_true (by omega))
    refine Int.le_trans y ?_
    exact Int.add_le_add_left (ih _ _ (by omega)) _
/-- a set that another one beats -/
def unB (A : Nat → Int) (p b : Nat) : Bool := decide (lea (beB (zz A p) (fun j => mcost A j 4) b) 16 = -1)
theorem unB_0 {A : Nat → Int} (h : WFP A) (p : Nat) : unB A p 0 = true := by
  refine decide_eq_true (lea_no (fun d hd => decide_eq_false (fun z => ?_)))
  have z2 : mcost A d 4 ≤ mcost A 0 4 := z.2
  rw [mcost_0] at z2
  by_cases e : d = 0
  · subst e
    have z1 := z.1
    omega
  · have y := mcost_pos h (b := d) (by omega) hd
    omega
/-- the first best isn't beaten -/
theorem sB_un {A : Nat → Int} (h : WFP A) (N k c : Nat) : unB A (N - 1 - k) (sB A N k c) = true := by
  obtain ⟨i1, i2, i3, i4⟩ := bs_p (v := vv A (N - 1 - k) (zo A N k) c) (cOk_0 A c) 16 (by omega)
  have o1 := of_decide_eq_true i1
  refine decide_eq_true (lea_no (fun d hd => decide_eq_false (fun z => ?_)))
  have z2 : mcost A d 4 ≤ mcost A (sB A N k c) 4 := z.2
  have z1 : zz A (N - 1 - k) d < zz A (N - 1 - k) (sB A N k c) ∨ (zz A (N - 1 - k) d = zz A (N - 1 - k) (sB A N k c) ∧ d < sB A N k c) := z.1
  have o1 : mcost A (sB A N k c) 4 ≤ (c : Int) := o1
  have m1 := mcost_bd h d 4 (by omega)
  have od : cOk A c d = true := decide_eq_true (by omega)
  have mo : zo A N k (c - (mcost A d 4).toNat) ≤ zo A N k (c - (mcost A (sB A N k c) 4).toNat) := zo_mo h N k _ _ (by omega)
  have y3 : vv A (N - 1 - k) (zo A N k) c (sB A N k c) ≤ vv A (N - 1 - k) (zo A N k) c d := i3 d hd od
  have e1 : vv A (N - 1 - k) (zo A N k) c (sB A N k c) = zz A (N - 1 - k) (sB A N k c) + zo A N k (c - (mcost A (sB A N k c) 4).toNat) := rfl
  have e2 : vv A (N - 1 - k) (zo A N k) c d = zz A (N - 1 - k) d + zo A N k (c - (mcost A d 4).toNat) := rfl
  rcases z1 with z1 | z1
  · omega
  · have y4 : vv A (N - 1 - k) (zo A N k) c (sB A N k c) < vv A (N - 1 - k) (zo A N k) c d := i4 d z1.2 od
    omega
def uOk (A : Nat → Int) (p c b : Nat) : Bool := unB A p b && cOk A c b
theorem sB_U {A : Nat → Int} (h : WFP A) (N k c : Nat) : bs (vv A (N - 1 - k) (zo A N k) c) (uOk A (N - 1 - k) c) 16 = sB A N k c := by
  have i1 := (bs_p (v := vv A (N - 1 - k) (zo A N k) c) (cOk_0 A c) 16 (by omega)).1
  refine bs_u (cOk_0 A c) ?_ (fun b _ hb => ?_) ?_
  · show (unB A (N - 1 - k) 0 && cOk A c 0) = true
    rw [unB_0 h, cOk_0]; rfl
  · have hb : (unB A (N - 1 - k) b && cOk A c b) = true := hb
    exact (Bool.and_eq_true_iff.mp hb).2
  · show (unB A (N - 1 - k) (sB A N k c) && cOk A c (sB A N k c)) = true
    rw [sB_un h, show cOk A c (sB A N k c) = true from i1]; rfl
theorem sB_lt (A : Nat → Int) (N k c : Nat) : sB A N k c < 16 ∧ mcost A (sB A N k c) 4 ≤ (c : Int) := by
  have y := bs_p (v := vv A (N - 1 - k) (zo A N k) c) (cOk_0 A c) 16 (by omega)
  exact ⟨y.2.1, of_decide_eq_true y.1⟩
theorem chD_lt (A : Nat → Int) (N : Nat) : ∀ k c, chD A N k c < 16 ^ k := by
  intro k
  induction k with
  | zero => intro c; exact Nat.lt_succ_self 0
  | succ k ih =>
    intro c
    have y := ih (c - (mcost A (sB A N k c) 4).toNat)
    have s := (sB_lt A N k c).1
    show sB A N k c * 16 ^ k + chD A N k (c - (mcost A (sB A N k c) 4).toNat) < 16 ^ (k + 1)
    rw [Nat.pow_succ]
    have m : sB A N k c * 16 ^ k ≤ 15 * 16 ^ k := Nat.mul_le_mul_right _ (by omega)
    omega
theorem zo_bd {A : Nat → Int} (h : WFP A) {N : Nat} (hN : N ≤ 12) : ∀ k c, k ≤ N → 0 ≤ zo A N k c ∧ zo A N k c ≤ 6000000000 * (k : Int) + (c : Int) := by
  intro k
  induction k with
  | zero => intro c _; exact ⟨Int.le_refl _, by show (0 : Int) ≤ _; omega⟩
  | succ k ih =>
    intro c hk
    have s := sB_lt A N k c
    have m := mcost_bd h (sB A N k c) 4 (by omega)
    have y := ih (c - (mcost A (sB A N k c) 4).toNat) (by omega)
    have l := mleft_bd h (p := N - 1 - k) (by omega) (sB A N k c) 4 (by omega)
    rw [zo_s]
    show 0 ≤ mleft A (N - 1 - k) (sB A N k c) 4 * 1000 + mcost A (sB A N k c) 4 + zo A N k (c - (mcost A (sB A N k c) 4).toNat) ∧ mleft A (N - 1 - k) (sB A N k c) 4 * 1000 + mcost A (sB A N k c) 4 + zo A N k (c - (mcost A (sB A N k c) 4).toNat) ≤ _
    omega
/-- the coin that is there at PLACE x -/
def cx (A : Nat → Int) (N c : Nat) : Nat → Nat
  | 0 => c
  | x + 1 => cx A N c x - (mcost A (sB A N (N - 1 - x) (cx A N c x)) 4).toNat
theorem chD_x (A : Nat → Int) (N c : Nat) : ∀ x, x ≤ N → chD A N N c % 16 ^ (N - x) = chD A N (N - x) (cx A N c x) := by
  intro x
  induction x with
  | zero => intro _; exact Nat.mod_eq_of_lt (chD_lt A N N c)
  | succ x ih =>
    intro hx
    have i := ih (by omega)
    obtain ⟨k, hk⟩ : ∃ k, N - x = k + 1 := ⟨N - x - 1, by omega⟩
    rw [hk] at i
    rw [show N - (x + 1) = k by omega]
    have e : chD A N N c % 16 ^ k = (chD A N N c % 16 ^ (k + 1)) % 16 ^ k := by
      rw [Nat.mod_mod_of_dvd _ (Nat.pow_dvd_pow 16 (Nat.le_succ k))]
    rw [e, i]
    show (sB A N k (cx A N c x) * 16 ^ k + chD A N k (cx A N c x - (mcost A (sB A N k (cx A N c x)) 4).toNat)) % 16 ^ k = chD A N k (cx A N c x - (mcost A (sB A N (N - 1 - x) (cx A N c x)) 4).toNat)
    rw [show N - 1 - x = k by omega, Nat.mul_add_mod_self_right]
    exact Nat.mod_eq_of_lt (chD_lt A N k _)
/-- the digit of PLACE x -/
theorem chD_d (A : Nat → Int) (N c x : Nat) (hx : x < N) : chD A N N c / 16 ^ (N - 1 - x) % 16 = sB A N (N - 1 - x) (cx A N c x) := by
  have i := chD_x A N c x (by omega)
  obtain ⟨k, hk⟩ : ∃ k, N - x = k + 1 := ⟨N - x - 1, by omega⟩
  rw [hk] at i
  rw [show N - 1 - x = k by omega]
  have e : chD A N N c / 16 ^ k % 16 = chD A N N c % 16 ^ (k + 1) / 16 ^ k := by
    rw [Nat.pow_succ, Nat.mod_mul_right_div_self]
  rw [e, i]
  show (sB A N k (cx A N c x) * 16 ^ k + chD A N k (cx A N c x - (mcost A (sB A N k (cx A N c x)) 4).toNat)) / 16 ^ k = sB A N k (cx A N c x)
  rw [Nat.mul_comm, Nat.mul_add_div (Nat.pow_pos (by decide)), Nat.div_eq_of_lt (chD_lt A N k _), Nat.add_zero]
/-- the digits as bits -/
theorem dig_or {s k r : Nat} (h : r < 16 ^ k) : s * 2 ^ (4 * k) ||| r = s * 16 ^ k + r := by
  have e : (2 : Nat) ^ (4 * k) = 16 ^ k := by rw [Nat.pow_mul]
  have y := Nat.two_pow_add_eq_or_of_lt (i := 4 * k) (b := r) (by rw [e]; exact h) s
  rw [Nat.mul_comm s, ← y, e, Nat.mul_comm s]
