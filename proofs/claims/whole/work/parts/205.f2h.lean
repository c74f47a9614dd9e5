/-! GROUP F2: images, the scene's own calls. -/
/-- the state at s (scene a, law b, places c) is now as that at the others -/
def TakeSt (H H1 : ZH) (s a b c o x y z : Nat) : Prop := ∃ Ha Hb Hc : ZH, TakeSc H Ha a x ∧ TakeLw Ha Hb b y ∧ TakePl Hb Hc c z ∧ H1 = wA Hc (s + 1) (zcpy (Hc.1 (o + 1)) (Hc.1 (s + 1)) 0 0 20)
def zandn (t : Int) (k : Nat) : Int := if t / 2 ^ k % 2 = 1 then t - 2 ^ k else t
theorem zandn_ok : ∀ t : Fin 256, ∀ k : Fin 8, zN ((t : Nat) : Int) &&& (zN ((2 ^ (k : Nat) : Nat) : Int) ^^^ zN (-1)) = zN (zandn ((t : Nat) : Int) k) := by decide +kernel
theorem z_andn {X : MX} {mi : MI} {C : MCall} {Rt : MPost} {pc : Nat} {L : ML} {S : List Value} {H : ZH} (t : Int) (k : Nat) (dg : decode mi.2.1 pc = .ok (.ixor, 1)) (d2 : decode mi.2.1 (pc + 1) = .ok (.iand, 1)) (h1 : 0 ≤ t) (h2 : t < 256) (h3 : k < 8) (kk : Ev X mi C Rt (pc + 1 + 1) L (.int (zN (zandn t k)) :: S) (eh H)) : Ev X mi C Rt pc L (.int (zN (-1)) :: .int (zN ((2 ^ k : Nat) : Int)) :: .int (zN t) :: S) (eh H) := by
  obtain ⟨m, rfl⟩ := Int.eq_ofNat_of_zero_le h1
  have e := zandn_ok ⟨m, by omega⟩ ⟨k, h3⟩
  refine x_ixor dg (x_iand d2 ?_)
  rw [show zN ((m : Nat) : Int) &&& (zN ((2 ^ k : Nat) : Int) ^^^ zN (-1)) = zN (zandn (m : Int) k) from e]
  exact kk
theorem and_bit : ∀ t : Fin 256, ∀ k : Fin 8, (((t : Nat) &&& 2 ^ (k : Nat)) = 0 ↔ (t : Nat) / 2 ^ (k : Nat) % 2 = 0) := by decide +kernel
theorem and_bitI {t : Int} {k : Nat} (h1 : 0 ≤ t) (h2 : t < 256) (h3 : k < 8) : ((((t.toNat &&& 2 ^ k) : Nat) : Int) = 0 ↔ t / 2 ^ k % 2 = 0) := by
  obtain ⟨m, rfl⟩ := Int.eq_ofNat_of_zero_le h1
  have e := and_bit ⟨m, by omega⟩ ⟨k, h3⟩
  have f := bitI m k
  rw [Int.toNat_natCast, f]
  constructor
  · intro h; have := e.mp (by exact_mod_cast h); exact_mod_cast this
  · intro h; have := e.mpr (by exact_mod_cast h); exact_mod_cast this
theorem or256 {t : Int} {k : Nat} (h1 : 0 ≤ t) (h2 : t < 256) (h3 : k < 8) : t.toNat ||| 2 ^ k < 256 := Nat.or_lt_two_pow (n := 8) (by omega) (Nat.pow_lt_pow_right (by decide) h3)
theorem zandn_bd {t : Int} {k : Nat} (h1 : 0 ≤ t) (h2 : t < 256) (h3 : k < 8) : 0 ≤ zandn t k ∧ zandn t k < 256 := by
  have hh : ∀ t : Fin 256, ∀ k : Fin 8, 0 ≤ zandn ((t : Nat) : Int) k ∧ zandn ((t : Nat) : Int) k < 256 := by decide +kernel
  obtain ⟨m, rfl⟩ := Int.eq_ofNat_of_zero_le h1
  exact hh ⟨m, by omega⟩ ⟨k, h3⟩
theorem pow256 {t : Int} {k : Nat} (h1 : 0 ≤ t) (h2 : t < 256) : 0 ≤ t / 2 ^ k ∧ t / 2 ^ k ≤ 255 := by
  have hp : (0 : Int) < 2 ^ k := Int.pow_pos (by decide)
  exact ⟨Int.ediv_nonneg h1 (by omega), Int.le_trans (Int.ediv_le_self _ h1) (by omega)⟩
def S_car (A : Nat → Int) (c what : Int) : Int × Nat := if (0 ≤ c ∧ c ≤ A 1 - 1) ∧ (0 ≤ what ∧ what ≤ 3) then (A (2 + 8 * what.toNat + c.toNat), 6) else (-2, 0)
def S_trait (A : Nat → Int) (tr : Int) : Int × Nat := if 0 ≤ tr ∧ tr ≤ 7 then (A 34 / 2 ^ tr.toNat % 2, 6) else (-2, 0)
def trnew (A : Nat → Int) (tr on : Int) : Int := if on = 0 then zandn (A 34) tr.toNat else (((A 34).toNat ||| 2 ^ tr.toNat : Nat) : Int)
def S_set (A : Nat → Int) (what v : Int) : Int × Nat := if 0 ≤ what ∧ what ≤ 3 then (if (if what = 3 then 1 else 0) ≤ v ∧ v ≤ (if what = 0 then 30 else if what = 1 then 20 else if what = 2 then 60 else 200) then (A (35 + what.toNat), 6) else (-3, 1)) else (-2, 0)
def S_count (A : Nat → Int) (t what : Int) : Int := if what = 0 then A 0 else if what = 1 then A 1 else if what = 2 then A 34 else if what = 3 then A 35 else if what = 4 then A 36 else if what = 5 then A 37 else if what = 6 then A 38 else if what = 7 then A 40 else if what = 8 then A 477 else if what = 9 then t else if what = 10 then A 39 else -1
theorem wA_gen (H : ZH) (c b : Nat) (f : Nat → Int) (k : Nat) (v : Int) (hv : v = f k) : wI (wA H c (fun j => if b ≤ j ∧ j < b + k then f (j - b) else H.1 c j)) c (b + k) v = wA H c (fun j => if b ≤ j ∧ j < b + (k + 1) then f (j - b) else H.1 c j) := by
  unfold wI wA
  refine Prod.ext ?_ rfl
  funext c' k'
  show (if c' = c ∧ k' = b + k then v else if c' = c then (if b ≤ k' ∧ k' < b + k then f (k' - b) else H.1 c k') else H.1 c' k') = if c' = c then (if b ≤ k' ∧ k' < b + (k + 1) then f (k' - b) else H.1 c k') else H.1 c' k'
  by_cases h1 : c' = c
  · by_cases h2 : k' = b + k
    · rw [if_pos ⟨h1, h2⟩, if_pos h1, if_pos (by omega), hv, show k' - b = k by omega]
    · rw [if_neg (fun q => h2 q.2), if_pos h1, if_pos h1]
      by_cases h3 : b ≤ k' ∧ k' < b + k
      · rw [if_pos h3, if_pos (by omega)]
      · rw [if_neg h3, if_neg (by omega)]
  · rw [if_neg (fun q => h1 q.1), if_neg h1, if_neg h1]
theorem wA_gen0 (H : ZH) (c b : Nat) (f : Nat → Int) : H = wA H c (fun j => if b ≤ j ∧ j < b + 0 then f (j - b) else H.1 c j) := by
  have e : (fun j => if b ≤ j ∧ j < b + 0 then f (j - b) else H.1 c j) = H.1 c := by funext j; exact if_neg (by omega)
  rw [e, wA_self]
