/-! GROUP G25: the class's choices on their way. -/
def EncF (h : Nat → Int) : Nat → List Bool → Prop
  | _, [] => True
  | k, b :: l => h k = (if b = true then 1 else 0) ∧ EncF h (k + 1) l
theorem EncF_app {h : Nat → Int} (l m : List Bool) : ∀ k, EncF h k (l ++ m) ↔ EncF h k l ∧ EncF h (k + l.length) m := by
  induction l with
  | nil => intro k; exact ⟨fun z => ⟨trivial, z⟩, fun z => z.2⟩
  | cons b l ih =>
    intro k
    show (h k = _ ∧ EncF h (k + 1) (l ++ m)) ↔ (h k = _ ∧ EncF h (k + 1) l) ∧ EncF h (k + (l.length + 1)) m
    rw [ih (k + 1), show k + 1 + l.length = k + (l.length + 1) by omega, and_assoc]
theorem EncF_cg {h h1 : Nat → Int} (l : List Bool) : ∀ k, (∀ i, k ≤ i → i < k + l.length → h1 i = h i) → EncF h k l → EncF h1 k l := by
  induction l with
  | nil => intro _ _ _; trivial
  | cons b l ih =>
    intro k hk e
    have z : (b :: l).length = l.length + 1 := rfl
    exact ⟨(hk k (Nat.le_refl _) (by omega)).trans e.1, ih (k + 1) (fun i a b2 => hk i (by omega) (by omega)) e.2⟩
theorem lff_e {A N : Nat → Int} {wo w : Int} {f : Nat} {p : List Bool} (h : N 37 ≠ 0) : lff A wo f N w p = (N, w, []) := by
  cases f with
  | zero => rfl
  | succ f => exact if_pos h
theorem vlf_e {A N : Nat → Int} {wo : Int} {f : Nat} {p : List Bool} (h : N 37 ≠ 0) (v : vlf A wo f N p) : p = [] := by
  cases f with
  | zero => exact v
  | succ f =>
    have z : (if N 37 ≠ 0 then p = [] else _) := v
    rw [if_pos h] at z
    exact z
theorem lff_d {A N : Nat → Int} {wo w : Int} {f : Nat} {p : List Bool} (h37 : N 37 = 0) (hk : N 41 < A 1) (hr : rnd A wo N = false) : lff A wo (f + 1) N w p = lff A wo f (drw1 A wo N) w p ∧ (vlf A wo (f + 1) N p ↔ vlf A wo f (drw1 A wo N) p) := by
  refine ⟨?_, ?_⟩
  · show (if N 37 ≠ 0 then (N, w, []) else if N 41 < A 1 then (if rnd A wo N = true then _ else lff A wo f (drw1 A wo N) w p) else lff A wo f (tickF A N) w p) = _
    rw [if_neg (fun z => z h37), if_pos hk, if_neg (by rw [hr]; decide)]
  · show (if N 37 ≠ 0 then p = [] else if N 41 < A 1 then (if rnd A wo N = true then _ else vlf A wo f (drw1 A wo N) p) else vlf A wo f (tickF A N) p) ↔ _
    rw [if_neg (fun z => z h37), if_pos hk, if_neg (by rw [hr]; decide)]
theorem lff_t {A N : Nat → Int} {wo w : Int} {f : Nat} {p : List Bool} (h37 : N 37 = 0) (hk : ¬ N 41 < A 1) : lff A wo (f + 1) N w p = lff A wo f (tickF A N) w p ∧ (vlf A wo (f + 1) N p ↔ vlf A wo f (tickF A N) p) := by
  refine ⟨?_, ?_⟩
  · show (if N 37 ≠ 0 then (N, w, []) else if N 41 < A 1 then _ else lff A wo f (tickF A N) w p) = _
    rw [if_neg (fun z => z h37), if_neg hk]
  · show (if N 37 ≠ 0 then p = [] else if N 41 < A 1 then _ else vlf A wo f (tickF A N) p) ↔ _
    rw [if_neg (fun z => z h37), if_neg hk]
def wsh (A : Nat → Int) (wo : Int) (N : Nat → Int) (w : Int) (b : Bool) : Int := w / 100 * (if b = true then shr A N wo (N 41).toNat else 100 - shr A N wo (N 41).toNat)
theorem lff_r {A N : Nat → Int} {wo w : Int} {f : Nat} (h37 : N 37 = 0) (hk : N 41 < A 1) (hr : rnd A wo N = true) (b : Bool) (p : List Bool) : lff A wo (f + 1) N w (b :: p) = ((lff A wo f (frc N b) (wsh A wo N w b) p).1, (lff A wo f (frc N b) (wsh A wo N w b) p).2.1, b :: (lff A wo f (frc N b) (wsh A wo N w b) p).2.2) ∧ (vlf A wo (f + 1) N (b :: p) ↔ vlf A wo f (frc N b) p) ∧ lff A wo (f + 1) N w [] = ((lff A wo f (frc N true) (wsh A wo N w true) []).1, (lff A wo f (frc N true) (wsh A wo N w true) []).2.1, true :: (lff A wo f (frc N true) (wsh A wo N w true) []).2.2) := by
  refine ⟨?_, ?_, ?_⟩
  · show (if N 37 ≠ 0 then (N, w, []) else if N 41 < A 1 then (if rnd A wo N = true then _ else _) else _) = _
    rw [if_neg (fun z => z h37), if_pos hk, if_pos hr]
    cases b <;> rfl
  · show (if N 37 ≠ 0 then (b :: p) = [] else if N 41 < A 1 then (if rnd A wo N = true then vlf A wo f (frc N b) p else _) else _) ↔ _
    rw [if_neg (fun z => z h37), if_pos hk, if_pos hr]
  · show (if N 37 ≠ 0 then (N, w, []) else if N 41 < A 1 then (if rnd A wo N = true then _ else _) else _) = _
    rw [if_neg (fun z => z h37), if_pos hk, if_pos hr]
    rfl
theorem vlf_len {A : Nat → Int} {wo : Int} (ws1 : 0 ≤ A 1 ∧ A 1 ≤ 8) (ws0 : 1 ≤ A 0 ∧ A 0 ≤ 4) (f : Nat) : ∀ N p, WFT A N → vlf A wo f N p → p.length ≤ und A N := by
  induction f with
  | zero => intro N p _ v; rw [show p = [] from v]; exact Nat.zero_le _
  | succ f ih =>
    intro N p hw v
    by_cases h37 : N 37 = 0
    · by_cases hk : N 41 < A 1
      · cases hr : rnd A wo N with
        | true =>
          cases p with
          | nil => exact Nat.zero_le _
          | cons b p =>
            have z := (lff_r (w := 0) (f := f) h37 hk hr b p).2.1.mp v
            obtain ⟨w2, u2, _⟩ := frc_s ws1.2 hw hk (rnd_t hr).1 b
            have := ih _ _ w2 z
            show p.length + 1 ≤ _
            omega
        | false =>
          have z := (lff_d (w := 0) h37 hk hr).2.mp v
          obtain ⟨w2, m2, _⟩ := drw1_s (wo := wo) ws1.2 hw hk
          have := ih _ _ w2 z
          have := (rk_drw (wo := wo) ws1.2 hw h37 hk).1
          omega
      · have z := (lff_t (w := 0) h37 hk).2.mp v
        rcases tick_s ws1 ws0 hw h37 with ⟨t1, t2, _⟩ | ⟨t1, t2, _⟩
        · have := ih _ _ t1 z
          omega
        · have := ih _ _ t1 z
          omega
    · rw [vlf_e h37 v]; exact Nat.zero_le _
/-- the class's choices stand where the way to leaf X goes through M -/
def ChS (Hm : ZH) (A : Nat → Int) (wo : Int) (M : Nat → Int) (X : (Nat → Int) × Int × List Bool) : Prop := ∃ f w p pre, WFT A M ∧ rkN A M < f ∧ X = ((lff A wo f M w p).1, (lff A wo f M w p).2.1, pre ++ (lff A wo f M w p).2.2) ∧ vlf A wo f M p ∧ Hm.1 111 0 = 0 ∧ Hm.1 111 4 = ((pre.length : Nat) : Int) ∧ Hm.1 111 3 = ((pre.length + p.length : Nat) : Int) ∧ EncF (Hm.1 112) 0 (pre ++ p) ∧ pre.length + und A M ≤ (A 1).toNat ∧ w = Hm.2 111 5 * 100 ^ ((A 1).toNat - pre.length) ∧ 1 ≤ Hm.2 111 5 ∧ Hm.2 111 5 ≤ 100 ^ pre.length
theorem ChS_cg {Ha Hb : ZH} {A M : Nat → Int} {wo : Int} {X : (Nat → Int) × Int × List Bool} (h : ChS Ha A wo M X) (e1 : Hb.1 111 = Ha.1 111) (e2 : Hb.1 112 = Ha.1 112) (e3 : Hb.2 111 5 = Ha.2 111 5) : ChS Hb A wo M X := by
  unfold ChS at h ⊢
  rw [e1, e2, e3]
  exact h
theorem chs_d {Hm : ZH} {A M : Nat → Int} {wo : Int} {X : (Nat → Int) × Int × List Bool} (h8 : A 1 ≤ 8) (h : ChS Hm A wo M X) (h37 : M 37 = 0) (hk : M 41 < A 1) (hr : rnd A wo M = false) : ChS Hm A wo (drw1 A wo M) X := by
  obtain ⟨f, w, p, pre, a1, a2, a3, a4, a5, a6, a7, a8, a9, a10, a11⟩ := h
  obtain ⟨k1, k2⟩ := rk_drw (wo := wo) h8 a1 h37 hk
  cases f with
  | zero => omega
  | succ f =>
    obtain ⟨e1, e2⟩ := lff_d (w := w) (f := f) (p := p) h37 hk hr
    rw [e1] at a3
    exact ⟨f, w, p, pre, (drw1_s h8 a1 hk).1, by omega, a3, e2.mp a4, a5, a6, a7, a8, by omega, a10, a11⟩
theorem chs_t {Hm : ZH} {A M : Nat → Int} {wo : Int} {X : (Nat → Int) × Int × List Bool} (ws1 : 0 ≤ A 1 ∧ A 1 ≤ 8) (ws0 : 1 ≤ A 0 ∧ A 0 ≤ 4) (h : ChS Hm A wo M X) (h37 : M 37 = 0) (hk : M 41 = A 1) : ChS Hm A wo (tickF A M) X := by
  obtain ⟨f, w, p, pre, a1, a2, a3, a4, a5, a6, a7, a8, a9, a10, a11⟩ := h
  rcases tick_s ws1 ws0 a1 h37 with ⟨t1, t2, t3⟩ | ⟨_, _, t3⟩
  · cases f with
    | zero => omega
    | succ f =>
      obtain ⟨e1, e2⟩ := lff_t (wo := wo) (w := w) (f := f) (p := p) h37 (show ¬ M 41 < A 1 by omega)
      rw [e1] at a3
      exact ⟨f, w, p, pre, t1, by omega, a3, e2.mp a4, a5, a6, a7, a8, by omega, a10, a11⟩
  · exact absurd hk t3
/-- what one choice makes of the choices -/
def IsW (Hm Hc : ZH) (sh : Int) (b : Bool) : Prop := (∀ cc, cc ≠ 111 → cc ≠ 112 → Hc.1 cc = Hm.1 cc) ∧ (∀ k, k ≠ 3 → k ≠ 4 → Hc.1 111 k = Hm.1 111 k) ∧ Hc.1 111 4 = Hm.1 111 4 + 1 ∧ (∀ cc k, ¬ (cc = 111 ∧ k = 5) → Hc.2 cc k = Hm.2 cc k) ∧ Hc.2 111 5 = Hm.2 111 5 * (if b = true then sh else 100 - sh) ∧ ((Hm.1 111 4 = Hm.1 111 3 ∧ b = true ∧ Hc.1 111 3 = Hm.1 111 3 + 1 ∧ ∀ i : Nat, Hc.1 112 i = if (i : Int) = Hm.1 111 3 then 1 else Hm.1 112 i) ∨ (Hm.1 111 4 < Hm.1 111 3 ∧ Hm.1 112 (Hm.1 111 4).toNat = (if b = true then 1 else 0) ∧ Hc.1 111 3 = Hm.1 111 3 ∧ Hc.1 112 = Hm.1 112))
theorem rnd_frc {A M : Nat → Int} {wo : Int} (b : Bool) (hk : M 41 < 8) : rnd A wo (frc M b) = false := by
  unfold rnd ask
  have e : frc M b 41 = M 41 := frc_at (by omega)
  rw [e, frc_in, decide_eq_false (by cases b <;> (intro z; have := z.1; simp at this))]
  rfl
theorem pw_split {n a : Nat} {P w : Int} (h : w = P * 100 ^ (n - a)) (ha : a < n) (x : Int) : w / 100 * x = P * x * 100 ^ (n - (a + 1)) := by
  have e : n - a = (n - (a + 1)) + 1 := by omega
  rw [h, e, Int.pow_succ, ← Int.mul_assoc, Int.mul_ediv_cancel _ (by decide), Int.mul_right_comm]
theorem chs_r {Hm Hc : ZH} {A M : Nat → Int} {wo : Int} {b : Bool} {X : (Nat → Int) × Int × List Bool} (ws1 : 0 ≤ A 1 ∧ A 1 ≤ 8) (ws0 : 1 ≤ A 0 ∧ A 0 ≤ 4) (h : ChS Hm A wo M X) (h37 : M 37 = 0) (hk : M 41 < A 1) (hr : rnd A wo M = true) (hw : IsW Hm Hc (shr A M wo (M 41).toNat) b) : ChS Hc A wo (drw1 A wo (frc M b)) X := by
  obtain ⟨f, w, p, pre, a1, a2, a3, a4, a5, a6, a7, a8, a9, a10, a11, a12⟩ := h
  obtain ⟨i0, i1, i2, i3, i4, i5⟩ := hw
  obtain ⟨r0, r1, r2, _⟩ := rnd_t hr
  have hl := vlf_len ws1 ws0 f M p a1 a4
  cases f with
  | zero => omega
  | succ f =>
    obtain ⟨w2, u2, hi2⟩ := frc_s ws1.2 a1 hk r0 b
    have rk2 := rk_frc (wo := wo) ws1.2 a1 h37 hk hr b
    have f37 : frc M b 37 = 0 := by rw [hi2 37 (by omega)]; exact h37
    have f41 : frc M b 41 < A 1 := by rw [hi2 41 (by omega)]; exact hk
    have fr : rnd A wo (frc M b) = false := rnd_frc b (by omega)
    obtain ⟨k1, k2⟩ := rk_drw (wo := wo) ws1.2 w2 f37 f41
    have hpos : 1 ≤ rkN A (frc M b) := by unfold rkN; rw [if_neg (fun z => z f37)]; omega
    cases f with
    | zero => omega
    | succ f =>
      -- the rest of the path
      have key : ∃ p', (lff A wo (f + 1 + 1) M w p = ((lff A wo (f + 1) (frc M b) (wsh A wo M w b) p').1, (lff A wo (f + 1) (frc M b) (wsh A wo M w b) p').2.1, b :: (lff A wo (f + 1) (frc M b) (wsh A wo M w b) p').2.2)) ∧ vlf A wo (f + 1) (frc M b) p' ∧ Hc.1 111 3 = ((pre.length + 1 + p'.length : Nat) : Int) ∧ EncF (Hc.1 112) 0 ((pre ++ [b]) ++ p') := by
        rcases i5 with ⟨q1, q2, q3, q4⟩ | ⟨q1, q2, q3, q4⟩
        · cases p with
          | nil =>
            subst q2
            refine ⟨[], (lff_r h37 hk hr true []).2.2, vlf_nil _ _, ?_, ?_⟩
            · rw [q3, a7]
              show ((pre.length + 0 : Nat) : Int) + 1 = ((pre.length + 1 + 0 : Nat) : Int)
              omega
            · rw [List.append_nil] at a8 ⊢
              rw [EncF_app]
              refine ⟨EncF_cg pre 0 (fun i _ hi => ?_) a8, ?_, trivial⟩
              · rw [q4, if_neg (by rw [a7]; show ¬ (i : Int) = ((pre.length + 0 : Nat) : Int); omega)]
              · rw [q4, if_pos (by rw [a7]; show ((0 + pre.length : Nat) : Int) = ((pre.length + 0 : Nat) : Int); omega)]
                rfl
          | cons c p =>
            exfalso
            have z : (c :: p).length = p.length + 1 := rfl
            omega
        · cases p with
          | nil =>
            exfalso
            have z : ([] : List Bool).length = 0 := rfl
            omega
          | cons c p =>
            have z : (c :: p).length = p.length + 1 := rfl
            have hc := (EncF_app pre (c :: p) 0).mp a8
            have e0 : Hm.1 112 (0 + pre.length) = (if c = true then 1 else 0) := hc.2.1
            rw [a6, Int.toNat_natCast, show pre.length = 0 + pre.length by omega, e0] at q2
            have ebc : c = b := by
              cases c <;> cases b <;> first | rfl | (simp at q2)
            subst ebc
            refine ⟨p, (lff_r h37 hk hr c p).1, (lff_r (w := w) h37 hk hr c p).2.1.mp a4, ?_, ?_⟩
            · rw [q3, a7, z]; omega
            · rw [q4, List.append_assoc]
              exact a8
      obtain ⟨p', e1, e2, e3, e4⟩ := key
      obtain ⟨g1, g2⟩ := lff_d (w := wsh A wo M w b) (f := f) (p := p') f37 f41 fr
      have sx : (if b = true then shr A M wo (M 41).toNat else 100 - shr A M wo (M 41).toNat) = (if b = true then shr A M wo (M 41).toNat else 100 - shr A M wo (M 41).toNat) := rfl
      have sb : 1 ≤ (if b = true then shr A M wo (M 41).toNat else 100 - shr A M wo (M 41).toNat) ∧ (if b = true then shr A M wo (M 41).toNat else 100 - shr A M wo (M 41).toNat) ≤ 99 := by split <;> omega
      have pl : (pre ++ [b]).length = pre.length + 1 := by simp
      refine ⟨f, wsh A wo M w b, p', pre ++ [b], (drw1_s ws1.2 w2 f41).1, by omega, ?_, g2.mp e2, ?_, ?_, ?_, e4, ?_, ?_, ?_, ?_⟩
      · rw [a3, e1, g1, List.append_assoc]
        rfl
      · rw [i1 0 (by omega) (by omega)]; exact a5
      · rw [i2, a6, pl]; omega
      · rw [e3, pl]
      · rw [pl]; omega
      · rw [i4, pl]
        exact pw_split a10 (by omega) _
      · rw [i4]
        have := nn2 (x := Hm.2 111 5 - 1) (y := (if b = true then shr A M wo (M 41).toNat else 100 - shr A M wo (M 41).toNat) - 1) (A := Hm.2 111 5 - 1) (B := (if b = true then shr A M wo (M 41).toNat else 100 - shr A M wo (M 41).toNat) - 1) (by omega) (by omega) (by omega) (by omega)
        have e5 : (Hm.2 111 5 - 1) * ((if b = true then shr A M wo (M 41).toNat else 100 - shr A M wo (M 41).toNat) - 1) = Hm.2 111 5 * (if b = true then shr A M wo (M 41).toNat else 100 - shr A M wo (M 41).toNat) - Hm.2 111 5 - (if b = true then shr A M wo (M 41).toNat else 100 - shr A M wo (M 41).toNat) + 1 := by
          rw [Int.sub_mul, Int.mul_sub]; omega
        omega
      · rw [i4, pl, Int.pow_succ]
        exact Int.mul_le_mul a12 (by omega) (by omega) (by have := a12; have := a11; omega)
