/-! GROUP G27: the class's tree. -/
theorem snoc_of {l : List Bool} (h : l ≠ []) : ∃ m b, l = m ++ [b] := by
  induction l with
  | nil => exact absurd rfl h
  | cons c l ih =>
    cases l with
    | nil => exact ⟨[], c, rfl⟩
    | cons d l =>
      obtain ⟨m, b, e⟩ := ih (by simp)
      exact ⟨c :: m, b, by rw [e]; rfl⟩
theorem wJ_wJ (H : ZH) (c k : Nat) (a b : Int) : wJ (wJ H c k a) c k b = wJ H c k b := by
  unfold wJ
  refine Prod.ext rfl ?_
  funext c' k'
  show (if c' = c ∧ k' = k then b else if c' = c ∧ k' = k then a else H.2 c' k') = if c' = c ∧ k' = k then b else H.2 c' k'
  split <;> rfl
theorem wJ_id {H : ZH} {c k : Nat} {v : Int} (h : H.2 c k = v) : wJ H c k v = H := by
  unfold wJ
  refine Prod.ext rfl ?_
  funext c' k'
  show (if c' = c ∧ k' = k then v else H.2 c' k') = H.2 c' k'
  split
  · next q => rw [q.1, q.2, h]
  · rfl
def FrW (H H1 : ZH) : Prop := (∀ cc, cc ≠ 111 → cc ≠ 112 → H1.1 cc = H.1 cc) ∧ (∀ k, k ≠ 3 → H1.1 111 k = H.1 111 k) ∧ H1.2 = H.2
/-- one leaf, and those that she stood longer at -/
def g1 (_ : Nat → Int) (_ : Int) : Int := 1
def gL (v : Int) (N : Nat → Int) (_ : Int) : Int := if N 35 ≤ v then 0 else 1
theorem tsf_cnt {A : Nat → Int} {wo : Int} (ws1 : 0 ≤ A 1 ∧ A 1 ≤ 8) (ws0 : 1 ≤ A 0 ∧ A 0 ≤ 4) (f : Nat) : ∀ N w, WFT A N → 1 ≤ tsf A wo g1 f N w ∧ tsf A wo g1 f N w ≤ ((2 ^ und A N : Nat) : Int) := by
  induction f with
  | zero =>
    intro N w h
    have z := Nat.two_pow_pos (und A N)
    show (1 : Int) ≤ 1 ∧ (1 : Int) ≤ _
    omega
  | succ f ih =>
    intro N w h
    have z := Nat.two_pow_pos (und A N)
    show 1 ≤ (if N 37 ≠ 0 then g1 N w else if N 41 < A 1 then (if rnd A wo N = true then tsf A wo g1 f (frc N true) (w / 100 * shr A N wo (N 41).toNat) + tsf A wo g1 f (frc N false) (w / 100 * (100 - shr A N wo (N 41).toNat)) else tsf A wo g1 f (drw1 A wo N) w) else tsf A wo g1 f (tickF A N) w) ∧ (if N 37 ≠ 0 then g1 N w else if N 41 < A 1 then (if rnd A wo N = true then tsf A wo g1 f (frc N true) (w / 100 * shr A N wo (N 41).toNat) + tsf A wo g1 f (frc N false) (w / 100 * (100 - shr A N wo (N 41).toNat)) else tsf A wo g1 f (drw1 A wo N) w) else tsf A wo g1 f (tickF A N) w) ≤ ((2 ^ und A N : Nat) : Int)
    by_cases h37 : N 37 = 0
    · rw [if_neg (fun z => z h37)]
      by_cases hk : N 41 < A 1
      · rw [if_pos hk]
        by_cases hr : rnd A wo N = true
        · rw [if_pos hr]
          obtain ⟨r0, r1, r2, _⟩ := rnd_t hr
          obtain ⟨w1, u1, _⟩ := frc_s ws1.2 h hk r0 true
          obtain ⟨w2, u2, _⟩ := frc_s ws1.2 h hk r0 false
          have a := ih (frc N true) (w / 100 * shr A N wo (N 41).toNat) w1
          have b := ih (frc N false) (w / 100 * (100 - shr A N wo (N 41).toNat)) w2
          have e : 2 ^ und A N = 2 ^ und A (frc N true) + 2 ^ und A (frc N true) := by
            rw [← u1, Nat.pow_succ]; omega
          have e2 : 2 ^ und A (frc N false) = 2 ^ und A (frc N true) := by rw [show und A (frc N false) = und A (frc N true) by omega]
          omega
        · rw [if_neg hr]
          have a := ih _ w (drw1_s (wo := wo) ws1.2 h hk).1
          have e : 2 ^ und A (drw1 A wo N) ≤ 2 ^ und A N := Nat.pow_le_pow_right (by decide) (rk_drw (wo := wo) ws1.2 h h37 hk).1
          omega
      · rw [if_neg hk]
        rcases tick_s ws1 ws0 h h37 with ⟨t, u, _⟩ | ⟨t, u, _⟩
        · have a := ih _ w t
          rw [u] at a
          exact a
        · have a := ih _ w t
          rw [u] at a
          exact a
    · rw [if_pos h37]
      show (1 : Int) ≤ 1 ∧ (1 : Int) ≤ _
      omega
theorem rmf_ge {A : Nat → Int} {wo : Int} {g : (Nat → Int) → Int → Int} {c : Int} (ws1 : 0 ≤ A 1 ∧ A 1 ≤ 8) (ws0 : 1 ≤ A 0 ∧ A 0 ≤ 4) (hc : 0 ≤ c) (hg : ∀ M w, WFT A M → 0 ≤ w → c ≤ g M w) (ht : ∀ f N w, WFT A N → 0 ≤ w → c ≤ tsf A wo g f N w) (f : Nat) : ∀ N w p, WFT A N → 0 ≤ w → c ≤ rmf A wo g f N w p := by
  induction f with
  | zero => exact fun N w p h hw => hg N w h hw
  | succ f ih =>
    intro N w p h hw
    show c ≤ (if N 37 ≠ 0 then g N w else if N 41 < A 1 then (if rnd A wo N = true then (match p with
      | [] => tsf A wo g f (frc N true) (w / 100 * shr A N wo (N 41).toNat) + tsf A wo g f (frc N false) (w / 100 * (100 - shr A N wo (N 41).toNat))
      | true :: p' => rmf A wo g f (frc N true) (w / 100 * shr A N wo (N 41).toNat) p' + tsf A wo g f (frc N false) (w / 100 * (100 - shr A N wo (N 41).toNat))
      | false :: p' => rmf A wo g f (frc N false) (w / 100 * (100 - shr A N wo (N 41).toNat)) p') else rmf A wo g f (drw1 A wo N) w p) else rmf A wo g f (tickF A N) w p)
    by_cases h37 : N 37 = 0
    · rw [if_neg (fun z => z h37)]
      by_cases hk : N 41 < A 1
      · rw [if_pos hk]
        by_cases hr : rnd A wo N = true
        · rw [if_pos hr]
          obtain ⟨r0, r1, r2, _⟩ := rnd_t hr
          obtain ⟨s1, s2, _⟩ := sh_split hw ⟨r1, r2⟩
          have w1 := (frc_s ws1.2 h hk r0 true).1
          have w2 := (frc_s ws1.2 h hk r0 false).1
          have b := ht f _ _ w2 s2
          match p with
          | [] =>
            have a := ht f _ _ w1 s1
            show c ≤ tsf A wo g f (frc N true) (w / 100 * shr A N wo (N 41).toNat) + tsf A wo g f (frc N false) (w / 100 * (100 - shr A N wo (N 41).toNat))
            omega
          | true :: p' =>
            have a := ih _ _ p' w1 s1
            show c ≤ rmf A wo g f (frc N true) (w / 100 * shr A N wo (N 41).toNat) p' + tsf A wo g f (frc N false) (w / 100 * (100 - shr A N wo (N 41).toNat))
            omega
          | false :: p' => exact ih _ _ p' w2 s2
        · rw [if_neg hr]
          exact ih _ w p (drw1_s ws1.2 h hk).1 hw
      · rw [if_neg hk]
        rcases tick_s ws1 ws0 h h37 with ⟨t, _⟩ | ⟨t, _⟩
        · exact ih _ w p t hw
        · exact ih _ w p t hw
    · rw [if_pos h37]
      exact hg N w h hw
/-- the tree's sums so far, R what is to come -/
def TrS (H : ZH) (s : Nat) (q : Nat → Int) (T R : ((Nat → Int) → Int → Int) → Int) : Prop := (∀ k, k < 5 → 0 ≤ H.2 s (1 + k) ∧ H.2 s (1 + k) + R (gK k) = T (gK k)) ∧ (∀ c : Nat, (c : Int) < q 1 → 0 ≤ H.2 (s + 1) c ∧ H.2 (s + 1) c + R (gB c) = T (gB c)) ∧ (∀ c : Nat, (c : Int) < q 1 → 0 ≤ H.2 (s + 2) c ∧ H.2 (s + 2) c + R (gS c) = T (gS c)) ∧ (0 ≤ H.1 s 6 ∧ H.1 s 6 ≤ 99) ∧ (∀ v : Int, H.1 s 6 ≤ v → R (gL v) = T (gL v)) ∧ H.2 s 0 = 100 ^ (q 1).toNat
/-- only the tree at s and the road have changed -/
def FrTr (H H1 : ZH) (s : Nat) : Prop := (∀ cc k, ¬ (104 ≤ cc ∧ cc ≤ 112) → ¬ (cc = s ∧ k = 6) → H1.1 cc k = H.1 cc k) ∧ ∀ cc k, ¬ (cc = 111 ∧ k = 5) → cc ≠ s → cc ≠ s + 1 → cc ≠ s + 2 → H1.2 cc k = H.2 cc k
/-- a leaf is put to the tree -/
def AddT (H H1 : ZH) (s : Nat) (q N : Nat → Int) (w : Int) : Prop := (∀ k, k < 5 → H1.2 s (1 + k) = H.2 s (1 + k) + gK k N w) ∧ (∀ c : Nat, (c : Int) < q 1 → H1.2 (s + 1) c = H.2 (s + 1) c + gB c N w) ∧ (∀ c : Nat, (c : Int) < q 1 → H1.2 (s + 2) c = H.2 (s + 2) c + gS c N w) ∧ H1.1 s 6 = (if H.1 s 6 < N 35 then N 35 else H.1 s 6) ∧ H1.2 s 0 = H.2 s 0 ∧ (∀ cc k, ¬ (cc = s ∧ k = 6) → H1.1 cc k = H.1 cc k) ∧ ∀ cc k, cc ≠ s → cc ≠ s + 1 → cc ≠ s + 2 → H1.2 cc k = H.2 cc k
theorem TrS_add {H H1 : ZH} {s : Nat} {q N : Nat → Int} {w : Int} {T R R1 : ((Nat → Int) → Int → Int) → Int} (h : TrS H s q T R) (ha : AddT H H1 s q N w) (hR : ∀ g, R g = g N w + R1 g) (wt : WFT q N) (hw : 0 ≤ w) : TrS H1 s q T R1 := by
  obtain ⟨a1, a2, a3, a4, a5, _⟩ := ha
  obtain ⟨b1, b2, b3, b4, b5, b6⟩ := h
  have n35 := wt.1.2.2.2.2.1
  refine ⟨fun k hk => ?_, fun c hc => ?_, fun c hc => ?_, ?_, fun v hv => ?_, a5.trans b6⟩
  · have := b1 k hk
    have g := gK_ok q k N w wt hw
    rw [hR] at this
    rw [a1 k hk]
    omega
  · have := b2 c hc
    have g := gB_ok q c N w wt hw
    rw [hR] at this
    rw [a2 c hc]
    omega
  · have := b3 c hc
    have g := gS_ok q c N w wt hw
    rw [hR] at this
    rw [a3 c hc]
    omega
  · rw [a4]; split <;> omega
  · rw [a4] at hv
    have := b5 v (by revert hv; split <;> omega)
    rw [hR] at this
    have e : gL v N w = 0 := if_pos (by revert hv; split <;> omega)
    omega
