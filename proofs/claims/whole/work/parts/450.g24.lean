/-! GROUP G24: the class's way through the tree. -/
/-- the sum over the leaves from path p on -/
def rmf (A : Nat → Int) (wo : Int) (g : (Nat → Int) → Int → Int) : Nat → (Nat → Int) → Int → List Bool → Int
  | 0, N, w, _ => g N w
  | f + 1, N, w, p => if N 37 ≠ 0 then g N w else if N 41 < A 1 then (if rnd A wo N = true then (match p with
      | [] => tsf A wo g f (frc N true) (w / 100 * shr A N wo (N 41).toNat) + tsf A wo g f (frc N false) (w / 100 * (100 - shr A N wo (N 41).toNat))
      | true :: p' => rmf A wo g f (frc N true) (w / 100 * shr A N wo (N 41).toNat) p' + tsf A wo g f (frc N false) (w / 100 * (100 - shr A N wo (N 41).toNat))
      | false :: p' => rmf A wo g f (frc N false) (w / 100 * (100 - shr A N wo (N 41).toNat)) p') else rmf A wo g f (drw1 A wo N) w p) else rmf A wo g f (tickF A N) w p
/-- the leaf that path p leads to, its weight, its whole path -/
def lff (A : Nat → Int) (wo : Int) : Nat → (Nat → Int) → Int → List Bool → (Nat → Int) × Int × List Bool
  | 0, N, w, _ => (N, w, [])
  | f + 1, N, w, p => if N 37 ≠ 0 then (N, w, []) else if N 41 < A 1 then (if rnd A wo N = true then (match p with
      | false :: p' => ((lff A wo f (frc N false) (w / 100 * (100 - shr A N wo (N 41).toNat)) p').1, (lff A wo f (frc N false) (w / 100 * (100 - shr A N wo (N 41).toNat)) p').2.1, false :: (lff A wo f (frc N false) (w / 100 * (100 - shr A N wo (N 41).toNat)) p').2.2)
      | p => ((lff A wo f (frc N true) (w / 100 * shr A N wo (N 41).toNat) p.tail).1, (lff A wo f (frc N true) (w / 100 * shr A N wo (N 41).toNat) p.tail).2.1, true :: (lff A wo f (frc N true) (w / 100 * shr A N wo (N 41).toNat) p.tail).2.2)) else lff A wo f (drw1 A wo N) w p) else lff A wo f (tickF A N) w p
/-- path p is a way to a place of the tree -/
def vlf (A : Nat → Int) (wo : Int) : Nat → (Nat → Int) → List Bool → Prop
  | 0, _, p => p = []
  | f + 1, N, p => if N 37 ≠ 0 then p = [] else if N 41 < A 1 then (if rnd A wo N = true then (match p with
      | [] => True
      | b :: p' => vlf A wo f (frc N b) p') else vlf A wo f (drw1 A wo N) p) else vlf A wo f (tickF A N) p
/-- the latest that stops goes on -/
def trn : List Bool → Option (List Bool)
  | [] => none
  | b :: p => match trn p with
    | some p' => some (b :: p')
    | none => if b = true then some [false] else none
theorem rmf_nil {A : Nat → Int} {wo : Int} {g : (Nat → Int) → Int → Int} (f : Nat) : ∀ N w, rmf A wo g f N w [] = tsf A wo g f N w := by
  induction f with
  | zero => exact fun _ _ => rfl
  | succ f ih =>
    intro N w
    show (if N 37 ≠ 0 then g N w else if N 41 < A 1 then (if rnd A wo N = true then _ else rmf A wo g f (drw1 A wo N) w []) else rmf A wo g f (tickF A N) w []) = (if N 37 ≠ 0 then g N w else if N 41 < A 1 then (if rnd A wo N = true then _ else tsf A wo g f (drw1 A wo N) w) else tsf A wo g f (tickF A N) w)
    rw [ih, ih]
theorem vlf_nil {A : Nat → Int} {wo : Int} (f : Nat) : ∀ N, vlf A wo f N [] := by
  induction f with
  | zero => exact fun _ => rfl
  | succ f ih =>
    intro N
    show (if N 37 ≠ 0 then ([] : List Bool) = [] else if N 41 < A 1 then (if rnd A wo N = true then True else vlf A wo f (drw1 A wo N) []) else vlf A wo f (tickF A N) [])
    split
    · rfl
    · split
      · split
        · trivial
        · exact ih _
      · exact ih _
/-- the rest behind a leaf -/
def rsx (A : Nat → Int) (wo : Int) (g : (Nat → Int) → Int → Int) (f : Nat) (N : Nat → Int) (w : Int) (l : List Bool) : Int := match trn l with
  | none => 0
  | some p' => rmf A wo g f N w p'
theorem rsx_n {A : Nat → Int} {wo : Int} {g : (Nat → Int) → Int → Int} {f : Nat} {N : Nat → Int} {w : Int} {l : List Bool} (h : trn l = none) : rsx A wo g f N w l = 0 := by
  unfold rsx
  rw [h]
theorem rsx_s {A : Nat → Int} {wo : Int} {g : (Nat → Int) → Int → Int} {f : Nat} {N : Nat → Int} {w : Int} {l q : List Bool} (h : trn l = some q) : rsx A wo g f N w l = rmf A wo g f N w q := by
  unfold rsx
  rw [h]
theorem trn_cn {b : Bool} {l : List Bool} (h : trn l = none) : trn (b :: l) = if b = true then some [false] else none := by
  show (match trn l with | some p' => some (b :: p') | none => if b = true then some [false] else none) = _
  rw [h]
theorem trn_cs {b : Bool} {l q : List Bool} (h : trn l = some q) : trn (b :: l) = some (b :: q) := by
  show (match trn l with | some p' => some (b :: p') | none => if b = true then some [false] else none) = _
  rw [h]
theorem rmf_next {A : Nat → Int} {wo : Int} {g : (Nat → Int) → Int → Int} (f : Nat) : ∀ N w p, rmf A wo g f N w p = g (lff A wo f N w p).1 (lff A wo f N w p).2.1 + rsx A wo g f N w (lff A wo f N w p).2.2 ∧ ∀ p', trn (lff A wo f N w p).2.2 = some p' → vlf A wo f N p' := by
  induction f with
  | zero =>
    intro N w p
    exact ⟨(Int.add_zero _).symm, fun p' h => absurd (show (none : Option (List Bool)) = some p' from h) (by simp)⟩
  | succ f ih =>
    intro N w p
    by_cases h37 : N 37 = 0
    · by_cases hk : N 41 < A 1
      · by_cases hr : rnd A wo N = true
        · have er : ∀ p, rmf A wo g (f + 1) N w p = (match p with
              | [] => tsf A wo g f (frc N true) (w / 100 * shr A N wo (N 41).toNat) + tsf A wo g f (frc N false) (w / 100 * (100 - shr A N wo (N 41).toNat))
              | true :: p' => rmf A wo g f (frc N true) (w / 100 * shr A N wo (N 41).toNat) p' + tsf A wo g f (frc N false) (w / 100 * (100 - shr A N wo (N 41).toNat))
              | false :: p' => rmf A wo g f (frc N false) (w / 100 * (100 - shr A N wo (N 41).toNat)) p') := by
            intro p
            show (if N 37 ≠ 0 then g N w else if N 41 < A 1 then (if rnd A wo N = true then _ else rmf A wo g f (drw1 A wo N) w p) else rmf A wo g f (tickF A N) w p) = _
            rw [if_neg (fun z => z h37), if_pos hk, if_pos hr]
          have ev : ∀ b p', vlf A wo (f + 1) N (b :: p') = vlf A wo f (frc N b) p' := by
            intro b p'
            show (if N 37 ≠ 0 then (b :: p') = [] else if N 41 < A 1 then (if rnd A wo N = true then vlf A wo f (frc N b) p' else vlf A wo f (drw1 A wo N) (b :: p')) else vlf A wo f (tickF A N) (b :: p')) = _
            rw [if_neg (fun z => z h37), if_pos hk, if_pos hr]
          have el : ∀ p, lff A wo (f + 1) N w p = (match p with
              | false :: p' => ((lff A wo f (frc N false) (w / 100 * (100 - shr A N wo (N 41).toNat)) p').1, (lff A wo f (frc N false) (w / 100 * (100 - shr A N wo (N 41).toNat)) p').2.1, false :: (lff A wo f (frc N false) (w / 100 * (100 - shr A N wo (N 41).toNat)) p').2.2)
              | p => ((lff A wo f (frc N true) (w / 100 * shr A N wo (N 41).toNat) p.tail).1, (lff A wo f (frc N true) (w / 100 * shr A N wo (N 41).toNat) p.tail).2.1, true :: (lff A wo f (frc N true) (w / 100 * shr A N wo (N 41).toNat) p.tail).2.2)) := by
            intro p
            show (if N 37 ≠ 0 then (N, w, []) else if N 41 < A 1 then (if rnd A wo N = true then _ else lff A wo f (drw1 A wo N) w p) else lff A wo f (tickF A N) w p) = _
            rw [if_neg (fun z => z h37), if_pos hk, if_pos hr]
          -- the stopping side, with any rest
          have side : ∀ p', rmf A wo g f (frc N true) (w / 100 * shr A N wo (N 41).toNat) p' + tsf A wo g f (frc N false) (w / 100 * (100 - shr A N wo (N 41).toNat)) = g (lff A wo f (frc N true) (w / 100 * shr A N wo (N 41).toNat) p').1 (lff A wo f (frc N true) (w / 100 * shr A N wo (N 41).toNat) p').2.1 + rsx A wo g (f + 1) N w (true :: (lff A wo f (frc N true) (w / 100 * shr A N wo (N 41).toNat) p').2.2) ∧ ∀ r, trn (true :: (lff A wo f (frc N true) (w / 100 * shr A N wo (N 41).toNat) p').2.2) = some r → vlf A wo (f + 1) N r := by
            intro p'
            obtain ⟨i1, i2⟩ := ih (frc N true) (w / 100 * shr A N wo (N 41).toNat) p'
            rw [i1]
            generalize (lff A wo f (frc N true) (w / 100 * shr A N wo (N 41).toNat) p') = X at i2 ⊢
            cases ht : trn X.2.2 with
            | none =>
              have e1 : trn (true :: X.2.2) = some [false] := trn_cn ht
              rw [rsx_n ht, rsx_s e1]
              refine ⟨?_, fun r hr2 => ?_⟩
              · rw [er, Int.add_zero]
                show _ = g X.1 X.2.1 + rmf A wo g f (frc N false) (w / 100 * (100 - shr A N wo (N 41).toNat)) []
                rw [rmf_nil]
              · rw [e1] at hr2
                cases hr2
                rw [ev]
                exact vlf_nil f _
            | some q =>
              have e1 : trn (true :: X.2.2) = some (true :: q) := trn_cs ht
              rw [rsx_s ht, rsx_s e1]
              refine ⟨?_, fun r hr2 => ?_⟩
              · rw [er, Int.add_assoc]
              · rw [e1] at hr2
                cases hr2
                rw [ev]
                exact i2 q ht
          rw [er, el]
          match p with
          | [] =>
            have s := side []
            rw [rmf_nil] at s
            exact s
          | true :: p' => exact side p'
          | false :: p' =>
            obtain ⟨i1, i2⟩ := ih (frc N false) (w / 100 * (100 - shr A N wo (N 41).toNat)) p'
            show rmf A wo g f (frc N false) (w / 100 * (100 - shr A N wo (N 41).toNat)) p' = g (lff A wo f (frc N false) (w / 100 * (100 - shr A N wo (N 41).toNat)) p').1 (lff A wo f (frc N false) (w / 100 * (100 - shr A N wo (N 41).toNat)) p').2.1 + rsx A wo g (f + 1) N w (false :: (lff A wo f (frc N false) (w / 100 * (100 - shr A N wo (N 41).toNat)) p').2.2) ∧ ∀ r, trn (false :: (lff A wo f (frc N false) (w / 100 * (100 - shr A N wo (N 41).toNat)) p').2.2) = some r → vlf A wo (f + 1) N r
            rw [i1]
            generalize (lff A wo f (frc N false) (w / 100 * (100 - shr A N wo (N 41).toNat)) p') = X at i2 ⊢
            cases ht : trn X.2.2 with
            | none =>
              have e1 : trn (false :: X.2.2) = none := trn_cn ht
              rw [rsx_n ht, rsx_n e1]
              exact ⟨rfl, fun r hr2 => by rw [e1] at hr2; exact absurd hr2 (by simp)⟩
            | some q =>
              have e1 : trn (false :: X.2.2) = some (false :: q) := trn_cs ht
              rw [rsx_s ht, rsx_s e1]
              refine ⟨?_, fun r hr2 => ?_⟩
              · rw [er]
              · rw [e1] at hr2
                cases hr2
                rw [ev]
                exact i2 q ht
        · have er : ∀ p, rmf A wo g (f + 1) N w p = rmf A wo g f (drw1 A wo N) w p := by
            intro p
            show (if N 37 ≠ 0 then g N w else if N 41 < A 1 then (if rnd A wo N = true then _ else rmf A wo g f (drw1 A wo N) w p) else rmf A wo g f (tickF A N) w p) = _
            rw [if_neg (fun z => z h37), if_pos hk, if_neg hr]
          have ev : ∀ p, vlf A wo (f + 1) N p = vlf A wo f (drw1 A wo N) p := by
            intro p
            show (if N 37 ≠ 0 then p = [] else if N 41 < A 1 then (if rnd A wo N = true then _ else vlf A wo f (drw1 A wo N) p) else vlf A wo f (tickF A N) p) = _
            rw [if_neg (fun z => z h37), if_pos hk, if_neg hr]
          have el : lff A wo (f + 1) N w p = lff A wo f (drw1 A wo N) w p := by
            show (if N 37 ≠ 0 then (N, w, []) else if N 41 < A 1 then (if rnd A wo N = true then _ else lff A wo f (drw1 A wo N) w p) else lff A wo f (tickF A N) w p) = _
            rw [if_neg (fun z => z h37), if_pos hk, if_neg hr]
          obtain ⟨i1, i2⟩ := ih (drw1 A wo N) w p
          rw [er, el]
          refine ⟨i1.trans ?_, fun p' h => by rw [ev]; exact i2 p' h⟩
          unfold rsx
          cases trn (lff A wo f (drw1 A wo N) w p).2.2 with
          | none => rfl
          | some q => show _ + rmf A wo g f (drw1 A wo N) w q = _ + rmf A wo g (f + 1) N w q; rw [er]
      · have er : ∀ p, rmf A wo g (f + 1) N w p = rmf A wo g f (tickF A N) w p := by
          intro p
          show (if N 37 ≠ 0 then g N w else if N 41 < A 1 then _ else rmf A wo g f (tickF A N) w p) = _
          rw [if_neg (fun z => z h37), if_neg hk]
        have ev : ∀ p, vlf A wo (f + 1) N p = vlf A wo f (tickF A N) p := by
          intro p
          show (if N 37 ≠ 0 then p = [] else if N 41 < A 1 then _ else vlf A wo f (tickF A N) p) = _
          rw [if_neg (fun z => z h37), if_neg hk]
        have el : lff A wo (f + 1) N w p = lff A wo f (tickF A N) w p := by
          show (if N 37 ≠ 0 then (N, w, []) else if N 41 < A 1 then _ else lff A wo f (tickF A N) w p) = _
          rw [if_neg (fun z => z h37), if_neg hk]
        obtain ⟨i1, i2⟩ := ih (tickF A N) w p
        rw [er, el]
        refine ⟨i1.trans ?_, fun p' h => by rw [ev]; exact i2 p' h⟩
        unfold rsx
        cases trn (lff A wo f (tickF A N) w p).2.2 with
        | none => rfl
        | some q => show _ + rmf A wo g f (tickF A N) w q = _ + rmf A wo g (f + 1) N w q; rw [er]
    · have el : lff A wo (f + 1) N w p = (N, w, []) := if_pos h37
      rw [el]
      exact ⟨(if_pos h37).trans (Int.add_zero _).symm, fun p' h => absurd (show (none : Option (List Bool)) = some p' from h) (by simp)⟩
theorem trn_f (l : List Bool) : trn (l ++ [false]) = trn l := by
  induction l with
  | nil => rfl
  | cons b l ih =>
    show (match trn (l ++ [false]) with | some p' => some (b :: p') | none => if b = true then some [false] else none) = (match trn l with | some p' => some (b :: p') | none => if b = true then some [false] else none)
    rw [ih]
theorem trn_t (l : List Bool) : trn (l ++ [true]) = some (l ++ [false]) := by
  induction l with
  | nil => rfl
  | cons b l ih =>
    show (match trn (l ++ [true]) with | some p' => some (b :: p') | none => if b = true then some [false] else none) = _
    rw [ih]
    rfl
