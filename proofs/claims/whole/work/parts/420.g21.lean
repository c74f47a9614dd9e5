/-! GROUP G21: the tree of all that drivers may decide. -/
/-- the car NEXT is in doubt -/
def rnd (A : Nat → Int) (wo : Int) (N : Nat → Int) : Bool := ask A N (N 41).toNat && decide (0 < shr A N wo (N 41).toNat ∧ shr A N wo (N 41).toNat < 100)
def frc (N : Nat → Int) (b : Bool) (j : Nat) : Int := if j = 16 + (N 41).toNat then (if b = true then 2 else 1) else N j
/-- the sum over the leaves below N, of weight w -/
def tsf (A : Nat → Int) (wo : Int) (g : (Nat → Int) → Int → Int) : Nat → (Nat → Int) → Int → Int
  | 0, N, w => g N w
  | f + 1, N, w => if N 37 ≠ 0 then g N w else if N 41 < A 1 then (if rnd A wo N = true then tsf A wo g f (frc N true) (w / 100 * shr A N wo (N 41).toNat) + tsf A wo g f (frc N false) (w / 100 * (100 - shr A N wo (N 41).toNat)) else tsf A wo g f (drw1 A wo N) w) else tsf A wo g f (tickF A N) w
def und (A N : Nat → Int) : Nat := cnF (fun c => decide (N (16 + c) ≠ 0)) (A 1).toNat
def rkN (A N : Nat → Int) : Nat := if N 37 ≠ 0 then 0 else (99 - N 36).toNat * 40 + 2 * (A 1 - N 41).toNat + und A N + 1
def WFT (A N : Nat → Int) : Prop := WFN A N ∧ WFX A N ∧ 0 ≤ N 41 ∧ N 41 ≤ A 1
theorem cnF_cg {G F : Nat → Bool} {n : Nat} (h : ∀ c, c < n → G c = F c) : cnF G n = cnF F n := by
  induction n with
  | zero => rfl
  | succ n ih =>
    show cnF G n + (if G n = true then 0 else 1) = cnF F n + (if F n = true then 0 else 1)
    rw [ih (fun c hc => h c (by omega)), h n (by omega)]
theorem cnF_mono {G F : Nat → Bool} {n : Nat} (h : ∀ c, c < n → F c = true → G c = true) : cnF G n ≤ cnF F n := by
  induction n with
  | zero => exact Nat.le_refl _
  | succ n ih =>
    show cnF G n + (if G n = true then 0 else 1) ≤ cnF F n + (if F n = true then 0 else 1)
    have i := ih (fun c hc => h c (by omega))
    have z := h n (by omega)
    by_cases q : F n = true
    · rw [if_pos q, if_pos (z q)]; omega
    · rw [if_neg q]
      split <;> omega
theorem drw1_s {A N : Nat → Int} {wo : Int} (h8 : A 1 ≤ 8) (h : WFT A N) (hk : N 41 < A 1) : WFT A (drw1 A wo N) ∧ (∀ c : Nat, N (16 + c) ≠ 0 → c < 8 → drw1 A wo N (16 + c) ≠ 0) ∧ (∀ j, 32 ≤ j → j < 40 → drw1 A wo N j = N j) ∧ drw1 A wo N 41 = N 41 + 1 ∧ ∀ j, 42 ≤ j → drw1 A wo N j = N j := by
  obtain ⟨h1, h2, h3, h4⟩ := h
  have e : N 41 = (((N 41).toNat : Nat) : Int) := by omega
  obtain ⟨w1, w2⟩ := drw1_wf (wo := wo) e (by omega) h8 h1 h2
  have e41 : drw1 A wo N 41 = N 41 + 1 := rfl
  refine ⟨⟨w1, w2, by omega, by omega⟩, fun c hc h8c => ?_, fun j a b => drw1_at e (by omega) (by omega) (by omega), e41, fun j hj => drw1_at e (by omega) (by omega) (by omega)⟩
  by_cases q : c = (N 41).toNat
  · subst q
    rcases drw1_16 (A := A) (wo := wo) e (by omega) with z | z | z
    · rw [z]; exact hc
    · rw [z]; decide
    · rw [z]; decide
  · rw [drw1_at e (by omega) (by omega) (by omega)]; exact hc
theorem frc_at {N : Nat → Int} {b : Bool} {j : Nat} (h : j ≠ 16 + (N 41).toNat) : frc N b j = N j := if_neg h
theorem frc_in (N : Nat → Int) (b : Bool) : frc N b (16 + (N 41).toNat) = if b = true then 2 else 1 := if_pos rfl
theorem frc_s {A N : Nat → Int} (h8 : A 1 ≤ 8) (h : WFT A N) (hk : N 41 < A 1) (h0 : N (16 + (N 41).toNat) = 0) (b : Bool) : WFT A (frc N b) ∧ und A (frc N b) + 1 = und A N ∧ (∀ j, 32 ≤ j → frc N b j = N j) := by
  obtain ⟨h1, h2, h3, h4⟩ := h
  have hi : ∀ j, 32 ≤ j → frc N b j = N j := fun j hj => frc_at (by omega)
  have lo : ∀ j, j < 16 → frc N b j = N j := fun j hj => frc_at (by omega)
  obtain ⟨hC, h32, h33, h34, h35, h36, h37, h38, h39⟩ := h1
  obtain ⟨x1, x2, x3, x4, x5, x6⟩ := h2
  have fb : frc N b (16 + (N 41).toNat) = 1 ∨ frc N b (16 + (N 41).toNat) = 2 := by
    rw [frc_in]
    cases b
    · exact Or.inl rfl
    · exact Or.inr rfl
  refine ⟨⟨⟨fun c hc => ?_, ?_, ?_, ?_, ?_, ?_, ?_, ?_, ?_⟩, ⟨fun c hc => ?_, ?_, ?_, ?_, ?_, ?_⟩, ?_⟩, ?_, hi⟩
  · obtain ⟨a1, a2, a3, a4, a5⟩ := hC c hc
    rw [lo c (by omega), lo (8 + c) (by omega), frc_at (j := 24 + c) (by omega)]
    by_cases q : c = (N 41).toNat
    · subst q
      exact ⟨a1, a2, by omega, fun _ => a4 (by omega), a5⟩
    · rw [frc_at (by omega)]
      exact ⟨a1, a2, a3, a4, a5⟩
  · rw [hi 32 (by omega)]; exact h32
  · rw [hi 33 (by omega)]; exact h33
  · rw [hi 34 (by omega)]; exact h34
  · rw [hi 35 (by omega)]; exact h35
  · rw [hi 36 (by omega)]; exact h36
  · rw [hi 37 (by omega)]; exact h37
  · rw [hi 38 (by omega)]; exact h38
  · rw [hi 39 (by omega)]; exact h39
  · rw [lo c (by omega), frc_at (j := 24 + c) (by omega)]; exact x1 c hc
  · rw [hi 37 (by omega), hi 32 (by omega)]; exact x2
  · rw [hi 33 (by omega), hi 34 (by omega)]; exact x3
  · rw [hi 33 (by omega), hi 32 (by omega)]; exact x4
  · rw [hi 35 (by omega), hi 36 (by omega)]; exact x5
  · rw [hi 37 (by omega), hi 36 (by omega)]; exact x6
  · rw [hi 41 (by omega)]; exact ⟨h3, h4⟩
  · have e : cnF (fun c => decide (frc N b (16 + c) ≠ 0)) (A 1).toNat = cnF (Gup (fun c => decide (N (16 + c) ≠ 0)) (N 41).toNat) (A 1).toNat := by
      refine cnF_cg (fun c hc => ?_)
      by_cases q : c = (N 41).toNat
      · rw [q, Gup_at]
        exact decide_eq_true (by omega)
      · rw [Gup_ne q, frc_at (by omega)]
    unfold und
    rw [e]
    exact cnF_up (by omega) (decide_eq_false (fun z => z h0))
theorem rnd_t {A N : Nat → Int} {wo : Int} (h : rnd A wo N = true) : N (16 + (N 41).toNat) = 0 ∧ 0 < shr A N wo (N 41).toNat ∧ shr A N wo (N 41).toNat < 100 ∧ ask A N (N 41).toNat = true := by
  unfold rnd at h
  rw [Bool.and_eq_true] at h
  exact ⟨(of_decide_eq_true h.1).1, (of_decide_eq_true h.2).1, (of_decide_eq_true h.2).2, h.1⟩
theorem rk_drw {A N : Nat → Int} {wo : Int} (h8 : A 1 ≤ 8) (h : WFT A N) (h37 : N 37 = 0) (hk : N 41 < A 1) : und A (drw1 A wo N) ≤ und A N ∧ rkN A (drw1 A wo N) < rkN A N := by
  obtain ⟨w, m, hi, e41, _⟩ := drw1_s (wo := wo) h8 h hk
  have hu : und A (drw1 A wo N) ≤ und A N := cnF_mono (fun c hc z => decide_eq_true (m c (of_decide_eq_true z) (by omega)))
  refine ⟨hu, ?_⟩
  unfold rkN
  rw [hi 37 (by omega) (by omega), hi 36 (by omega) (by omega), e41, if_neg (fun z => z h37), if_neg (fun z => z h37)]
  omega
theorem rk_frc {A N : Nat → Int} {wo : Int} (h8 : A 1 ≤ 8) (h : WFT A N) (h37 : N 37 = 0) (hk : N 41 < A 1) (hr : rnd A wo N = true) (b : Bool) : rkN A (frc N b) < rkN A N := by
  obtain ⟨w, hu, hi⟩ := frc_s h8 h hk (rnd_t hr).1 b
  unfold rkN
  rw [hi 37 (by omega), hi 36 (by omega), hi 41 (by omega), if_neg (fun z => z h37), if_neg (fun z => z h37)]
  omega
theorem tick_s {A N : Nat → Int} (ws1 : 0 ≤ A 1 ∧ A 1 ≤ 8) (ws0 : 1 ≤ A 0 ∧ A 0 ≤ 4) (h : WFT A N) (h37 : N 37 = 0) : WFT A (tickF A N) ∧ und A (tickF A N) = und A N ∧ rkN A (tickF A N) < rkN A N ∨ WFT A (tickF A N) ∧ und A (tickF A N) = und A N ∧ N 41 ≠ A 1 := by
  obtain ⟨h1, h2, h3, h4⟩ := h
  obtain ⟨t1, t2, t3, t4⟩ := tickF_wf ws1 ws0 h1 h2 h37
  have hu : und A (tickF A N) = und A N := cnF_cg (fun c hc => by rw [(tickF_c (D := N) ws1.2 (c := c) (by omega) ws1.1).2.2.1])
  have hw : WFT A (tickF A N) := ⟨t1, t2, by rw [tickF_41]; decide, by rw [tickF_41]; exact ws1.1⟩
  by_cases q : N 41 = A 1
  · refine Or.inl ⟨hw, hu, ?_⟩
    unfold rkN
    rw [hu, t3, tickF_41, if_neg (show ¬ N 37 ≠ 0 from fun z => z h37)]
    have x6 := h2.2.2.2.2.2 h37
    split <;> omega
  · exact Or.inr ⟨hw, hu, q⟩
/-- M is reached from N with no car in doubt -/
def Rch (A : Nat → Int) (wo : Int) (N M : Nat → Int) : Prop := WFT A M ∧ und A M ≤ und A N ∧ rkN A M ≤ rkN A N ∧ (∀ j, 42 ≤ j → M j = N j) ∧ ∀ f, rkN A N < f → ∃ f', rkN A M < f' ∧ ∀ g w, tsf A wo g f N w = tsf A wo g f' M w
theorem Rch_0 {A N : Nat → Int} {wo : Int} (h : WFT A N) : Rch A wo N N := ⟨h, Nat.le_refl _, Nat.le_refl _, fun _ _ => rfl, fun f hf => ⟨f, hf, fun _ _ => rfl⟩⟩
theorem Rch_d {A N M : Nat → Int} {wo : Int} (h8 : A 1 ≤ 8) (h : Rch A wo N M) (h37 : M 37 = 0) (hk : M 41 < A 1) (hr : rnd A wo M = false) : Rch A wo N (drw1 A wo M) ∧ drw1 A wo M 37 = 0 ∧ rkN A (drw1 A wo M) < rkN A M := by
  obtain ⟨w, hu, hrk, hh, hf⟩ := h
  obtain ⟨d1, d2, d3, d4, d5⟩ := drw1_s (wo := wo) h8 w hk
  obtain ⟨k1, k2⟩ := rk_drw (wo := wo) h8 w h37 hk
  refine ⟨⟨d1, by omega, by omega, fun j hj => (d5 j hj).trans (hh j hj), fun f hfl => ?_⟩, by rw [d3 37 (by omega) (by omega)]; exact h37, k2⟩
  obtain ⟨f', hf', e⟩ := hf f hfl
  cases f' with
  | zero => omega
  | succ f' =>
    refine ⟨f', by omega, fun g z => (e g z).trans ?_⟩
    show (if M 37 ≠ 0 then g M z else if M 41 < A 1 then (if rnd A wo M = true then _ else tsf A wo g f' (drw1 A wo M) z) else _) = _
    rw [if_neg (fun y => y h37), if_pos hk, if_neg (by rw [hr]; decide)]
theorem Rch_t {A N M : Nat → Int} {wo : Int} (ws1 : 0 ≤ A 1 ∧ A 1 ≤ 8) (ws0 : 1 ≤ A 0 ∧ A 0 ≤ 4) (h : Rch A wo N M) (h37 : M 37 = 0) (hk : M 41 = A 1) : Rch A wo N (tickF A M) ∧ rkN A (tickF A M) < rkN A M := by
  obtain ⟨w, hu, hrk, hh, hf⟩ := h
  rcases tick_s ws1 ws0 w h37 with ⟨t1, t2, t3⟩ | ⟨_, _, t3⟩
  · refine ⟨⟨t1, by omega, by omega, fun j hj => (tickF_hi ws1.2 hj).trans (hh j hj), fun f hfl => ?_⟩, t3⟩
    obtain ⟨f', hf', e⟩ := hf f hfl
    cases f' with
    | zero => omega
    | succ f' =>
      refine ⟨f', by omega, fun g z => (e g z).trans ?_⟩
      show (if M 37 ≠ 0 then g M z else if M 41 < A 1 then _ else tsf A wo g f' (tickF A M) z) = _
      rw [if_neg (fun y => y h37), if_neg (by omega)]
  · exact absurd hk t3
/-- at a leaf, at a car in doubt -/
theorem Rch_e {A N M : Nat → Int} {wo : Int} (h : Rch A wo N M) (h37 : M 37 ≠ 0) {f : Nat} (hf : rkN A N < f) (g : (Nat → Int) → Int → Int) (w : Int) : tsf A wo g f N w = g M w := by
  obtain ⟨f', hf', e⟩ := h.2.2.2.2 f hf
  rw [e g w]
  cases f' with
  | zero => rfl
  | succ f' => exact if_pos h37
theorem Rch_r {A N M : Nat → Int} {wo : Int} (h8 : A 1 ≤ 8) (h : Rch A wo N M) (h37 : M 37 = 0) (hk : M 41 < A 1) (hr : rnd A wo M = true) {f : Nat} (hf : rkN A N < f) : ∃ f', rkN A (frc M true) < f' ∧ rkN A (frc M false) < f' ∧ ∀ g w, tsf A wo g f N w = tsf A wo g f' (frc M true) (w / 100 * shr A M wo (M 41).toNat) + tsf A wo g f' (frc M false) (w / 100 * (100 - shr A M wo (M 41).toNat)) := by
  obtain ⟨f', hf', e⟩ := h.2.2.2.2 f hf
  have r1 := rk_frc h8 h.1 h37 hk hr true
  have r2 := rk_frc h8 h.1 h37 hk hr false
  cases f' with
  | zero => omega
  | succ f' =>
    refine ⟨f', by omega, by omega, fun g w => (e g w).trans ?_⟩
    show (if M 37 ≠ 0 then g M w else if M 41 < A 1 then (if rnd A wo M = true then _ else _) else _) = _
    rw [if_neg (fun y => y h37), if_pos hk, if_pos hr]
/-- what a leaf gives -/
def gK (k : Nat) (N : Nat → Int) (w : Int) : Int := if k = 3 then w * N 36 else if k = 4 then w * N 38 else if N 37 = (k : Int) + 1 then w else 0
def gB (c : Nat) (N : Nat → Int) (w : Int) : Int := if N 39 = (c : Int) then w else 0
def gS (c : Nat) (N : Nat → Int) (w : Int) : Int := if N (16 + c) = 2 then w else 0
def Gok (A : Nat → Int) (g : (Nat → Int) → Int → Int) : Prop := ∀ M w, WFT A M → 0 ≤ w → 0 ≤ g M w ∧ g M w ≤ 162 * w
theorem gK_ok (A : Nat → Int) (k : Nat) : Gok A (gK k) := by
  intro M w h hw
  have h36 := h.1.2.2.2.2.2.1
  have h38 := h.1.2.2.2.2.2.2.2.1
  unfold gK
  split
  · have := nn2 (x := w) (y := M 36) (A := w) (B := 99) hw (Int.le_refl _) h36.1 h36.2
    omega
  · split
    · have := nn2 (x := w) (y := M 38) (A := w) (B := 162) hw (Int.le_refl _) h38.1 h38.2
      omega
    · split <;> omega
theorem gB_ok (A : Nat → Int) (c : Nat) : Gok A (gB c) := by
  intro M w h hw
  unfold gB
  split <;> omega
theorem gS_ok (A : Nat → Int) (c : Nat) : Gok A (gS c) := by
  intro M w h hw
  unfold gS
  split <;> omega
theorem sh_split {w s : Int} (hw : 0 ≤ w) (h : 0 < s ∧ s < 100) : 0 ≤ w / 100 * s ∧ 0 ≤ w / 100 * (100 - s) ∧ w / 100 * s + w / 100 * (100 - s) ≤ w ∧ w / 100 * s ≤ w ∧ w / 100 * (100 - s) ≤ w := by
  have h0 : 0 ≤ w / 100 := Int.ediv_nonneg hw (by decide)
  have a := Int.mul_nonneg h0 (show 0 ≤ s by omega)
  have b := Int.mul_nonneg h0 (show 0 ≤ 100 - s by omega)
  have e : w / 100 * s + w / 100 * (100 - s) = w / 100 * 100 := by rw [← Int.mul_add]; congr 1; omega
  have d := Int.ediv_mul_le w (show (100 : Int) ≠ 0 by decide)
  omega
theorem tsf_bd {A : Nat → Int} {wo : Int} {g : (Nat → Int) → Int → Int} (ws1 : 0 ≤ A 1 ∧ A 1 ≤ 8) (ws0 : 1 ≤ A 0 ∧ A 0 ≤ 4) (hg : Gok A g) (f : Nat) : ∀ N w, WFT A N → 0 ≤ w → 0 ≤ tsf A wo g f N w ∧ tsf A wo g f N w ≤ 162 * w := by
  induction f with
  | zero => exact fun N w h hw => hg N w h hw
  | succ f ih =>
    intro N w h hw
    show 0 ≤ (if N 37 ≠ 0 then g N w else if N 41 < A 1 then (if rnd A wo N = true then tsf A wo g f (frc N true) (w / 100 * shr A N wo (N 41).toNat) + tsf A wo g f (frc N false) (w / 100 * (100 - shr A N wo (N 41).toNat)) else tsf A wo g f (drw1 A wo N) w) else tsf A wo g f (tickF A N) w) ∧ (if N 37 ≠ 0 then g N w else if N 41 < A 1 then (if rnd A wo N = true then tsf A wo g f (frc N true) (w / 100 * shr A N wo (N 41).toNat) + tsf A wo g f (frc N false) (w / 100 * (100 - shr A N wo (N 41).toNat)) else tsf A wo g f (drw1 A wo N) w) else tsf A wo g f (tickF A N) w) ≤ 162 * w
    by_cases h37 : N 37 = 0
    · rw [if_neg (fun z => z h37)]
      by_cases hk : N 41 < A 1
      · rw [if_pos hk]
        by_cases hr : rnd A wo N = true
        · rw [if_pos hr]
          obtain ⟨r0, r1, r2, _⟩ := rnd_t hr
          obtain ⟨s1, s2, s3, _⟩ := sh_split hw ⟨r1, r2⟩
          have a := ih (frc N true) _ (frc_s ws1.2 h hk r0 true).1 s1
          have b := ih (frc N false) _ (frc_s ws1.2 h hk r0 false).1 s2
          omega
        · rw [if_neg hr]
          exact ih _ w (drw1_s ws1.2 h hk).1 hw
      · rw [if_neg hk]
        rcases tick_s ws1 ws0 h h37 with ⟨t, _⟩ | ⟨t, _⟩
        · exact ih _ w t hw
        · exact ih _ w t hw
    · rw [if_pos h37]
      exact hg N w h hw
