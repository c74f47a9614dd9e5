/-! GROUP G12: how the cars go in one tick. -/
/-- the greatest of n, or 0 -/
def mxf (f : Nat → Int) : Nat → Int
  | 0 => 0
  | n + 1 => if mxf f n < f n then f n else mxf f n
theorem mxf_nn (f : Nat → Int) (n : Nat) : 0 ≤ mxf f n := by
  induction n with
  | zero => exact Int.le_refl _
  | succ n ih => show 0 ≤ (if mxf f n < f n then f n else mxf f n); split <;> omega
theorem mxf_congr {f g : Nat → Int} {n : Nat} (h : ∀ d, d < n → f d = g d) : mxf f n = mxf g n := by
  induction n with
  | zero => rfl
  | succ n ih =>
    show (if mxf f n < f n then f n else mxf f n) = (if mxf g n < g n then g n else mxf g n)
    rw [ih (fun d hd => h d (by omega)), h n (by omega)]
theorem mxf_le {f : Nat → Int} {n : Nat} {v : Int} (h0 : 0 ≤ v) (h : ∀ d, d < n → f d ≤ v) : mxf f n ≤ v := by
  induction n with
  | zero => exact h0
  | succ n ih =>
    show (if mxf f n < f n then f n else mxf f n) ≤ v
    have := ih (fun d hd => h d (by omega))
    have := h n (by omega)
    split <;> omega
theorem mxf_ge {f : Nat → Int} {n d : Nat} (hd : d < n) : f d ≤ mxf f n := by
  induction n with
  | zero => omega
  | succ n ih =>
    show f d ≤ (if mxf f n < f n then f n else mxf f n)
    rcases Nat.lt_or_ge d n with c | c
    · have := ih c
      split <;> omega
    · rw [show d = n by omega]
      split <;> omega
theorem mxf_at (f : Nat → Int) (n : Nat) : mxf f n = 0 ∨ ∃ d, d < n ∧ mxf f n = f d := by
  induction n with
  | zero => exact Or.inl rfl
  | succ n ih =>
    show (if mxf f n < f n then f n else mxf f n) = 0 ∨ ∃ d, d < n + 1 ∧ (if mxf f n < f n then f n else mxf f n) = f d
    split
    · exact Or.inr ⟨n, by omega, rfl⟩
    · rcases ih with h | ⟨d, hd, h⟩
      · exact Or.inl h
      · exact Or.inr ⟨d, by omega, h⟩
/-- one element more -/
theorem mxf_upd {f g : Nat → Int} {n c : Nat} {x : Int} (hc : c < n) (h0 : f c = 0) (hx : 0 ≤ x) (hg : ∀ d, d < n → g d = if d = c then x else f d) : mxf g n = if mxf f n < x then x else mxf f n := by
  have n1 := mxf_nn f n
  have a : mxf g n ≤ (if mxf f n < x then x else mxf f n) := by
    refine mxf_le (by split <;> omega) (fun d hd => ?_)
    rw [hg d hd]
    have := mxf_ge (f := f) hd
    by_cases e : d = c
    · rw [if_pos e]; split <;> omega
    · rw [if_neg e]; split <;> omega
  have b : x ≤ mxf g n := by
    have := mxf_ge (f := g) hc
    rw [hg c hc, if_pos rfl] at this
    exact this
  have e : mxf f n ≤ mxf g n := by
    refine mxf_le (mxf_nn g n) (fun d hd => ?_)
    have := mxf_ge (f := g) hd
    rw [hg d hd] at this
    by_cases e : d = c
    · rw [e, h0]; exact mxf_nn g n
    · rw [if_neg e] at this; exact this
  revert a
  split <;> omega
/-- the least that is so, or NONE -/
def lea (h : Nat → Bool) : Nat → Int
  | 0 => -1
  | n + 1 => if lea h n = -1 then (if h n = true then (n : Int) else -1) else lea h n
theorem lea_cases (h : Nat → Bool) (n : Nat) : (lea h n = -1 ∧ ∀ d, d < n → h d = false) ∨ (∃ k, k < n ∧ lea h n = (k : Int) ∧ h k = true ∧ ∀ d, d < k → h d = false) := by
  induction n with
  | zero => exact Or.inl ⟨rfl, fun d hd => absurd hd (Nat.not_lt_zero _)⟩
  | succ n ih =>
    show ((if lea h n = -1 then (if h n = true then (n : Int) else -1) else lea h n) = -1 ∧ _) ∨ (∃ k, k < n + 1 ∧ (if lea h n = -1 then (if h n = true then (n : Int) else -1) else lea h n) = (k : Int) ∧ _)
    rcases ih with ⟨e, hn⟩ | ⟨k, hk, e, hk1, hk2⟩
    · rw [if_pos e]
      by_cases hh : h n = true
      · rw [if_pos hh]
        exact Or.inr ⟨n, by omega, rfl, hh, hn⟩
      · rw [if_neg hh]
        refine Or.inl ⟨rfl, fun d hd => ?_⟩
        rcases Nat.lt_or_ge d n with c | c
        · exact hn d c
        · rw [show d = n by omega]; exact Bool.eq_false_iff.mpr hh
    · rw [if_neg (by omega)]
      exact Or.inr ⟨k, by omega, e, hk1, hk2⟩
theorem lea_is {h : Nat → Bool} {n k : Nat} (hk : k < n) (h1 : h k = true) (h2 : ∀ d, d < k → h d = false) : lea h n = (k : Int) := by
  rcases lea_cases h n with ⟨_, hn⟩ | ⟨j, hj, e, hj1, hj2⟩
  · rw [hn k hk] at h1; exact absurd h1 (by decide)
  · rcases Nat.lt_trichotomy j k with c | c | c
    · rw [h2 j c] at hj1; exact absurd hj1 (by decide)
    · rw [e, c]
    · rw [hj2 k c] at h1; exact absurd h1 (by decide)
theorem lea_no {h : Nat → Bool} {n : Nat} (h2 : ∀ d, d < n → h d = false) : lea h n = -1 := by
  rcases lea_cases h n with ⟨e, _⟩ | ⟨j, hj, _, hj1, _⟩
  · exact e
  · rw [h2 j hj] at hj1; exact absurd hj1 (by decide)
theorem lea_congr {h g : Nat → Bool} {n : Nat} (e : ∀ d, d < n → h d = g d) : lea h n = lea g n := by
  induction n with
  | zero => rfl
  | succ n ih =>
    show (if lea h n = -1 then (if h n = true then (n : Int) else -1) else lea h n) = (if lea g n = -1 then (if g n = true then (n : Int) else -1) else lea g n)
    rw [ih (fun d hd => e d (by omega)), e n (by omega)]
theorem lea_upd {h g : Nat → Bool} {n c : Nat} (hc : c < n) (hf : h c = false) (b : Bool) (e : ∀ d, d < n → g d = if d = c then b else h d) : lea g n = if b = true ∧ (lea h n = -1 ∨ (c : Int) < lea h n) then (c : Int) else lea h n := by
  cases b
  · rw [if_neg (fun q => absurd q.1 (by decide))]
    refine lea_congr (fun d hd => ?_)
    rw [e d hd]
    by_cases q : d = c
    · rw [if_pos q, q, hf]
    · rw [if_neg q]
  · rcases lea_cases h n with ⟨e1, hn⟩ | ⟨j, hj, e1, hj1, hj2⟩
    · rw [if_pos ⟨rfl, Or.inl e1⟩]
      refine lea_is hc (by rw [e c hc, if_pos rfl]) (fun d hd => ?_)
      rw [e d (by omega), if_neg (by omega)]
      exact hn d (by omega)
    · by_cases q : c < j
      · rw [if_pos ⟨rfl, Or.inr (by omega)⟩]
        refine lea_is hc (by rw [e c hc, if_pos rfl]) (fun d hd => ?_)
        rw [e d (by omega), if_neg (by omega)]
        exact hj2 d (by omega)
      · have nq : ¬ c = j := fun q2 => by rw [q2, hj1] at hf; exact absurd hf (by decide)
        rw [if_neg (fun q2 => by rcases q2.2 with q3 | q3 <;> omega), e1]
        refine lea_is hj (by rw [e j hj, if_neg (by omega)]; exact hj1) (fun d hd => ?_)
        rw [e d (by omega), if_neg (by omega)]
        exact hj2 d hd
def Gup (G : Nat → Bool) (c d : Nat) : Bool := if d = c then true else G d
theorem Gup_at (G : Nat → Bool) (c : Nat) : Gup G c c = true := if_pos rfl
theorem Gup_ne {G : Nat → Bool} {c d : Nat} (h : ¬ d = c) : Gup G c d = G d := if_neg h
/-- one before another in a lane's row -/
abbrev bfo (N : Nat → Int) (d c : Nat) : Prop := N d < N c ∨ (N d = N c ∧ d < c)
def nsp (N : Nat → Int) (c : Nat) : Int := if N (16 + c) = 2 then (if 0 < N (8 + c) then N (8 + c) - 1 else 0) else N (8 + c)
def hld (N : Nat → Int) (c : Nat) (w : Int) : Bool := decide (N (16 + c) ≠ 2 ∧ 0 < w ∧ N c - N (8 + c) < w + 2)
def ndi (N : Nat → Int) (c : Nat) (w : Int) : Int := if N (16 + c) = 2 then N c - nsp N c else if 0 < w ∧ N c - N (8 + c) < w + 2 then (if w + 2 < N c then w + 2 else N c) else N c - N (8 + c)
def ctr (N : Nat → Int) (c : Nat) (w : Int) : Int := if (N (16 + c) = 2 ∨ hld N c w = true) ∧ 0 < ndi N c w then ndi N c w else 0
theorem ctr_nn (N : Nat → Int) (c : Nat) (w : Int) : 0 ≤ ctr N c w := by
  unfold ctr
  split <;> omega
/-- what stops a car: the nearest before it in its lane that stands or is held -/
def wlr (A N : Nat → Int) (n : Nat) : Nat → Nat → Int
  | 0, _ => 0
  | f + 1, c => mxf (fun d => if A (2 + d) = A (2 + c) ∧ 0 < N d ∧ bfo N d c then ctr N d (wlr A N n f d) else 0) n
def key (N : Nat → Int) (c : Nat) : Nat := (N c).toNat * 8 + c
theorem wlr_st {A N : Nat → Int} {n : Nat} (hn : n ≤ 8) (f : Nat) : ∀ c, key N c < f → wlr A N n (f + 1) c = wlr A N n f c := by
  induction f with
  | zero => intro c h; exact absurd h (Nat.not_lt_zero _)
  | succ f ih =>
    intro c h
    show mxf (fun d => if A (2 + d) = A (2 + c) ∧ 0 < N d ∧ bfo N d c then ctr N d (wlr A N n (f + 1) d) else 0) n = mxf (fun d => if A (2 + d) = A (2 + c) ∧ 0 < N d ∧ bfo N d c then ctr N d (wlr A N n f d) else 0) n
    refine mxf_congr (fun d hd => ?_)
    by_cases q : A (2 + d) = A (2 + c) ∧ 0 < N d ∧ bfo N d c
    · rw [if_pos q, if_pos q, ih d (by
        have q3 := q.2.2
        unfold bfo at q3
        unfold key at h ⊢
        have := q.2.1
        rcases q3 with q4 | q4 <;> omega)]
    · rw [if_neg q, if_neg q]
def wl (A N : Nat → Int) (c : Nat) : Int := wlr A N (A 1).toNat 1700 c
theorem wl_eq {A N : Nat → Int} {c : Nat} (h8 : A 1 ≤ 8) (hc : (c : Int) < A 1) (hN : N c ≤ 200) : wl A N c = mxf (fun d => if A (2 + d) = A (2 + c) ∧ 0 < N d ∧ bfo N d c then ctr N d (wl A N d) else 0) (A 1).toNat := by
  have h := wlr_st (A := A) (N := N) (n := (A 1).toNat) (by omega) 1700 c (by unfold key; omega)
  exact h.symm
theorem wl_nn {A N : Nat → Int} {c : Nat} (h8 : A 1 ≤ 8) (hc : (c : Int) < A 1) (hN : N c ≤ 200) : 0 ≤ wl A N c := by
  rw [wl_eq h8 hc hN]; exact mxf_nn _ _
/-- the wall of a lane, of those that went -/
def wlG (A N : Nat → Int) (G : Nat → Bool) (l : Int) : Int := mxf (fun d => if A (2 + d) = l ∧ G d = true then ctr N d (wl A N d) else 0) (A 1).toNat
def hitB (A N : Nat → Int) (c : Nat) : Bool := decide (ndi N c (wl A N c) ≤ 0 ∧ N 33 = 1 ∧ A (2 + c) = N 32)
/-- half way: G went -/
def MVI (A N : Nat → Int) (G : Nat → Bool) (D S E E0 : Nat → Int) (K : Int) : Prop :=
  (∀ c : Nat, (c : Int) < A 1 → G c = true → 0 < N c ∧ D c = ndi N c (wl A N c) ∧ S c = nsp N c ∧ E c = (if hld N c (wl A N c) = true then 1 else 0)) ∧
  (∀ c : Nat, (c : Int) < A 1 → G c = false → D c = N c ∧ S c = N (8 + c) ∧ E c = E0 c) ∧
  K = lea (fun c => G c && hitB A N c) (A 1).toNat
theorem MVI_0 {A N D S E : Nat → Int} (h : ∀ c : Nat, (c : Int) < A 1 → D c = N c ∧ S c = N (8 + c)) : MVI A N (fun _ => false) D S E E (-1) :=
  ⟨fun _ _ q => Bool.noConfusion q, fun c hc _ => ⟨(h c hc).1, (h c hc).2, rfl⟩, (lea_no (fun _ _ => rfl)).symm⟩
/-- the next one's wall -/
theorem wl_G {A N : Nat → Int} {G : Nat → Bool} {c : Nat} (h8 : A 1 ≤ 8) (hc : (c : Int) < A 1) (hN : N c ≤ 200) (h : ∀ d : Nat, (d : Int) < A 1 → A (2 + d) = A (2 + c) → (G d = true ↔ 0 < N d ∧ bfo N d c)) : wl A N c = wlG A N G (A (2 + c)) := by
  rw [wl_eq h8 hc hN]
  refine mxf_congr (fun d hd => ?_)
  by_cases e : A (2 + d) = A (2 + c)
  · have h1 := h d (by omega) e
    by_cases g : G d = true
    · rw [if_pos ⟨e, h1.mp g⟩, if_pos ⟨e, g⟩]
    · rw [if_neg (fun q => g (h1.mpr q.2)), if_neg (fun q => g q.2)]
  · rw [if_neg (fun q => e q.1), if_neg (fun q => e q.1)]
theorem wlG_s {A N : Nat → Int} {G : Nat → Bool} {c : Nat} (hc : (c : Int) < A 1) (hG : G c = false) (l : Int) : wlG A N (Gup G c) l = if A (2 + c) = l ∧ wlG A N G l < ctr N c (wl A N c) then ctr N c (wl A N c) else wlG A N G l := by
  by_cases e : A (2 + c) = l
  · have h := mxf_upd (f := fun d => if A (2 + d) = l ∧ G d = true then ctr N d (wl A N d) else 0) (g := fun d => if A (2 + d) = l ∧ Gup G c d = true then ctr N d (wl A N d) else 0) (n := (A 1).toNat) (c := c) (x := ctr N c (wl A N c)) (by omega) (if_neg (fun q => by rw [hG] at q; exact absurd q.2 (by decide))) (ctr_nn _ _ _) (fun d _ => by
      by_cases q : d = c
      · rw [if_pos q, q]
        exact if_pos ⟨e, Gup_at G c⟩
      · rw [if_neg q]
        show (if A (2 + d) = l ∧ Gup G c d = true then ctr N d (wl A N d) else 0) = (if A (2 + d) = l ∧ G d = true then ctr N d (wl A N d) else 0)
        rw [Gup_ne q])
    refine h.trans ?_
    show (if wlG A N G l < ctr N c (wl A N c) then ctr N c (wl A N c) else wlG A N G l) = _
    by_cases q : wlG A N G l < ctr N c (wl A N c)
    · rw [if_pos q, if_pos ⟨e, q⟩]
    · rw [if_neg q, if_neg (fun w => q w.2)]
  · rw [if_neg (fun w => e w.1)]
    refine mxf_congr (fun d _ => ?_)
    by_cases q : d = c
    · rw [q, if_neg (fun w => e w.1), if_neg (fun w => e w.1)]
    · show (if A (2 + d) = l ∧ Gup G c d = true then _ else 0) = _
      rw [Gup_ne q]
theorem MVI_s {A N : Nat → Int} {G : Nat → Bool} {D S E E0 D1 S1 E1 : Nat → Int} {K K1 : Int} {c : Nat} (h : MVI A N G D S E E0 K) (hc : (c : Int) < A 1) (hG : G c = false) (hp : 0 < N c)
    (hD : ∀ d : Nat, (d : Int) < A 1 → D1 d = if d = c then ndi N c (wl A N c) else D d) (hS : ∀ d : Nat, (d : Int) < A 1 → S1 d = if d = c then nsp N c else S d) (hE : ∀ d : Nat, (d : Int) < A 1 → E1 d = if d = c then (if hld N c (wl A N c) = true then 1 else 0) else E d)
    (hK : K1 = if (ndi N c (wl A N c) ≤ 0 ∧ N 33 = 1 ∧ A (2 + c) = N 32) ∧ (K = -1 ∨ (c : Int) < K) then (c : Int) else K) : MVI A N (Gup G c) D1 S1 E1 E0 K1 := by
  obtain ⟨h1, h2, h3⟩ := h
  refine ⟨fun d hd g => ?_, fun d hd g => ?_, ?_⟩
  · by_cases q : d = c
    · rw [hD d hd, hS d hd, hE d hd, if_pos q, if_pos q, if_pos q, q]
      exact ⟨hp, rfl, rfl, rfl⟩
    · rw [hD d hd, hS d hd, hE d hd, if_neg q, if_neg q, if_neg q]
      exact h1 d hd (by rw [Gup_ne q] at g; exact g)
  · have q : ¬ d = c := fun q => by rw [q, Gup_at] at g; exact absurd g (by decide)
    rw [hD d hd, hS d hd, hE d hd, if_neg q, if_neg q, if_neg q]
    exact h2 d hd (by rw [Gup_ne q] at g; exact g)
  · have e := lea_upd (h := fun c => G c && hitB A N c) (g := fun d => Gup G c d && hitB A N d) (n := (A 1).toNat) (c := c) (by omega) (by show (G c && _) = false; rw [hG]; rfl) (hitB A N c) (fun d _ => by
      show (Gup G c d && hitB A N d) = if d = c then hitB A N c else (G d && hitB A N d)
      by_cases q : d = c
      · rw [if_pos q, q, Gup_at, Bool.true_and]
      · rw [if_neg q, Gup_ne q])
    rw [hK, h3]
    refine Eq.trans ?_ e.symm
    by_cases q : ndi N c (wl A N c) ≤ 0 ∧ N 33 = 1 ∧ A (2 + c) = N 32
    · have hb : hitB A N c = true := decide_eq_true q
      rw [hb]
      by_cases w : lea (fun c => G c && hitB A N c) (A 1).toNat = -1 ∨ (c : Int) < lea (fun c => G c && hitB A N c) (A 1).toNat
      · rw [if_pos ⟨q, w⟩, if_pos ⟨rfl, w⟩]
      · rw [if_neg (fun z => w z.2), if_neg (fun z => w z.2)]
    · have hb : hitB A N c = false := decide_eq_false q
      rw [hb, if_neg (fun z => q z.1), if_neg (fun z => absurd z.1 (by decide))]
/-- how many are false -/
def cnF (G : Nat → Bool) : Nat → Nat
  | 0 => 0
  | n + 1 => cnF G n + (if G n = true then 0 else 1)
theorem cnF_up {G : Nat → Bool} {c n : Nat} (hc : c < n) (h : G c = false) : cnF (Gup G c) n + 1 = cnF G n := by
  induction n with
  | zero => omega
  | succ n ih =>
    show cnF (Gup G c) n + (if Gup G c n = true then 0 else 1) + 1 = cnF G n + (if G n = true then 0 else 1)
    rcases Nat.lt_or_ge c n with q | q
    · rw [← ih q, Gup_ne (show ¬ n = c by omega)]; omega
    · have e : ∀ m : Nat, m ≤ c → cnF (Gup G c) m = cnF G m := by
        intro m hm
        induction m with
        | zero => rfl
        | succ m ih2 =>
          show cnF (Gup G c) m + (if Gup G c m = true then 0 else 1) = cnF G m + (if G m = true then 0 else 1)
          rw [ih2 (by omega), Gup_ne (show ¬ m = c by omega)]
      rw [show n = c by omega, e c (Nat.le_refl _), Gup_at, h]
      rfl
theorem cnF_le (G : Nat → Bool) (n : Nat) : cnF G n ≤ n := by
  induction n with
  | zero => exact Nat.le_refl _
  | succ n ih => show cnF G n + (if G n = true then 0 else 1) ≤ n + 1; split <;> omega
/-- the cars behind one tick -/
def mvN (A N : Nat → Int) (j : Nat) : Int := if j < (A 1).toNat then (if 0 < N j then ndi N j (wl A N j) else N j) else if 8 ≤ j ∧ j < 8 + (A 1).toNat then (if 0 < N (j - 8) then nsp N (j - 8) else N j) else if 24 ≤ j ∧ j < 32 then (if (j - 24 < (A 1).toNat ∧ 0 < N (j - 24)) ∧ hld N (j - 24) (wl A N (j - 24)) = true then 1 else 0) else N j
def knF (A N : Nat → Int) : Int := lea (fun c => decide (0 < N c) && hitB A N c) (A 1).toNat
theorem MVI_end {A N D S E E0 : Nat → Int} {G : Nat → Bool} {K : Int} (h : MVI A N G D S E E0 K) (h8 : A 1 ≤ 8) (hG : ∀ c : Nat, (c : Int) < A 1 → 0 < N c → G c = true) (h0 : ∀ c : Nat, (c : Int) < A 1 → N c ≤ 0 → E0 c = 0) : (∀ c : Nat, (c : Int) < A 1 → D c = mvN A N c ∧ S c = mvN A N (8 + c) ∧ E c = mvN A N (24 + c)) ∧ K = knF A N := by
  obtain ⟨h1, h2, h3⟩ := h
  refine ⟨fun c hc => ?_, ?_⟩
  · unfold mvN
    rw [if_pos (show c < (A 1).toNat by omega), if_neg (show ¬ 8 + c < (A 1).toNat by omega), if_pos (show 8 ≤ 8 + c ∧ 8 + c < 8 + (A 1).toNat by omega), if_neg (show ¬ 24 + c < (A 1).toNat by omega), if_neg (show ¬ (8 ≤ 24 + c ∧ 24 + c < 8 + (A 1).toNat) by omega), if_pos (show 24 ≤ 24 + c ∧ 24 + c < 32 by omega), show 8 + c - 8 = c by omega, show 24 + c - 24 = c by omega]
    by_cases q : 0 < N c
    · obtain ⟨_, e1, e2, e3⟩ := h1 c hc (hG c hc q)
      rw [if_pos q, if_pos q, e1, e2, e3]
      refine ⟨rfl, rfl, ?_⟩
      by_cases w : hld N c (wl A N c) = true
      · rw [if_pos w, if_pos ⟨⟨by omega, q⟩, w⟩]
      · rw [if_neg w, if_neg (fun z => w z.2)]
    · have g : G c = false := by
        cases hg : G c with
        | false => rfl
        | true => exact absurd (h1 c hc hg).1 q
      obtain ⟨e1, e2, e3⟩ := h2 c hc g
      rw [if_neg q, if_neg q, e1, e2, e3, h0 c hc (by omega), if_neg (fun z => q z.1.2)]
      exact ⟨rfl, rfl, rfl⟩
  · rw [h3]
    refine lea_congr (fun d hd => ?_)
    show (G d && hitB A N d) = (decide (0 < N d) && hitB A N d)
    by_cases q : 0 < N d
    · rw [hG d (by omega) q, decide_eq_true q]
    · have g : G d = false := by
        cases hg : G d with
        | false => rfl
        | true => exact absurd (h1 d (by omega) hg).1 q
      rw [g, decide_eq_false q]
/-- the reference's nearest: of those that went -/
def nrm (A V Wt E : Nat → Int) (c : Nat) : Nat → Int := mxf (fun d => if (Wt d ≠ 0 ∧ A (2 + d) = A (2 + c)) ∧ 0 < V d ∧ (V (16 + d) = 2 ∨ E d ≠ 0) then V d else 0)
theorem nrm_s (A V Wt E : Nat → Int) (c k : Nat) : nrm A V Wt E c (k + 1) = if nrm A V Wt E c k < (if (Wt k ≠ 0 ∧ A (2 + k) = A (2 + c)) ∧ 0 < V k ∧ (V (16 + k) = 2 ∨ E k ≠ 0) then V k else 0) then (if (Wt k ≠ 0 ∧ A (2 + k) = A (2 + c)) ∧ 0 < V k ∧ (V (16 + k) = 2 ∨ E k ≠ 0) then V k else 0) else nrm A V Wt E c k := rfl
theorem nrm_y {A V Wt E : Nat → Int} {c k : Nat} (h : (Wt k ≠ 0 ∧ A (2 + k) = A (2 + c)) ∧ 0 < V k ∧ (V (16 + k) = 2 ∨ E k ≠ 0)) : nrm A V Wt E c (k + 1) = if nrm A V Wt E c k < V k then V k else nrm A V Wt E c k := by
  rw [nrm_s, if_pos h]
theorem nrm_n {A V Wt E : Nat → Int} {c k : Nat} (h : ¬ ((Wt k ≠ 0 ∧ A (2 + k) = A (2 + c)) ∧ 0 < V k ∧ (V (16 + k) = 2 ∨ E k ≠ 0))) : nrm A V Wt E c (k + 1) = nrm A V Wt E c k := by
  have := mxf_nn (fun d => if (Wt d ≠ 0 ∧ A (2 + d) = A (2 + c)) ∧ 0 < V d ∧ (V (16 + d) = 2 ∨ E d ≠ 0) then V d else 0) k
  rw [nrm_s, if_neg h]
  exact if_neg (by show ¬ mxf _ k < 0; omega)
theorem nrm_le {A V Wt E : Nat → Int} {c n : Nat} (h : ∀ d, d < n → V d ≤ 200) : 0 ≤ nrm A V Wt E c n ∧ nrm A V Wt E c n ≤ 200 := by
  refine ⟨mxf_nn _ _, mxf_le (by decide) (fun d hd => ?_)⟩
  have := h d hd
  show (if _ then V d else 0) ≤ 200
  split <;> omega
theorem nrm_G {A N : Nat → Int} {G : Nat → Bool} {V Wt E E0 : Nat → Int} {K : Int} {c : Nat} (h : MVI A N G V (fun c => V (8 + c)) E E0 K) (hM : ∀ d : Nat, (d : Int) < A 1 → V (16 + d) = N (16 + d)) (hW : ∀ d : Nat, (d : Int) < A 1 → Wt d = if G d = true then 1 else 0) : nrm A V Wt E c (A 1).toNat = wlG A N G (A (2 + c)) := by
  refine mxf_congr (fun d hd => ?_)
  have hd2 : (d : Int) < A 1 := by omega
  by_cases g : G d = true
  · obtain ⟨_, e1, e2, e3⟩ := h.1 d hd2 g
    have w1 : Wt d ≠ 0 := by rw [hW d hd2, if_pos g]; decide
    by_cases e : A (2 + d) = A (2 + c)
    · refine Eq.trans ?_ (if_pos ⟨e, g⟩).symm
      unfold ctr
      rw [hM d hd2, e1]
      by_cases z : (N (16 + d) = 2 ∨ hld N d (wl A N d) = true) ∧ 0 < ndi N d (wl A N d)
      · refine Eq.trans ?_ (if_pos z).symm
        exact if_pos ⟨⟨w1, e⟩, z.2, z.1.elim Or.inl (fun y => Or.inr (by rw [e3, if_pos y]; decide))⟩
      · refine Eq.trans ?_ (if_neg z).symm
        refine if_neg (fun y => z ⟨y.2.2.elim Or.inl (fun x => ?_), y.2.1⟩)
        refine Or.inr ?_
        cases hh : hld N d (wl A N d) with
        | true => rfl
        | false => rw [e3, hh] at x; exact absurd rfl x
    · exact Eq.trans (if_neg (fun y => e y.1.2)) (if_neg (fun y => e y.1)).symm
  · refine Eq.trans ?_ (if_neg (fun y => g y.2)).symm
    exact if_neg (fun y => y.1.1 (by rw [hW d hd2, if_neg g]))
theorem bfo_tr {N : Nat → Int} {a b c : Nat} (h1 : bfo N a b) (h2 : bfo N b c) : bfo N a c := by
  unfold bfo at *
  omega
theorem bfo_tot {N : Nat → Int} {a b : Nat} (h : ¬ bfo N a b) (h2 : a ≠ b) : bfo N b a := by
  unfold bfo at *
  omega
theorem bfo_irr {N : Nat → Int} {a : Nat} : ¬ bfo N a a := by
  unfold bfo
  omega
theorem hld_t {N : Nat → Int} {c : Nat} {w : Int} (h : N (16 + c) ≠ 2 ∧ 0 < w ∧ N c - N (8 + c) < w + 2) : hld N c w = true := decide_eq_true h
theorem hld_f {N : Nat → Int} {c : Nat} {w : Int} (h : ¬ (N (16 + c) ≠ 2 ∧ 0 < w ∧ N c - N (8 + c) < w + 2)) : hld N c w = false := decide_eq_false h
theorem nsp_cg {V N : Nat → Int} {c : Nat} (h2 : V (8 + c) = N (8 + c)) (h3 : V (16 + c) = N (16 + c)) : nsp V c = nsp N c := by
  unfold nsp
  rw [h2, h3]
theorem hld_cg {V N : Nat → Int} {c : Nat} {w : Int} (h1 : V c = N c) (h2 : V (8 + c) = N (8 + c)) (h3 : V (16 + c) = N (16 + c)) : hld V c w = hld N c w := by
  unfold hld
  rw [h1, h2, h3]
theorem ndi_cg {V N : Nat → Int} {c : Nat} {w : Int} (h1 : V c = N c) (h2 : V (8 + c) = N (8 + c)) (h3 : V (16 + c) = N (16 + c)) : ndi V c w = ndi N c w := by
  unfold ndi
  rw [nsp_cg h2 h3, h1, h2, h3]
theorem nsp_bd {V : Nat → Int} {c : Nat} (h : 0 ≤ V (8 + c) ∧ V (8 + c) ≤ 9) : 0 ≤ nsp V c ∧ nsp V c ≤ 9 := by
  unfold nsp
  (repeat' split) <;> omega
theorem ndi_bd {V : Nat → Int} {c : Nat} {w : Int} (h0 : 0 < V c ∧ V c ≤ 200) (h : 0 ≤ V (8 + c) ∧ V (8 + c) ≤ 9) : -8 ≤ ndi V c w ∧ ndi V c w ≤ 200 := by
  have := nsp_bd h
  unfold ndi
  (repeat' split) <;> omega
/-- the first of a row, so far -/
def BestI (P : Nat → Prop) (N : Nat → Int) (b : Int) (k : Nat) : Prop := (b = -1 ∧ ∀ j, j < k → ¬ P j) ∨ ∃ bb : Nat, b = (bb : Int) ∧ bb < k ∧ P bb ∧ ∀ j, j < k → P j → j = bb ∨ bfo N bb j
theorem best_no {P : Nat → Prop} {N : Nat → Int} {b : Int} {k : Nat} (h : BestI P N b k) (hk : ¬ P k) : BestI P N b (k + 1) := by
  rcases h with ⟨e, h⟩ | ⟨bb, e, hl, hp, h⟩
  · exact Or.inl ⟨e, fun j hj => if q : j = k then q ▸ hk else h j (by omega)⟩
  · exact Or.inr ⟨bb, e, by omega, hp, fun j hj pj => if q : j = k then absurd (q ▸ pj) hk else h j (by omega) pj⟩
theorem best_one {P : Nat → Prop} {N : Nat → Int} {k : Nat} (h : BestI P N (-1) k) (hk : P k) : BestI P N (k : Int) (k + 1) := by
  rcases h with ⟨_, h⟩ | ⟨bb, e, _⟩
  · exact Or.inr ⟨k, rfl, by omega, hk, fun j hj pj => if q : j = k then Or.inl q else absurd pj (h j (by omega))⟩
  · omega
theorem best_lt {P : Nat → Prop} {N : Nat → Int} {b : Int} {bb k : Nat} (h : BestI P N b k) (e : b = (bb : Int)) (hk : P k) (hl : N k < N bb) : BestI P N (k : Int) (k + 1) := by
  rcases h with ⟨e2, h⟩ | ⟨b2, e2, hl2, hp, h⟩
  · omega
  · have : b2 = bb := by omega
    subst this
    refine Or.inr ⟨k, rfl, by omega, hk, fun j hj pj => ?_⟩
    by_cases q : j = k
    · exact Or.inl q
    · rcases h j (by omega) pj with z | z
      · exact Or.inr (Or.inl (z ▸ hl))
      · exact Or.inr (bfo_tr (Or.inl hl) z)
theorem best_ge {P : Nat → Prop} {N : Nat → Int} {b : Int} {bb k : Nat} (h : BestI P N b k) (e : b = (bb : Int)) (hl : ¬ N k < N bb) : BestI P N b (k + 1) := by
  rcases h with ⟨e2, h⟩ | ⟨b2, e2, hl2, hp, h⟩
  · omega
  · have : b2 = bb := by omega
    subst this
    refine Or.inr ⟨b2, e2, by omega, hp, fun j hj pj => ?_⟩
    by_cases q : j = k
    · refine Or.inr ?_
      rw [q]
      unfold bfo
      omega
    · exact h j (by omega) pj
theorem wIg (H : ZH) (c k : Nat) (v : Int) (c' k' : Nat) : (wI H c k v).1 c' k' = if c' = c ∧ k' = k then v else H.1 c' k' := rfl
theorem wI_id {H : ZH} {c k : Nat} {v : Int} (h : H.1 c k = v) : wI H c k v = H := by
  unfold wI
  refine Prod.ext ?_ rfl
  funext c' k'
  show (if c' = c ∧ k' = k then v else H.1 c' k') = H.1 c' k'
  split
  · next q => rw [q.1, q.2, h]
  · rfl
def FrC (H Hm : ZH) : Prop := Hm.2 = H.2 ∧ ∀ cc k, ¬ (cc = 6 ∨ cc = 9 ∨ cc = 10 ∨ (cc = 0 ∧ k = 26)) → Hm.1 cc k = H.1 cc k
theorem FrC_2 {H Hm : ZH} (h : FrC H Hm) : Hm.1 2 = H.1 2 := funext (fun k => h.2 2 k (by omega))
def goN (H : ZH) (c : Nat) (s e d k : Int) : ZH := wI (wI (wI (wI (wI H 6 (8 + c) s) 10 c e) 6 c d) 9 c 1) 0 26 k
theorem goN_6 (H : ZH) (c : Nat) (s e d k : Int) (j : Nat) : (goN H c s e d k).1 6 j = if j = c then d else if j = 8 + c then s else H.1 6 j := by
  unfold goN
  rw [wI1c (by omega), wI1c (by omega), wIg, wI1c (by omega), wIg]
  by_cases h1 : j = c
  · rw [if_pos ⟨rfl, h1⟩, if_pos h1]
  · rw [if_neg (fun q => h1 q.2), if_neg h1]
    by_cases h2 : j = 8 + c
    · rw [if_pos ⟨rfl, h2⟩, if_pos h2]
    · rw [if_neg (fun q => h2 q.2), if_neg h2]
theorem goN_9 (H : ZH) (c : Nat) (s e d k : Int) (j : Nat) : (goN H c s e d k).1 9 j = if j = c then 1 else H.1 9 j := by
  unfold goN
  rw [wI1c (by omega), wIg, wI1c (by omega), wI1c (by omega), wI1c (by omega)]
  by_cases h1 : j = c
  · rw [if_pos ⟨rfl, h1⟩, if_pos h1]
  · rw [if_neg (fun q => h1 q.2), if_neg h1]
theorem goN_10 (H : ZH) (c : Nat) (s e d k : Int) (j : Nat) : (goN H c s e d k).1 10 j = if j = c then e else H.1 10 j := by
  unfold goN
  rw [wI1c (by omega), wI1c (by omega), wI1c (by omega), wIg, wI1c (by omega)]
  by_cases h1 : j = c
  · rw [if_pos ⟨rfl, h1⟩, if_pos h1]
  · rw [if_neg (fun q => h1 q.2), if_neg h1]
theorem goN_0 (H : ZH) (c : Nat) (s e d k : Int) : (goN H c s e d k).1 0 26 = k := by
  unfold goN
  rw [wI1]
theorem goN_fr (H : ZH) (c : Nat) (s e d k : Int) : FrC H (goN H c s e d k) := by
  refine ⟨rfl, fun cc j h => ?_⟩
  unfold goN
  rw [wIg, if_neg (by omega), wI1c (by omega), wI1c (by omega), wI1c (by omega), wI1c (by omega)]
theorem FrC_tr {a b c : ZH} (h1 : FrC a b) (h2 : FrC b c) : FrC a c := ⟨h2.1.trans h1.1, fun cc k h => (h2.2 cc k h).trans (h1.2 cc k h)⟩
/-- the reference half way -/
def CgI (H Hm : ZH) (G : Nat → Bool) : Prop := FrC H Hm ∧ (∀ j, ¬ j < (H.1 2 1).toNat → ¬ (8 ≤ j ∧ j < 8 + (H.1 2 1).toNat) → Hm.1 6 j = H.1 6 j) ∧ MVI (H.1 2) (H.1 6) G (Hm.1 6) (fun c => Hm.1 6 (8 + c)) (Hm.1 10) (fun _ => 0) (Hm.1 0 26) ∧ (∀ c : Nat, (c : Int) < H.1 2 1 → Hm.1 9 c = if G c = true then 1 else 0) ∧ (∀ c, (H.1 2 1).toNat ≤ c → c < 8 → Hm.1 10 c = 0)
theorem go_step {H Hm : ZH} {G : Nat → Bool} {c : Nat} {W : Int} (h : CgI H Hm G) (ws : WFS (H.1 2)) (wn : WFN (H.1 2) (H.1 6)) (hc : (c : Int) < H.1 2 1) (hG : G c = false) (hp : 0 < H.1 6 c) (hk : ∀ d : Nat, (d : Int) < H.1 2 1 → H.1 2 (2 + d) = H.1 2 (2 + c) → (G d = true ↔ 0 < H.1 6 d ∧ bfo (H.1 6) d c)) (hW : W = nrm (Hm.1 2) (Hm.1 6) (Hm.1 9) (Hm.1 10) c (Hm.1 2 1).toNat) : CgI H (goN Hm c (nsp (Hm.1 6) c) (if hld (Hm.1 6) c W = true then 1 else 0) (ndi (Hm.1 6) c W) (if (ndi (Hm.1 6) c W ≤ 0 ∧ Hm.1 6 33 = 1 ∧ Hm.1 2 (2 + c) = Hm.1 6 32) ∧ (Hm.1 0 26 = -1 ∨ (c : Int) < Hm.1 0 26) then (c : Int) else Hm.1 0 26)) (Gup G c) := by
  have h8 : H.1 2 1 ≤ 8 := ws.2.1.2
  obtain ⟨fr, f6, mv, w9, h10⟩ := h
  have e2 := FrC_2 fr
  have e16 : ∀ d : Nat, (d : Int) < H.1 2 1 → Hm.1 6 (16 + d) = H.1 6 (16 + d) := fun d hd => f6 _ (by omega) (by omega)
  have eW : W = wl (H.1 2) (H.1 6) c := by
    rw [hW, e2, nrm_G mv e16 w9]
    exact (wl_G h8 hc (wn.1 c hc).1.2 hk).symm
  obtain ⟨d1, d2, _⟩ := mv.2.1 c hc hG
  have d3 := e16 c hc
  rw [eW, nsp_cg d2 d3, hld_cg d1 d2 d3, ndi_cg d1 d2 d3, e2, f6 33 (by omega) (by omega), f6 32 (by omega) (by omega)]
  refine ⟨FrC_tr fr (goN_fr _ _ _ _ _ _), fun j h1 h2 => ?_, ?_, fun d hd => ?_, fun d h1 h2 => ?_⟩
  · rw [goN_6, if_neg (by omega), if_neg (by omega)]
    exact f6 j h1 h2
  · refine MVI_s mv hc hG hp (fun d hd => ?_) (fun d hd => ?_) (fun d hd => ?_) ?_
    · rw [goN_6]
      by_cases q : d = c
      · rw [if_pos q, if_pos q]
      · rw [if_neg q, if_neg (by omega), if_neg q]
    · show (goN _ _ _ _ _ _).1 6 (8 + d) = _
      rw [goN_6, if_neg (by omega)]
      by_cases q : d = c
      · rw [if_pos (by omega), if_pos q]
      · rw [if_neg (by omega), if_neg q]
    · rw [goN_10]
    · rw [goN_0]
  · rw [goN_9]
    by_cases q : d = c
    · rw [if_pos q, q, Gup_at, if_pos rfl]
    · rw [if_neg q, Gup_ne q]
      exact w9 d hd
  · rw [goN_10, if_neg (by omega)]
    exact h10 d h1 h2
theorem cg_bd {H Hm : ZH} {G : Nat → Bool} (h : CgI H Hm G) (wn : WFN (H.1 2) (H.1 6)) : ∀ d : Nat, (d : Int) < H.1 2 1 → -9 ≤ Hm.1 6 d ∧ Hm.1 6 d ≤ 200 := by
  intro d hd
  obtain ⟨fr, f6, mv, w9, h10⟩ := h
  have w := wn.1 d hd
  cases g : G d with
  | true =>
    obtain ⟨p, e, _⟩ := mv.1 d hd g
    have := ndi_bd (V := H.1 6) (c := d) (w := wl (H.1 2) (H.1 6) d) ⟨p, w.1.2⟩ w.2.1
    rw [e]
    omega
  | false =>
    rw [(mv.2.1 d hd g).1]
    exact w.1
theorem cg_10 {H Hm : ZH} {G : Nat → Bool} (h : CgI H Hm G) {c : Nat} (hc : c < 8) : Hm.1 10 c = 0 ∨ Hm.1 10 c = 1 := by
  obtain ⟨fr, f6, mv, w9, h10⟩ := h
  by_cases q : (c : Int) < H.1 2 1
  · cases g : G c with
    | true =>
      rw [(mv.1 c q g).2.2.2]
      split
      · exact Or.inr rfl
      · exact Or.inl rfl
    | false => exact Or.inl (mv.2.1 c q g).2.2
  · exact Or.inl (h10 c (by omega) hc)
theorem cg_end {H Hm : ZH} {G : Nat → Bool} (h : CgI H Hm G) (ws : WFS (H.1 2)) (hG : ∀ c : Nat, (c : Int) < H.1 2 1 → 0 < H.1 6 c → G c = true) : (fun j => if 24 ≤ j ∧ j < 24 + 8 then Hm.1 10 (j - 24) else Hm.1 6 j) = mvN (H.1 2) (H.1 6) ∧ Hm.1 0 26 = knF (H.1 2) (H.1 6) := by
  have h8 : H.1 2 1 ≤ 8 := ws.2.1.2
  obtain ⟨fr, f6, mv, w9, h10⟩ := h
  obtain ⟨e, k⟩ := MVI_end mv h8 hG (fun _ _ _ => rfl)
  refine ⟨funext (fun j => ?_), k⟩
  show (if 24 ≤ j ∧ j < 24 + 8 then Hm.1 10 (j - 24) else Hm.1 6 j) = _
  by_cases q1 : 24 ≤ j ∧ j < 24 + 8
  · rw [if_pos q1]
    by_cases q2 : j - 24 < (H.1 2 1).toNat
    · have := (e (j - 24) (by omega)).2.2
      rw [show 24 + (j - 24) = j by omega] at this
      exact this
    · rw [h10 (j - 24) (by omega) (by omega)]
      unfold mvN
      rw [if_neg (by omega), if_neg (by omega), if_pos (by omega), if_neg (fun z => q2 z.1.1)]
  · rw [if_neg q1]
    by_cases q2 : j < (H.1 2 1).toNat
    · exact (e j (by omega)).1
    · by_cases q3 : 8 ≤ j ∧ j < 8 + (H.1 2 1).toNat
      · have := (e (j - 8) (by omega)).2.1
        rw [show 8 + (j - 8) = j by omega] at this
        exact this
      · rw [f6 j q2 q3]
        unfold mvN
        rw [if_neg q2, if_neg q3, if_neg (by omega)]
theorem cg_0 {H Hi : ZH} (fr : FrC H Hi) (e6 : Hi.1 6 = H.1 6) (ek : Hi.1 0 26 = -1) (e9 : ∀ j, j < 8 → Hi.1 9 j = 0 ∧ Hi.1 10 j = 0) (h8 : H.1 2 1 ≤ 8) : CgI H Hi (fun _ => false) := by
  refine ⟨fr, fun j _ _ => by rw [e6], ⟨fun c hc q => Bool.noConfusion q, fun c hc q => ⟨by rw [e6], by rw [e6], (e9 c (by omega)).2⟩, ?_⟩, fun c hc => (e9 c (by omega)).1, fun c h1 h2 => (e9 c h2).2⟩
  rw [ek]
  exact (lea_no (fun _ _ => rfl)).symm
theorem Gof {a : Int} {b : Bool} (h : a = if b = true then 1 else 0) : (a = 0 → b = false) ∧ (a ≠ 0 → b = true) := by
  cases b
  · exact ⟨fun _ => rfl, fun q => absurd h q⟩
  · exact ⟨fun q => by rw [if_pos rfl, q] at h; exact absurd h (by decide), fun _ => rfl⟩

theorem c_X11_goesOn {d : Nat} {H : ZH} (ok : okZ H) {c : Nat} (hc : (c : Int) < H.1 2 1) (hn8 : 0 ≤ H.1 2 1 ∧ H.1 2 1 ≤ 8) (vb : ∀ d : Nat, (d : Int) < H.1 2 1 → -9 ≤ H.1 6 d ∧ H.1 6 d ≤ 200) (vc : 1 ≤ H.1 6 c) (sb : 0 ≤ H.1 6 (8 + c) ∧ H.1 6 (8 + c) ≤ 9) (go : H.1 6 (16 + c) ≠ 2 → 1 ≤ H.1 6 (8 + c)) (e0 : H.1 10 c = 0) : EvC zX (d + 1) mX11_goesOn [.ref 0, .int (zN ((c : Int)))] (eh H) (zPv (fun (H1 : ZH) => H1 = goN H c (nsp (H.1 6) c) (if hld (H.1 6) c (nrm (H.1 2) (H.1 6) (H.1 9) (H.1 10) c (H.1 2 1).toNat) = true then (1 : Int) else 0) (ndi (H.1 6) c (nrm (H.1 2) (H.1 6) (H.1 9) (H.1 10) c (H.1 2 1).toNat)) (if (ndi (H.1 6) c (nrm (H.1 2) (H.1 6) (H.1 9) (H.1 10) c (H.1 2 1).toNat) ≤ 0 ∧ (H.1 6) 33 = 1 ∧ H.1 2 (2 + c) = (H.1 6) 32) ∧ (H.1 0 26 = -1 ∨ (c : Int) < H.1 0 26) then (c : Int) else H.1 0 26))) := by
  show _ ∧ Ev zX mX11_goesOn (EvC zX d) (zPv (fun (H1 : ZH) => H1 = goN H c (nsp (H.1 6) c) (if hld (H.1 6) c (nrm (H.1 2) (H.1 6) (H.1 9) (H.1 10) c (H.1 2 1).toNat) = true then (1 : Int) else 0) (ndi (H.1 6) c (nrm (H.1 2) (H.1 6) (H.1 9) (H.1 10) c (H.1 2 1).toNat)) (if (ndi (H.1 6) c (nrm (H.1 2) (H.1 6) (H.1 9) (H.1 10) c (H.1 2 1).toNat) ≤ 0 ∧ (H.1 6) 33 = 1 ∧ H.1 2 (2 + c) = (H.1 6) 32) ∧ (H.1 0 26 = -1 ∨ (c : Int) < H.1 0 26) then (c : Int) else H.1 0 26))) 0 [(0, .ref 0), (1, .int (zN ((c : Int))))] [] (eh H)
  refine ⟨Nat.le_of_ble_eq_true rfl, ?_⟩
  have vbc := vb c hc
  have wb := nrm_le (A := H.1 2) (V := H.1 6) (Wt := H.1 9) (E := H.1 10) (c := c) (n := (H.1 2 1).toNat) (fun d hd => (vb d (by omega)).2)
  have nb := ndi_bd (V := (H.1 6)) (c := c) (w := (nrm (H.1 2) (H.1 6) (H.1 9) (H.1 10) c (H.1 2 1).toNat)) ⟨vc, vbc.2⟩ sb
  have sbb := nsp_bd (V := (H.1 6)) (c := c) sb
  have jn274 : okZ (wI (wI (wI H 6 (8 + c) (nsp (H.1 6) c)) 10 c ((if hld (H.1 6) c (nrm (H.1 2) (H.1 6) (H.1 9) (H.1 10) c (H.1 2 1).toNat) = true then (1 : Int) else 0))) 6 c (ndi (H.1 6) c (nrm (H.1 2) (H.1 6) (H.1 9) (H.1 10) c (H.1 2 1).toNat))) → Ev zX mX11_goesOn (EvC zX d) (zPv (fun (H1 : ZH) => H1 = goN H c (nsp (H.1 6) c) (if hld (H.1 6) c (nrm (H.1 2) (H.1 6) (H.1 9) (H.1 10) c (H.1 2 1).toNat) = true then (1 : Int) else 0) (ndi (H.1 6) c (nrm (H.1 2) (H.1 6) (H.1 9) (H.1 10) c (H.1 2 1).toNat)) (if (ndi (H.1 6) c (nrm (H.1 2) (H.1 6) (H.1 9) (H.1 10) c (H.1 2 1).toNat) ≤ 0 ∧ (H.1 6) 33 = 1 ∧ H.1 2 (2 + c) = (H.1 6) 32) ∧ (H.1 0 26 = -1 ∨ (c : Int) < H.1 0 26) then (c : Int) else H.1 0 26))) 274 [(0, .ref 0), (1, .int (zN ((c : Int))))] [] (eh (wI (wI (wI H 6 (8 + c) (nsp (H.1 6) c)) 10 c ((if hld (H.1 6) c (nrm (H.1 2) (H.1 6) (H.1 9) (H.1 10) c (H.1 2 1).toNat) = true then (1 : Int) else 0))) 6 c (ndi (H.1 6) c (nrm (H.1 2) (H.1 6) (H.1 9) (H.1 10) c (H.1 2 1).toNat)))) := by
    intro okj274
    refine x_aload_n (pc := 274) dX11_goesOn_274 (List.Mem.head _) ?_
    refine z_getR (pc := 275) (k := 24) (r := 9) dX11_goesOn_275 lf_X11_48 sh_0 rfl rf_0_24 ?_
    refine x_iload_n (pc := 278) dX11_goesOn_278 (List.Mem.tail _ (List.Mem.head _)) ?_
    refine z_iconst (pc := 279) dX11_goesOn_279 ?_
    refine z_zast (pc := 280) (j := c) (v := 1) dX11_goesOn_280 sh_9 rfl (by omega) (by decide) (by omega) ?_
    have ok1 := okI okj274 9 c (v := 1) (by decide) (by decide)
    refine x_aload_n (pc := 281) dX11_goesOn_281 (List.Mem.head _) ?_
    refine z_getR (pc := 282) (k := 18) (r := 6) dX11_goesOn_282 lf_X11_33 sh_0 rfl rf_0_18 ?_
    refine z_iconst (pc := 285) dX11_goesOn_285 ?_
    refine x_iload_n (pc := 286) dX11_goesOn_286 (List.Mem.tail _ (List.Mem.head _)) ?_
    refine z_iadd (pc := 287) dX11_goesOn_287 ?_
    refine z_iald (pc := 288) (j := c) (v := ndi (H.1 6) c (nrm (H.1 2) (H.1 6) (H.1 9) (H.1 10) c (H.1 2 1).toNat)) dX11_goesOn_288 sh_6 (by omega) (by omega) (by decide) (by rw [wI1c (by omega), wI1]) ?_
    refine z_if_gt (pc := 289) (tgt := 342) dX11_goesOn_289 (by decide) (by omega) (by omega) (fun hb2 => ?_) (fun hb2 => ?_)
    · skip
      refine z_vreturn (pc := 342) dX11_goesOn_342 rfl ok1 ?_
      first | (unfold goN; rw [show (if (ndi (H.1 6) c (nrm (H.1 2) (H.1 6) (H.1 9) (H.1 10) c (H.1 2 1).toNat) ≤ 0 ∧ (H.1 6) 33 = 1 ∧ H.1 2 (2 + c) = (H.1 6) 32) ∧ (H.1 0 26 = -1 ∨ (c : Int) < H.1 0 26) then (c : Int) else H.1 0 26) = (c : Int) from if_pos (by omega)]; done) | (unfold goN; rw [show (if (ndi (H.1 6) c (nrm (H.1 2) (H.1 6) (H.1 9) (H.1 10) c (H.1 2 1).toNat) ≤ 0 ∧ (H.1 6) 33 = 1 ∧ H.1 2 (2 + c) = (H.1 6) 32) ∧ (H.1 0 26 = -1 ∨ (c : Int) < H.1 0 26) then (c : Int) else H.1 0 26) = H.1 0 26 from if_neg (by omega)]; refine (wI_id ?_).symm; rw [wI1c (by omega), wI1c (by omega), wI1c (by omega), wI1c (by omega)])
    · skip
      refine x_aload_n (pc := 292) dX11_goesOn_292 (List.Mem.head _) ?_
      refine z_getR (pc := 293) (k := 18) (r := 6) dX11_goesOn_293 lf_X11_33 sh_0 rfl rf_0_18 ?_
      refine z_bipush (pc := 296) dX11_goesOn_296 bp_33 ?_
      have r33 := ok.1 6 33
      refine z_iald (pc := 298) (j := 33) (v := (H.1 6 33)) dX11_goesOn_298 sh_6 rfl (Nat.le_of_ble_eq_true rfl) (by decide) (by rw [wI1c (by omega), wI1k (by omega), wI1c (by omega), wI1k (by omega)]) ?_
      refine z_iconst (pc := 299) dX11_goesOn_299 ?_
      refine z_icmp_ne (pc := 300) (tgt := 342) dX11_goesOn_300 (by decide) (by omega) (by omega) (by decide) (by decide) (fun hb3 => ?_) (fun hb3 => ?_)
      · skip
        refine z_vreturn (pc := 342) dX11_goesOn_342 rfl ok1 ?_
        first | (unfold goN; rw [show (if (ndi (H.1 6) c (nrm (H.1 2) (H.1 6) (H.1 9) (H.1 10) c (H.1 2 1).toNat) ≤ 0 ∧ (H.1 6) 33 = 1 ∧ H.1 2 (2 + c) = (H.1 6) 32) ∧ (H.1 0 26 = -1 ∨ (c : Int) < H.1 0 26) then (c : Int) else H.1 0 26) = (c : Int) from if_pos (by omega)]; done) | (unfold goN; rw [show (if (ndi (H.1 6) c (nrm (H.1 2) (H.1 6) (H.1 9) (H.1 10) c (H.1 2 1).toNat) ≤ 0 ∧ (H.1 6) 33 = 1 ∧ H.1 2 (2 + c) = (H.1 6) 32) ∧ (H.1 0 26 = -1 ∨ (c : Int) < H.1 0 26) then (c : Int) else H.1 0 26) = H.1 0 26 from if_neg (by omega)]; refine (wI_id ?_).symm; rw [wI1c (by omega), wI1c (by omega), wI1c (by omega), wI1c (by omega)])
      · skip
        refine x_aload_n (pc := 303) dX11_goesOn_303 (List.Mem.head _) ?_
        refine z_getR (pc := 304) (k := 2) (r := 2) dX11_goesOn_304 lf_X11_17 sh_0 rfl rf_0_2 ?_
        refine z_iconst (pc := 307) dX11_goesOn_307 ?_
        refine x_iload_n (pc := 308) dX11_goesOn_308 (List.Mem.tail _ (List.Mem.head _)) ?_
        refine z_iadd (pc := 309) dX11_goesOn_309 ?_
        have rd4 := ok.1 2 (2 + c)
        refine z_iald (pc := 310) (j := 2 + c) (v := H.1 2 (2 + c)) dX11_goesOn_310 sh_2 (by omega) (by omega) (by decide) (by rw [wI1c (by omega), wI1c (by omega), wI1c (by omega), wI1c (by omega)]) ?_
        refine x_aload_n (pc := 311) dX11_goesOn_311 (List.Mem.head _) ?_
        refine z_getR (pc := 312) (k := 18) (r := 6) dX11_goesOn_312 lf_X11_33 sh_0 rfl rf_0_18 ?_
        refine z_bipush (pc := 315) dX11_goesOn_315 bp_32 ?_
        have r32 := ok.1 6 32
        refine z_iald (pc := 317) (j := 32) (v := (H.1 6 32)) dX11_goesOn_317 sh_6 rfl (Nat.le_of_ble_eq_true rfl) (by decide) (by rw [wI1c (by omega), wI1k (by omega), wI1c (by omega), wI1k (by omega)]) ?_
        refine z_icmp_ne (pc := 318) (tgt := 342) dX11_goesOn_318 (by decide) (by omega) (by omega) (by omega) (by omega) (fun hb5 => ?_) (fun hb5 => ?_)
        · skip
          refine z_vreturn (pc := 342) dX11_goesOn_342 rfl ok1 ?_
          first | (unfold goN; rw [show (if (ndi (H.1 6) c (nrm (H.1 2) (H.1 6) (H.1 9) (H.1 10) c (H.1 2 1).toNat) ≤ 0 ∧ (H.1 6) 33 = 1 ∧ H.1 2 (2 + c) = (H.1 6) 32) ∧ (H.1 0 26 = -1 ∨ (c : Int) < H.1 0 26) then (c : Int) else H.1 0 26) = (c : Int) from if_pos (by omega)]; done) | (unfold goN; rw [show (if (ndi (H.1 6) c (nrm (H.1 2) (H.1 6) (H.1 9) (H.1 10) c (H.1 2 1).toNat) ≤ 0 ∧ (H.1 6) 33 = 1 ∧ H.1 2 (2 + c) = (H.1 6) 32) ∧ (H.1 0 26 = -1 ∨ (c : Int) < H.1 0 26) then (c : Int) else H.1 0 26) = H.1 0 26 from if_neg (by omega)]; refine (wI_id ?_).symm; rw [wI1c (by omega), wI1c (by omega), wI1c (by omega), wI1c (by omega)])
        · skip
          refine x_aload_n (pc := 321) dX11_goesOn_321 (List.Mem.head _) ?_
          have rd6 := ok.1 0 26
          refine z_getI (pc := 322) (k := 26) (v := H.1 0 26) dX11_goesOn_322 lf_X11_256 sh_0 rfl (by rw [wI1c (by omega), wI1c (by omega), wI1c (by omega), wI1c (by omega)]) ?_
          refine z_iconst (pc := 325) dX11_goesOn_325 ?_
          refine z_icmp_eq (pc := 326) (tgt := 337) dX11_goesOn_326 (by decide) (by omega) (by omega) (by decide) (by decide) (fun hb7 => ?_) (fun hb7 => ?_)
          · skip
            refine x_aload_n (pc := 337) dX11_goesOn_337 (List.Mem.head _) ?_
            refine x_iload_n (pc := 338) dX11_goesOn_338 (List.Mem.tail _ (List.Mem.head _)) ?_
            refine z_putI (pc := 339) (k := 26) dX11_goesOn_339 lp_X11_256 sh_0 rfl ?_
            have ok8 := okI ok1 0 26 (v := (c : Int)) (by omega) (by omega)
            refine z_vreturn (pc := 342) dX11_goesOn_342 rfl ok8 ?_
            first | (unfold goN; rw [show (if (ndi (H.1 6) c (nrm (H.1 2) (H.1 6) (H.1 9) (H.1 10) c (H.1 2 1).toNat) ≤ 0 ∧ (H.1 6) 33 = 1 ∧ H.1 2 (2 + c) = (H.1 6) 32) ∧ (H.1 0 26 = -1 ∨ (c : Int) < H.1 0 26) then (c : Int) else H.1 0 26) = (c : Int) from if_pos (by omega)]; done) | (unfold goN; rw [show (if (ndi (H.1 6) c (nrm (H.1 2) (H.1 6) (H.1 9) (H.1 10) c (H.1 2 1).toNat) ≤ 0 ∧ (H.1 6) 33 = 1 ∧ H.1 2 (2 + c) = (H.1 6) 32) ∧ (H.1 0 26 = -1 ∨ (c : Int) < H.1 0 26) then (c : Int) else H.1 0 26) = H.1 0 26 from if_neg (by omega)]; refine (wI_id ?_).symm; rw [wI1c (by omega), wI1c (by omega), wI1c (by omega), wI1c (by omega)])
          · skip
            refine x_iload_n (pc := 329) dX11_goesOn_329 (List.Mem.tail _ (List.Mem.head _)) ?_
            refine x_aload_n (pc := 330) dX11_goesOn_330 (List.Mem.head _) ?_
            have rd9 := ok.1 0 26
            refine z_getI (pc := 331) (k := 26) (v := H.1 0 26) dX11_goesOn_331 lf_X11_256 sh_0 rfl (by rw [wI1c (by omega), wI1c (by omega), wI1c (by omega), wI1c (by omega)]) ?_
            refine z_icmp_ge (pc := 334) (tgt := 342) dX11_goesOn_334 (by decide) (by omega) (by omega) (by omega) (by omega) (fun hb10 => ?_) (fun hb10 => ?_)
            · skip
              refine z_vreturn (pc := 342) dX11_goesOn_342 rfl ok1 ?_
              first | (unfold goN; rw [show (if (ndi (H.1 6) c (nrm (H.1 2) (H.1 6) (H.1 9) (H.1 10) c (H.1 2 1).toNat) ≤ 0 ∧ (H.1 6) 33 = 1 ∧ H.1 2 (2 + c) = (H.1 6) 32) ∧ (H.1 0 26 = -1 ∨ (c : Int) < H.1 0 26) then (c : Int) else H.1 0 26) = (c : Int) from if_pos (by omega)]; done) | (unfold goN; rw [show (if (ndi (H.1 6) c (nrm (H.1 2) (H.1 6) (H.1 9) (H.1 10) c (H.1 2 1).toNat) ≤ 0 ∧ (H.1 6) 33 = 1 ∧ H.1 2 (2 + c) = (H.1 6) 32) ∧ (H.1 0 26 = -1 ∨ (c : Int) < H.1 0 26) then (c : Int) else H.1 0 26) = H.1 0 26 from if_neg (by omega)]; refine (wI_id ?_).symm; rw [wI1c (by omega), wI1c (by omega), wI1c (by omega), wI1c (by omega)])
            · skip
              refine x_aload_n (pc := 337) dX11_goesOn_337 (List.Mem.head _) ?_
              refine x_iload_n (pc := 338) dX11_goesOn_338 (List.Mem.tail _ (List.Mem.head _)) ?_
              refine z_putI (pc := 339) (k := 26) dX11_goesOn_339 lp_X11_256 sh_0 rfl ?_
              have ok11 := okI ok1 0 26 (v := (c : Int)) (by omega) (by omega)
              refine z_vreturn (pc := 342) dX11_goesOn_342 rfl ok11 ?_
              first | (unfold goN; rw [show (if (ndi (H.1 6) c (nrm (H.1 2) (H.1 6) (H.1 9) (H.1 10) c (H.1 2 1).toNat) ≤ 0 ∧ (H.1 6) 33 = 1 ∧ H.1 2 (2 + c) = (H.1 6) 32) ∧ (H.1 0 26 = -1 ∨ (c : Int) < H.1 0 26) then (c : Int) else H.1 0 26) = (c : Int) from if_pos (by omega)]; done) | (unfold goN; rw [show (if (ndi (H.1 6) c (nrm (H.1 2) (H.1 6) (H.1 9) (H.1 10) c (H.1 2 1).toNat) ≤ 0 ∧ (H.1 6) 33 = 1 ∧ H.1 2 (2 + c) = (H.1 6) 32) ∧ (H.1 0 26 = -1 ∨ (c : Int) < H.1 0 26) then (c : Int) else H.1 0 26) = H.1 0 26 from if_neg (by omega)]; refine (wI_id ?_).symm; rw [wI1c (by omega), wI1c (by omega), wI1c (by omega), wI1c (by omega)])
  refine x_aload_n (pc := 0) dX11_goesOn_0 (List.Mem.head _) ?_
  refine z_getR (pc := 1) (k := 18) (r := 6) dX11_goesOn_1 lf_X11_33 sh_0 rfl rf_0_18 ?_
  refine z_iconst (pc := 4) dX11_goesOn_4 ?_
  refine x_iload_n (pc := 5) dX11_goesOn_5 (List.Mem.tail _ (List.Mem.head _)) ?_
  refine z_iadd (pc := 6) dX11_goesOn_6 ?_
  have rd12 := ok.1 6 c
  refine z_iald (pc := 7) (j := c) (v := H.1 6 c) dX11_goesOn_7 sh_6 (by omega) (by omega) (by decide) rfl ?_
  refine x_istore_n (pc := 8) dX11_goesOn_8 (Nat.le_of_ble_eq_true rfl) ?_
  show Ev _ _ _ _ _ [(2, .int (zN ((H.1 6 c)))), (0, .ref 0), (1, .int (zN ((c : Int))))] _ _
  refine x_aload_n (pc := 9) dX11_goesOn_9 (List.Mem.tail _ (List.Mem.head _)) ?_
  refine z_getR (pc := 10) (k := 18) (r := 6) dX11_goesOn_10 lf_X11_33 sh_0 rfl rf_0_18 ?_
  refine z_bipush (pc := 13) dX11_goesOn_13 bp_16 ?_
  refine x_iload_n (pc := 15) dX11_goesOn_15 (List.Mem.tail _ (List.Mem.tail _ (List.Mem.head _))) ?_
  refine z_iadd (pc := 16) dX11_goesOn_16 ?_
  have rd13 := ok.1 6 (16 + c)
  refine z_iald (pc := 17) (j := 16 + c) (v := H.1 6 (16 + c)) dX11_goesOn_17 sh_6 (by omega) (by omega) (by decide) rfl ?_
  refine z_iconst (pc := 18) dX11_goesOn_18 ?_
  refine z_icmp_ne (pc := 19) (tgt := 81) dX11_goesOn_19 (by decide) (by omega) (by omega) (by decide) (by decide) (fun hb14 => ?_) (fun hb14 => ?_)
  · skip
    have hns : nsp (H.1 6) c = H.1 6 (8 + c) := if_neg (by omega)
    refine x_iload_n (pc := 81) dX11_goesOn_81 (List.Mem.head _) ?_
    refine x_aload_n (pc := 82) dX11_goesOn_82 (List.Mem.tail _ (List.Mem.head _)) ?_
    refine z_getR (pc := 83) (k := 18) (r := 6) dX11_goesOn_83 lf_X11_33 sh_0 rfl rf_0_18 ?_
    refine z_bipush (pc := 86) dX11_goesOn_86 bp_8 ?_
    refine x_iload_n (pc := 88) dX11_goesOn_88 (List.Mem.tail _ (List.Mem.tail _ (List.Mem.head _))) ?_
    refine z_iadd (pc := 89) dX11_goesOn_89 ?_
    have rd15 := ok.1 6 (8 + c)
    refine z_iald (pc := 90) (j := 8 + c) (v := H.1 6 (8 + c)) dX11_goesOn_90 sh_6 (by omega) (by omega) (by decide) rfl ?_
    refine z_isub (pc := 91) dX11_goesOn_91 ?_
    refine x_istore_n (pc := 92) dX11_goesOn_92 (Nat.le_of_ble_eq_true rfl) ?_
    show Ev _ _ _ _ _ [(3, .int (zN (((H.1 6 c) - (H.1 6 (8 + c)))))), (2, .int (zN ((H.1 6 c)))), (0, .ref 0), (1, .int (zN ((c : Int))))] _ _
    have jn237 : ∀ (ls : Int), (((nrm (H.1 2) (H.1 6) (H.1 9) (H.1 10) c (H.1 2 1).toNat) = 0 ∧ ls = H.1 6 c - H.1 6 (8 + c)) ∨ (0 < (nrm (H.1 2) (H.1 6) (H.1 9) (H.1 10) c (H.1 2 1).toNat) ∧ (nrm (H.1 2) (H.1 6) (H.1 9) (H.1 10) c (H.1 2 1).toNat) + 2 ≤ H.1 6 c ∧ ls = (nrm (H.1 2) (H.1 6) (H.1 9) (H.1 10) c (H.1 2 1).toNat) + 2) ∨ (0 < (nrm (H.1 2) (H.1 6) (H.1 9) (H.1 10) c (H.1 2 1).toNat) ∧ H.1 6 c < (nrm (H.1 2) (H.1 6) (H.1 9) (H.1 10) c (H.1 2 1).toNat) + 2 ∧ ls = H.1 6 c)) → Ev zX mX11_goesOn (EvC zX d) (zPv (fun (H1 : ZH) => H1 = goN H c (nsp (H.1 6) c) (if hld (H.1 6) c (nrm (H.1 2) (H.1 6) (H.1 9) (H.1 10) c (H.1 2 1).toNat) = true then (1 : Int) else 0) (ndi (H.1 6) c (nrm (H.1 2) (H.1 6) (H.1 9) (H.1 10) c (H.1 2 1).toNat)) (if (ndi (H.1 6) c (nrm (H.1 2) (H.1 6) (H.1 9) (H.1 10) c (H.1 2 1).toNat) ≤ 0 ∧ (H.1 6) 33 = 1 ∧ H.1 2 (2 + c) = (H.1 6) 32) ∧ (H.1 0 26 = -1 ∨ (c : Int) < H.1 0 26) then (c : Int) else H.1 0 26))) 237 [(0, .ref 0), (1, .int (zN ((c : Int)))), (2, .int (zN ((H.1 6 c)))), (3, .int (zN (((H.1 6 c) - (H.1 6 (8 + c)))))), (5, .int (zN (ls)))] [] (eh H) := by
      intro ls hls
      refine x_aload_n (pc := 237) dX11_goesOn_237 (List.Mem.head _) ?_
      refine z_getR (pc := 238) (k := 25) (r := 10) dX11_goesOn_238 lf_X11_51 sh_0 rfl rf_0_25 ?_
      refine x_iload_n (pc := 241) dX11_goesOn_241 (List.Mem.tail _ (List.Mem.head _)) ?_
      refine x_iload (pc := 242) dX11_goesOn_242 (List.Mem.tail _ (List.Mem.tail _ (List.Mem.tail _ (List.Mem.tail _ (List.Mem.head _))))) ?_
      refine x_iload_n (pc := 244) dX11_goesOn_244 (List.Mem.tail _ (List.Mem.tail _ (List.Mem.tail _ (List.Mem.head _)))) ?_
      refine z_icmp_le (pc := 245) (tgt := 252) dX11_goesOn_245 (by decide) (by omega) (by omega) (by omega) (by omega) (fun hb16 => ?_) (fun hb16 => ?_)
      · skip
        have hh1 : (if hld (H.1 6) c (nrm (H.1 2) (H.1 6) (H.1 9) (H.1 10) c (H.1 2 1).toNat) = true then (1 : Int) else 0) = 0 := by rw [hld_f (by omega)]; rfl
        have hnd : ndi (H.1 6) c (nrm (H.1 2) (H.1 6) (H.1 9) (H.1 10) c (H.1 2 1).toNat) = H.1 6 c - H.1 6 (8 + c) := by unfold ndi; rw [if_neg (by omega)]; exact if_neg (by omega)
        refine z_iconst (pc := 252) dX11_goesOn_252 ?_
        refine z_zast (pc := 253) (j := c) (v := 0) dX11_goesOn_253 sh_10 rfl (by omega) (by decide) (by omega) ?_
        have ok17 := okI ok 10 c (v := 0) (by decide) (by decide)
        refine x_aload_n (pc := 254) dX11_goesOn_254 (List.Mem.head _) ?_
        refine z_getR (pc := 255) (k := 18) (r := 6) dX11_goesOn_255 lf_X11_33 sh_0 rfl rf_0_18 ?_
        refine z_iconst (pc := 258) dX11_goesOn_258 ?_
        refine x_iload_n (pc := 259) dX11_goesOn_259 (List.Mem.tail _ (List.Mem.head _)) ?_
        refine z_iadd (pc := 260) dX11_goesOn_260 ?_
        refine x_iload (pc := 261) dX11_goesOn_261 (List.Mem.tail _ (List.Mem.tail _ (List.Mem.tail _ (List.Mem.tail _ (List.Mem.head _))))) ?_
        refine x_iload_n (pc := 263) dX11_goesOn_263 (List.Mem.tail _ (List.Mem.tail _ (List.Mem.tail _ (List.Mem.head _)))) ?_
        refine z_icmp_le (pc := 264) (tgt := 272) dX11_goesOn_264 (by decide) (by omega) (by omega) (by omega) (by omega) (fun hb18 => ?_) (fun hb18 => ?_)
        · skip
          refine x_iload_n (pc := 272) dX11_goesOn_272 (List.Mem.tail _ (List.Mem.tail _ (List.Mem.tail _ (List.Mem.head _)))) ?_
          refine z_iast (pc := 273) (j := c) (v := ((H.1 6 c) - (H.1 6 (8 + c)))) dX11_goesOn_273 sh_6 (by omega) (by omega) (by decide) ?_
          have ok19 := okI ok17 6 c (v := ((H.1 6 c) - (H.1 6 (8 + c)))) (by omega) (by omega)
          refine x_weaken (L1 := [(0, .ref 0), (1, .int (zN ((c : Int))))]) (List.forall_mem_cons.mpr ⟨(List.Mem.head _), (List.forall_mem_cons.mpr ⟨(List.Mem.tail _ (List.Mem.head _)), (fun _ h => absurd h List.not_mem_nil)⟩)⟩) ?_
          have he20 : (wI (wI H 10 c (0)) 6 c (((H.1 6 c) - (H.1 6 (8 + c))))) = (wI (wI (wI H 6 (8 + c) (nsp (H.1 6) c)) 10 c ((if hld (H.1 6) c (nrm (H.1 2) (H.1 6) (H.1 9) (H.1 10) c (H.1 2 1).toNat) = true then (1 : Int) else 0))) 6 c (ndi (H.1 6) c (nrm (H.1 2) (H.1 6) (H.1 9) (H.1 10) c (H.1 2 1).toNat))) := by first | (rw [hnd, hns, hh0, wI_id (H := wI H 6 (8 + c) _) (c := 10) (k := c) (by rw [wI1c (by omega)]; exact e0)]; done) | (rw [hns, wI_id (H := H) (c := 6) (k := 8 + c) rfl, hh1, hnd]; done) | (exfalso; omega)
          refine Ev_heq he20 ?_
          have ok21 : okZ (wI (wI (wI H 6 (8 + c) (nsp (H.1 6) c)) 10 c ((if hld (H.1 6) c (nrm (H.1 2) (H.1 6) (H.1 9) (H.1 10) c (H.1 2 1).toNat) = true then (1 : Int) else 0))) 6 c (ndi (H.1 6) c (nrm (H.1 2) (H.1 6) (H.1 9) (H.1 10) c (H.1 2 1).toNat))) := by rw [← he20]; exact ok19
          exact jn274  ok21 
        · skip
          refine x_iload (pc := 267) dX11_goesOn_267 (List.Mem.tail _ (List.Mem.tail _ (List.Mem.tail _ (List.Mem.tail _ (List.Mem.head _))))) ?_
          refine x_goto (pc := 269) (tgt := 273) dX11_goesOn_269 (by decide) ?_
          refine z_iast (pc := 273) (j := c) (v := ls) dX11_goesOn_273 sh_6 (by omega) (by omega) (by decide) ?_
          have ok22 := okI ok17 6 c (v := ls) (by omega) (by omega)
          refine x_weaken (L1 := [(0, .ref 0), (1, .int (zN ((c : Int))))]) (List.forall_mem_cons.mpr ⟨(List.Mem.head _), (List.forall_mem_cons.mpr ⟨(List.Mem.tail _ (List.Mem.head _)), (fun _ h => absurd h List.not_mem_nil)⟩)⟩) ?_
          have he23 : (wI (wI H 10 c (0)) 6 c (ls)) = (wI (wI (wI H 6 (8 + c) (nsp (H.1 6) c)) 10 c ((if hld (H.1 6) c (nrm (H.1 2) (H.1 6) (H.1 9) (H.1 10) c (H.1 2 1).toNat) = true then (1 : Int) else 0))) 6 c (ndi (H.1 6) c (nrm (H.1 2) (H.1 6) (H.1 9) (H.1 10) c (H.1 2 1).toNat))) := by first | (rw [hnd, hns, hh0, wI_id (H := wI H 6 (8 + c) _) (c := 10) (k := c) (by rw [wI1c (by omega)]; exact e0)]; done) | (rw [hns, wI_id (H := H) (c := 6) (k := 8 + c) rfl, hh1, hnd]; done) | (exfalso; omega)
          refine Ev_heq he23 ?_
          have ok24 : okZ (wI (wI (wI H 6 (8 + c) (nsp (H.1 6) c)) 10 c ((if hld (H.1 6) c (nrm (H.1 2) (H.1 6) (H.1 9) (H.1 10) c (H.1 2 1).toNat) = true then (1 : Int) else 0))) 6 c (ndi (H.1 6) c (nrm (H.1 2) (H.1 6) (H.1 9) (H.1 10) c (H.1 2 1).toNat))) := by rw [← he23]; exact ok22
          exact jn274  ok24 
      · skip
        have hh1 : (if hld (H.1 6) c (nrm (H.1 2) (H.1 6) (H.1 9) (H.1 10) c (H.1 2 1).toNat) = true then (1 : Int) else 0) = 1 := by rw [hld_t (by omega)]; rfl
        have hnd : ndi (H.1 6) c (nrm (H.1 2) (H.1 6) (H.1 9) (H.1 10) c (H.1 2 1).toNat) = ls := by unfold ndi; rw [if_neg (by omega), if_pos (by omega)]; split <;> omega
        refine z_iconst (pc := 248) dX11_goesOn_248 ?_
        refine x_goto (pc := 249) (tgt := 253) dX11_goesOn_249 (by decide) ?_
        refine z_zast (pc := 253) (j := c) (v := 1) dX11_goesOn_253 sh_10 rfl (by omega) (by decide) (by omega) ?_
        have ok25 := okI ok 10 c (v := 1) (by decide) (by decide)
        refine x_aload_n (pc := 254) dX11_goesOn_254 (List.Mem.head _) ?_
        refine z_getR (pc := 255) (k := 18) (r := 6) dX11_goesOn_255 lf_X11_33 sh_0 rfl rf_0_18 ?_
        refine z_iconst (pc := 258) dX11_goesOn_258 ?_
        refine x_iload_n (pc := 259) dX11_goesOn_259 (List.Mem.tail _ (List.Mem.head _)) ?_
        refine z_iadd (pc := 260) dX11_goesOn_260 ?_
        refine x_iload (pc := 261) dX11_goesOn_261 (List.Mem.tail _ (List.Mem.tail _ (List.Mem.tail _ (List.Mem.tail _ (List.Mem.head _))))) ?_
        refine x_iload_n (pc := 263) dX11_goesOn_263 (List.Mem.tail _ (List.Mem.tail _ (List.Mem.tail _ (List.Mem.head _)))) ?_
        refine z_icmp_le (pc := 264) (tgt := 272) dX11_goesOn_264 (by decide) (by omega) (by omega) (by omega) (by omega) (fun hb26 => ?_) (fun hb26 => ?_)
        · skip
          refine x_iload_n (pc := 272) dX11_goesOn_272 (List.Mem.tail _ (List.Mem.tail _ (List.Mem.tail _ (List.Mem.head _)))) ?_
          refine z_iast (pc := 273) (j := c) (v := ((H.1 6 c) - (H.1 6 (8 + c)))) dX11_goesOn_273 sh_6 (by omega) (by omega) (by decide) ?_
          have ok27 := okI ok25 6 c (v := ((H.1 6 c) - (H.1 6 (8 + c)))) (by omega) (by omega)
          refine x_weaken (L1 := [(0, .ref 0), (1, .int (zN ((c : Int))))]) (List.forall_mem_cons.mpr ⟨(List.Mem.head _), (List.forall_mem_cons.mpr ⟨(List.Mem.tail _ (List.Mem.head _)), (fun _ h => absurd h List.not_mem_nil)⟩)⟩) ?_
          have he28 : (wI (wI H 10 c (1)) 6 c (((H.1 6 c) - (H.1 6 (8 + c))))) = (wI (wI (wI H 6 (8 + c) (nsp (H.1 6) c)) 10 c ((if hld (H.1 6) c (nrm (H.1 2) (H.1 6) (H.1 9) (H.1 10) c (H.1 2 1).toNat) = true then (1 : Int) else 0))) 6 c (ndi (H.1 6) c (nrm (H.1 2) (H.1 6) (H.1 9) (H.1 10) c (H.1 2 1).toNat))) := by first | (rw [hnd, hns, hh0, wI_id (H := wI H 6 (8 + c) _) (c := 10) (k := c) (by rw [wI1c (by omega)]; exact e0)]; done) | (rw [hns, wI_id (H := H) (c := 6) (k := 8 + c) rfl, hh1, hnd]; done) | (exfalso; omega)
          refine Ev_heq he28 ?_
          have ok29 : okZ (wI (wI (wI H 6 (8 + c) (nsp (H.1 6) c)) 10 c ((if hld (H.1 6) c (nrm (H.1 2) (H.1 6) (H.1 9) (H.1 10) c (H.1 2 1).toNat) = true then (1 : Int) else 0))) 6 c (ndi (H.1 6) c (nrm (H.1 2) (H.1 6) (H.1 9) (H.1 10) c (H.1 2 1).toNat))) := by rw [← he28]; exact ok27
          exact jn274  ok29 
        · skip
          refine x_iload (pc := 267) dX11_goesOn_267 (List.Mem.tail _ (List.Mem.tail _ (List.Mem.tail _ (List.Mem.tail _ (List.Mem.head _))))) ?_
          refine x_goto (pc := 269) (tgt := 273) dX11_goesOn_269 (by decide) ?_
          refine z_iast (pc := 273) (j := c) (v := ls) dX11_goesOn_273 sh_6 (by omega) (by omega) (by decide) ?_
          have ok30 := okI ok25 6 c (v := ls) (by omega) (by omega)
          refine x_weaken (L1 := [(0, .ref 0), (1, .int (zN ((c : Int))))]) (List.forall_mem_cons.mpr ⟨(List.Mem.head _), (List.forall_mem_cons.mpr ⟨(List.Mem.tail _ (List.Mem.head _)), (fun _ h => absurd h List.not_mem_nil)⟩)⟩) ?_
          have he31 : (wI (wI H 10 c (1)) 6 c (ls)) = (wI (wI (wI H 6 (8 + c) (nsp (H.1 6) c)) 10 c ((if hld (H.1 6) c (nrm (H.1 2) (H.1 6) (H.1 9) (H.1 10) c (H.1 2 1).toNat) = true then (1 : Int) else 0))) 6 c (ndi (H.1 6) c (nrm (H.1 2) (H.1 6) (H.1 9) (H.1 10) c (H.1 2 1).toNat))) := by first | (rw [hnd, hns, hh0, wI_id (H := wI H 6 (8 + c) _) (c := 10) (k := c) (by rw [wI1c (by omega)]; exact e0)]; done) | (rw [hns, wI_id (H := H) (c := 6) (k := 8 + c) rfl, hh1, hnd]; done) | (exfalso; omega)
          refine Ev_heq he31 ?_
          have ok32 : okZ (wI (wI (wI H 6 (8 + c) (nsp (H.1 6) c)) 10 c ((if hld (H.1 6) c (nrm (H.1 2) (H.1 6) (H.1 9) (H.1 10) c (H.1 2 1).toNat) = true then (1 : Int) else 0))) 6 c (ndi (H.1 6) c (nrm (H.1 2) (H.1 6) (H.1 9) (H.1 10) c (H.1 2 1).toNat))) := by rw [← he31]; exact ok30
          exact jn274  ok32 
    refine z_iconst (pc := 93) dX11_goesOn_93 ?_
    refine x_istore (pc := 94) dX11_goesOn_94 (Nat.le_of_ble_eq_true rfl) ?_
    show Ev _ _ _ _ _ [(4, .int (zN ((-1)))), (3, .int (zN (((H.1 6 c) - (H.1 6 (8 + c)))))), (2, .int (zN ((H.1 6 c)))), (0, .ref 0), (1, .int (zN ((c : Int))))] _ _
    refine z_iconst (pc := 96) dX11_goesOn_96 ?_
    refine x_istore (pc := 97) dX11_goesOn_97 (Nat.le_of_ble_eq_true rfl) ?_
    show Ev _ _ _ _ _ [(5, .int (zN (0))), (4, .int (zN ((-1)))), (3, .int (zN (((H.1 6 c) - (H.1 6 (8 + c)))))), (2, .int (zN ((H.1 6 c)))), (0, .ref 0), (1, .int (zN ((c : Int))))] _ _
    have lp99 : ∀ (nF : Nat) (k : Nat) (m : Int), ((k : Int) ≤ H.1 2 1) → ((nrm (H.1 2) (H.1 6) (H.1 9) (H.1 10) c k = 0 ∧ m = -1) ∨ (0 < nrm (H.1 2) (H.1 6) (H.1 9) (H.1 10) c k ∧ m = nrm (H.1 2) (H.1 6) (H.1 9) (H.1 10) c k)) → (H.1 2 1).toNat - k < nF → Ev zX mX11_goesOn (EvC zX d) (zPv (fun (H1 : ZH) => H1 = goN H c (nsp (H.1 6) c) (if hld (H.1 6) c (nrm (H.1 2) (H.1 6) (H.1 9) (H.1 10) c (H.1 2 1).toNat) = true then (1 : Int) else 0) (ndi (H.1 6) c (nrm (H.1 2) (H.1 6) (H.1 9) (H.1 10) c (H.1 2 1).toNat)) (if (ndi (H.1 6) c (nrm (H.1 2) (H.1 6) (H.1 9) (H.1 10) c (H.1 2 1).toNat) ≤ 0 ∧ (H.1 6) 33 = 1 ∧ H.1 2 (2 + c) = (H.1 6) 32) ∧ (H.1 0 26 = -1 ∨ (c : Int) < H.1 0 26) then (c : Int) else H.1 0 26))) 99 [(0, .ref 0), (1, .int (zN ((c : Int)))), (2, .int (zN ((H.1 6 c)))), (3, .int (zN (((H.1 6 c) - (H.1 6 (8 + c)))))), (4, .int (zN (m))), (5, .int (zN ((k : Int))))] [] (eh H) := by
      intro nF
      induction nF with
      | zero => intro k m hk hmv hm; exact absurd hm (Nat.not_lt_zero _)
      | succ nF ih99 =>
        intro k m hk hmv hm
        have wbk := nrm_le (A := H.1 2) (V := H.1 6) (Wt := H.1 9) (E := H.1 10) (c := c) (n := k) (fun d hd => (vb d (by omega)).2)
        refine x_iload (pc := 99) dX11_goesOn_99 (List.Mem.tail _ (List.Mem.tail _ (List.Mem.tail _ (List.Mem.tail _ (List.Mem.tail _ (List.Mem.head _)))))) ?_
        refine x_aload_n (pc := 101) dX11_goesOn_101 (List.Mem.head _) ?_
        refine z_getR (pc := 102) (k := 2) (r := 2) dX11_goesOn_102 lf_X11_17 sh_0 rfl rf_0_2 ?_
        refine z_iconst (pc := 105) dX11_goesOn_105 ?_
        have rd33 := ok.1 2 1
        refine z_iald (pc := 106) (j := 1) (v := H.1 2 1) dX11_goesOn_106 sh_2 rfl (Nat.le_of_ble_eq_true rfl) (by decide) rfl ?_
        refine z_icmp_ge (pc := 107) (tgt := 207) dX11_goesOn_107 (by decide) (by omega) (by omega) (by omega) (by omega) (fun hb34 => ?_) (fun hb34 => ?_)
        · skip
          have hw : ((nrm (H.1 2) (H.1 6) (H.1 9) (H.1 10) c (H.1 2 1).toNat) = 0 ∧ m = -1) ∨ (0 < (nrm (H.1 2) (H.1 6) (H.1 9) (H.1 10) c (H.1 2 1).toNat) ∧ m = (nrm (H.1 2) (H.1 6) (H.1 9) (H.1 10) c (H.1 2 1).toNat)) := by rw [show (H.1 2 1).toNat = k by omega]; exact hmv
          refine x_iload (pc := 207) dX11_goesOn_207 (List.Mem.tail _ (List.Mem.tail _ (List.Mem.tail _ (List.Mem.tail _ (List.Mem.head _))))) ?_
          refine z_iconst (pc := 209) dX11_goesOn_209 ?_
          refine z_icmp_ne (pc := 210) (tgt := 217) dX11_goesOn_210 (by decide) (by omega) (by omega) (by decide) (by decide) (fun hb35 => ?_) (fun hb35 => ?_)
          · skip
            refine x_iload (pc := 217) dX11_goesOn_217 (List.Mem.tail _ (List.Mem.tail _ (List.Mem.tail _ (List.Mem.tail _ (List.Mem.head _))))) ?_
            refine z_iconst (pc := 219) dX11_goesOn_219 ?_
            refine z_iadd (pc := 220) dX11_goesOn_220 ?_
            refine x_istore (pc := 221) dX11_goesOn_221 (Nat.le_of_ble_eq_true rfl) ?_
            show Ev _ _ _ _ _ [(5, .int (zN ((m + 2)))), (0, .ref 0), (1, .int (zN ((c : Int)))), (2, .int (zN ((H.1 6 c)))), (3, .int (zN (((H.1 6 c) - (H.1 6 (8 + c)))))), (4, .int (zN (m)))] _ _
            refine x_iload (pc := 223) dX11_goesOn_223 (List.Mem.head _) ?_
            refine x_iload_n (pc := 225) dX11_goesOn_225 (List.Mem.tail _ (List.Mem.tail _ (List.Mem.tail _ (List.Mem.head _)))) ?_
            refine z_icmp_le (pc := 226) (tgt := 233) dX11_goesOn_226 (by decide) (by omega) (by omega) (by omega) (by omega) (fun hb36 => ?_) (fun hb36 => ?_)
            · skip
              refine x_iload (pc := 233) dX11_goesOn_233 (List.Mem.head _) ?_
              refine x_istore (pc := 235) dX11_goesOn_235 (Nat.le_of_ble_eq_true rfl) ?_
              show Ev _ _ _ _ _ [(5, .int (zN ((m + 2)))), (0, .ref 0), (1, .int (zN ((c : Int)))), (2, .int (zN ((H.1 6 c)))), (3, .int (zN (((H.1 6 c) - (H.1 6 (8 + c)))))), (4, .int (zN (m)))] _ _
              refine x_weaken (L1 := [(0, .ref 0), (1, .int (zN ((c : Int)))), (2, .int (zN ((H.1 6 c)))), (3, .int (zN (((H.1 6 c) - (H.1 6 (8 + c)))))), (5, .int (zN ((m + 2))))]) (List.forall_mem_cons.mpr ⟨(List.Mem.tail _ (List.Mem.head _)), (List.forall_mem_cons.mpr ⟨(List.Mem.tail _ (List.Mem.tail _ (List.Mem.head _))), (List.forall_mem_cons.mpr ⟨(List.Mem.tail _ (List.Mem.tail _ (List.Mem.tail _ (List.Mem.head _)))), (List.forall_mem_cons.mpr ⟨(List.Mem.tail _ (List.Mem.tail _ (List.Mem.tail _ (List.Mem.tail _ (List.Mem.head _))))), (List.forall_mem_cons.mpr ⟨(List.Mem.head _), (fun _ h => absurd h List.not_mem_nil)⟩)⟩)⟩)⟩)⟩) ?_
              exact jn237 ((m + 2)) (by first | assumption | omega)
            · skip
              refine x_iload_n (pc := 229) dX11_goesOn_229 (List.Mem.tail _ (List.Mem.tail _ (List.Mem.tail _ (List.Mem.head _)))) ?_
              refine x_goto (pc := 230) (tgt := 235) dX11_goesOn_230 (by decide) ?_
              refine x_istore (pc := 235) dX11_goesOn_235 (Nat.le_of_ble_eq_true rfl) ?_
              show Ev _ _ _ _ _ [(5, .int (zN ((H.1 6 c)))), (0, .ref 0), (1, .int (zN ((c : Int)))), (2, .int (zN ((H.1 6 c)))), (3, .int (zN (((H.1 6 c) - (H.1 6 (8 + c)))))), (4, .int (zN (m)))] _ _
              refine x_weaken (L1 := [(0, .ref 0), (1, .int (zN ((c : Int)))), (2, .int (zN ((H.1 6 c)))), (3, .int (zN (((H.1 6 c) - (H.1 6 (8 + c)))))), (5, .int (zN ((H.1 6 c))))]) (List.forall_mem_cons.mpr ⟨(List.Mem.tail _ (List.Mem.head _)), (List.forall_mem_cons.mpr ⟨(List.Mem.tail _ (List.Mem.tail _ (List.Mem.head _))), (List.forall_mem_cons.mpr ⟨(List.Mem.tail _ (List.Mem.tail _ (List.Mem.tail _ (List.Mem.head _)))), (List.forall_mem_cons.mpr ⟨(List.Mem.tail _ (List.Mem.tail _ (List.Mem.tail _ (List.Mem.tail _ (List.Mem.head _))))), (List.forall_mem_cons.mpr ⟨(List.Mem.head _), (fun _ h => absurd h List.not_mem_nil)⟩)⟩)⟩)⟩)⟩) ?_
              exact jn237 ((H.1 6 c)) (by first | assumption | omega)
          · skip
            refine x_iload_n (pc := 213) dX11_goesOn_213 (List.Mem.tail _ (List.Mem.tail _ (List.Mem.tail _ (List.Mem.head _)))) ?_
            refine x_goto (pc := 214) (tgt := 221) dX11_goesOn_214 (by decide) ?_
            refine x_istore (pc := 221) dX11_goesOn_221 (Nat.le_of_ble_eq_true rfl) ?_
            show Ev _ _ _ _ _ [(5, .int (zN (((H.1 6 c) - (H.1 6 (8 + c)))))), (0, .ref 0), (1, .int (zN ((c : Int)))), (2, .int (zN ((H.1 6 c)))), (3, .int (zN (((H.1 6 c) - (H.1 6 (8 + c)))))), (4, .int (zN (m)))] _ _
            refine x_iload (pc := 223) dX11_goesOn_223 (List.Mem.head _) ?_
            refine x_iload_n (pc := 225) dX11_goesOn_225 (List.Mem.tail _ (List.Mem.tail _ (List.Mem.tail _ (List.Mem.head _)))) ?_
            refine z_icmp_le (pc := 226) (tgt := 233) dX11_goesOn_226 (by decide) (by omega) (by omega) (by omega) (by omega) (fun hb37 => ?_) (fun hb37 => ?_)
            · skip
              refine x_iload (pc := 233) dX11_goesOn_233 (List.Mem.head _) ?_
              refine x_istore (pc := 235) dX11_goesOn_235 (Nat.le_of_ble_eq_true rfl) ?_
              show Ev _ _ _ _ _ [(5, .int (zN (((H.1 6 c) - (H.1 6 (8 + c)))))), (0, .ref 0), (1, .int (zN ((c : Int)))), (2, .int (zN ((H.1 6 c)))), (3, .int (zN (((H.1 6 c) - (H.1 6 (8 + c)))))), (4, .int (zN (m)))] _ _
              refine x_weaken (L1 := [(0, .ref 0), (1, .int (zN ((c : Int)))), (2, .int (zN ((H.1 6 c)))), (3, .int (zN (((H.1 6 c) - (H.1 6 (8 + c)))))), (5, .int (zN (((H.1 6 c) - (H.1 6 (8 + c))))))]) (List.forall_mem_cons.mpr ⟨(List.Mem.tail _ (List.Mem.head _)), (List.forall_mem_cons.mpr ⟨(List.Mem.tail _ (List.Mem.tail _ (List.Mem.head _))), (List.forall_mem_cons.mpr ⟨(List.Mem.tail _ (List.Mem.tail _ (List.Mem.tail _ (List.Mem.head _)))), (List.forall_mem_cons.mpr ⟨(List.Mem.tail _ (List.Mem.tail _ (List.Mem.tail _ (List.Mem.tail _ (List.Mem.head _))))), (List.forall_mem_cons.mpr ⟨(List.Mem.head _), (fun _ h => absurd h List.not_mem_nil)⟩)⟩)⟩)⟩)⟩) ?_
              exact jn237 (((H.1 6 c) - (H.1 6 (8 + c)))) (by first | assumption | omega)
            · skip
              refine x_iload_n (pc := 229) dX11_goesOn_229 (List.Mem.tail _ (List.Mem.tail _ (List.Mem.tail _ (List.Mem.head _)))) ?_
              refine x_goto (pc := 230) (tgt := 235) dX11_goesOn_230 (by decide) ?_
              refine x_istore (pc := 235) dX11_goesOn_235 (Nat.le_of_ble_eq_true rfl) ?_
              show Ev _ _ _ _ _ [(5, .int (zN ((H.1 6 c)))), (0, .ref 0), (1, .int (zN ((c : Int)))), (2, .int (zN ((H.1 6 c)))), (3, .int (zN (((H.1 6 c) - (H.1 6 (8 + c)))))), (4, .int (zN (m)))] _ _
              refine x_weaken (L1 := [(0, .ref 0), (1, .int (zN ((c : Int)))), (2, .int (zN ((H.1 6 c)))), (3, .int (zN (((H.1 6 c) - (H.1 6 (8 + c)))))), (5, .int (zN ((H.1 6 c))))]) (List.forall_mem_cons.mpr ⟨(List.Mem.tail _ (List.Mem.head _)), (List.forall_mem_cons.mpr ⟨(List.Mem.tail _ (List.Mem.tail _ (List.Mem.head _))), (List.forall_mem_cons.mpr ⟨(List.Mem.tail _ (List.Mem.tail _ (List.Mem.tail _ (List.Mem.head _)))), (List.forall_mem_cons.mpr ⟨(List.Mem.tail _ (List.Mem.tail _ (List.Mem.tail _ (List.Mem.tail _ (List.Mem.head _))))), (List.forall_mem_cons.mpr ⟨(List.Mem.head _), (fun _ h => absurd h List.not_mem_nil)⟩)⟩)⟩)⟩)⟩) ?_
              exact jn237 ((H.1 6 c)) (by first | assumption | omega)
        · skip
          have vbk := vb k (by omega)
          refine x_aload_n (pc := 110) dX11_goesOn_110 (List.Mem.head _) ?_
          refine z_getR (pc := 111) (k := 24) (r := 9) dX11_goesOn_111 lf_X11_48 sh_0 rfl rf_0_24 ?_
          refine x_iload (pc := 114) dX11_goesOn_114 (List.Mem.tail _ (List.Mem.tail _ (List.Mem.tail _ (List.Mem.tail _ (List.Mem.tail _ (List.Mem.head _)))))) ?_
          have rd38 := ok.1 9 k
          refine z_zald (pc := 116) (j := k) (v := H.1 9 k) dX11_goesOn_116 sh_9 rfl (by omega) (by decide) rfl ?_
          refine z_if_eq (pc := 117) (tgt := 201) dX11_goesOn_117 (by decide) (by omega) (by omega) (fun hb39 => ?_) (fun hb39 => ?_)
          · skip
            refine z_iinc (pc := 201) dX11_goesOn_201 (List.Mem.tail _ (List.Mem.tail _ (List.Mem.tail _ (List.Mem.tail _ (List.Mem.tail _ (List.Mem.head _)))))) (Nat.le_of_ble_eq_true rfl) ?_
            show Ev _ _ _ _ _ [(5, .int (zN ((k : Int) + 1))), (0, .ref 0), (1, .int (zN ((c : Int)))), (2, .int (zN ((H.1 6 c)))), (3, .int (zN (((H.1 6 c) - (H.1 6 (8 + c)))))), (4, .int (zN (m)))] _ _
            refine x_goto (pc := 204) (tgt := 99) dX11_goesOn_204 (by decide) ?_
            refine x_weaken (L1 := [(0, .ref 0), (1, .int (zN ((c : Int)))), (2, .int (zN ((H.1 6 c)))), (3, .int (zN (((H.1 6 c) - (H.1 6 (8 + c)))))), (4, .int (zN (m))), (5, .int (zN ((((k + 1) : Nat) : Int))))]) (List.forall_mem_cons.mpr ⟨(List.Mem.tail _ (List.Mem.head _)), (List.forall_mem_cons.mpr ⟨(List.Mem.tail _ (List.Mem.tail _ (List.Mem.head _))), (List.forall_mem_cons.mpr ⟨(List.Mem.tail _ (List.Mem.tail _ (List.Mem.tail _ (List.Mem.head _)))), (List.forall_mem_cons.mpr ⟨(List.Mem.tail _ (List.Mem.tail _ (List.Mem.tail _ (List.Mem.tail _ (List.Mem.head _))))), (List.forall_mem_cons.mpr ⟨(List.Mem.tail _ (List.Mem.tail _ (List.Mem.tail _ (List.Mem.tail _ (List.Mem.tail _ (List.Mem.head _)))))), (List.forall_mem_cons.mpr ⟨(mem_ci (by omega) (List.Mem.head _)), (fun _ h => absurd h List.not_mem_nil)⟩)⟩)⟩)⟩)⟩)⟩) ?_
            exact ih99 ((k + 1)) (m) (by first | assumption | omega) (by first | (rw [nrm_y (by omega)]; split <;> omega) | (rw [nrm_n (by omega)]; omega)) (by omega)
          · skip
            refine x_aload_n (pc := 120) dX11_goesOn_120 (List.Mem.head _) ?_
            refine z_getR (pc := 121) (k := 2) (r := 2) dX11_goesOn_121 lf_X11_17 sh_0 rfl rf_0_2 ?_
            refine z_iconst (pc := 124) dX11_goesOn_124 ?_
            refine x_iload (pc := 125) dX11_goesOn_125 (List.Mem.tail _ (List.Mem.tail _ (List.Mem.tail _ (List.Mem.tail _ (List.Mem.tail _ (List.Mem.head _)))))) ?_
            refine z_iadd (pc := 127) dX11_goesOn_127 ?_
            have rd40 := ok.1 2 (2 + k)
            refine z_iald (pc := 128) (j := 2 + k) (v := H.1 2 (2 + k)) dX11_goesOn_128 sh_2 (by omega) (by omega) (by decide) rfl ?_
            refine x_aload_n (pc := 129) dX11_goesOn_129 (List.Mem.head _) ?_
            refine z_getR (pc := 130) (k := 2) (r := 2) dX11_goesOn_130 lf_X11_17 sh_0 rfl rf_0_2 ?_
            refine z_iconst (pc := 133) dX11_goesOn_133 ?_
            refine x_iload_n (pc := 134) dX11_goesOn_134 (List.Mem.tail _ (List.Mem.head _)) ?_
            refine z_iadd (pc := 135) dX11_goesOn_135 ?_
            have rd41 := ok.1 2 (2 + c)
            refine z_iald (pc := 136) (j := 2 + c) (v := H.1 2 (2 + c)) dX11_goesOn_136 sh_2 (by omega) (by omega) (by decide) rfl ?_
            refine z_icmp_ne (pc := 137) (tgt := 201) dX11_goesOn_137 (by decide) (by omega) (by omega) (by omega) (by omega) (fun hb42 => ?_) (fun hb42 => ?_)
            · skip
              refine z_iinc (pc := 201) dX11_goesOn_201 (List.Mem.tail _ (List.Mem.tail _ (List.Mem.tail _ (List.Mem.tail _ (List.Mem.tail _ (List.Mem.head _)))))) (Nat.le_of_ble_eq_true rfl) ?_
              show Ev _ _ _ _ _ [(5, .int (zN ((k : Int) + 1))), (0, .ref 0), (1, .int (zN ((c : Int)))), (2, .int (zN ((H.1 6 c)))), (3, .int (zN (((H.1 6 c) - (H.1 6 (8 + c)))))), (4, .int (zN (m)))] _ _
              refine x_goto (pc := 204) (tgt := 99) dX11_goesOn_204 (by decide) ?_
              refine x_weaken (L1 := [(0, .ref 0), (1, .int (zN ((c : Int)))), (2, .int (zN ((H.1 6 c)))), (3, .int (zN (((H.1 6 c) - (H.1 6 (8 + c)))))), (4, .int (zN (m))), (5, .int (zN ((((k + 1) : Nat) : Int))))]) (List.forall_mem_cons.mpr ⟨(List.Mem.tail _ (List.Mem.head _)), (List.forall_mem_cons.mpr ⟨(List.Mem.tail _ (List.Mem.tail _ (List.Mem.head _))), (List.forall_mem_cons.mpr ⟨(List.Mem.tail _ (List.Mem.tail _ (List.Mem.tail _ (List.Mem.head _)))), (List.forall_mem_cons.mpr ⟨(List.Mem.tail _ (List.Mem.tail _ (List.Mem.tail _ (List.Mem.tail _ (List.Mem.head _))))), (List.forall_mem_cons.mpr ⟨(List.Mem.tail _ (List.Mem.tail _ (List.Mem.tail _ (List.Mem.tail _ (List.Mem.tail _ (List.Mem.head _)))))), (List.forall_mem_cons.mpr ⟨(mem_ci (by omega) (List.Mem.head _)), (fun _ h => absurd h List.not_mem_nil)⟩)⟩)⟩)⟩)⟩)⟩) ?_
              exact ih99 ((k + 1)) (m) (by first | assumption | omega) (by first | (rw [nrm_y (by omega)]; split <;> omega) | (rw [nrm_n (by omega)]; omega)) (by omega)
            · skip
              refine x_aload_n (pc := 140) dX11_goesOn_140 (List.Mem.head _) ?_
              refine z_getR (pc := 141) (k := 18) (r := 6) dX11_goesOn_141 lf_X11_33 sh_0 rfl rf_0_18 ?_
              refine z_iconst (pc := 144) dX11_goesOn_144 ?_
              refine x_iload (pc := 145) dX11_goesOn_145 (List.Mem.tail _ (List.Mem.tail _ (List.Mem.tail _ (List.Mem.tail _ (List.Mem.tail _ (List.Mem.head _)))))) ?_
              refine z_iadd (pc := 147) dX11_goesOn_147 ?_
              have rd43 := ok.1 6 k
              refine z_iald (pc := 148) (j := k) (v := H.1 6 k) dX11_goesOn_148 sh_6 (by omega) (by omega) (by decide) rfl ?_
              refine z_if_le (pc := 149) (tgt := 201) dX11_goesOn_149 (by decide) (by omega) (by omega) (fun hb44 => ?_) (fun hb44 => ?_)
              · skip
                refine z_iinc (pc := 201) dX11_goesOn_201 (List.Mem.tail _ (List.Mem.tail _ (List.Mem.tail _ (List.Mem.tail _ (List.Mem.tail _ (List.Mem.head _)))))) (Nat.le_of_ble_eq_true rfl) ?_
                show Ev _ _ _ _ _ [(5, .int (zN ((k : Int) + 1))), (0, .ref 0), (1, .int (zN ((c : Int)))), (2, .int (zN ((H.1 6 c)))), (3, .int (zN (((H.1 6 c) - (H.1 6 (8 + c)))))), (4, .int (zN (m)))] _ _
                refine x_goto (pc := 204) (tgt := 99) dX11_goesOn_204 (by decide) ?_
                refine x_weaken (L1 := [(0, .ref 0), (1, .int (zN ((c : Int)))), (2, .int (zN ((H.1 6 c)))), (3, .int (zN (((H.1 6 c) - (H.1 6 (8 + c)))))), (4, .int (zN (m))), (5, .int (zN ((((k + 1) : Nat) : Int))))]) (List.forall_mem_cons.mpr ⟨(List.Mem.tail _ (List.Mem.head _)), (List.forall_mem_cons.mpr ⟨(List.Mem.tail _ (List.Mem.tail _ (List.Mem.head _))), (List.forall_mem_cons.mpr ⟨(List.Mem.tail _ (List.Mem.tail _ (List.Mem.tail _ (List.Mem.head _)))), (List.forall_mem_cons.mpr ⟨(List.Mem.tail _ (List.Mem.tail _ (List.Mem.tail _ (List.Mem.tail _ (List.Mem.head _))))), (List.forall_mem_cons.mpr ⟨(List.Mem.tail _ (List.Mem.tail _ (List.Mem.tail _ (List.Mem.tail _ (List.Mem.tail _ (List.Mem.head _)))))), (List.forall_mem_cons.mpr ⟨(mem_ci (by omega) (List.Mem.head _)), (fun _ h => absurd h List.not_mem_nil)⟩)⟩)⟩)⟩)⟩)⟩) ?_
                exact ih99 ((k + 1)) (m) (by first | assumption | omega) (by first | (rw [nrm_y (by omega)]; split <;> omega) | (rw [nrm_n (by omega)]; omega)) (by omega)
              · skip
                refine x_aload_n (pc := 152) dX11_goesOn_152 (List.Mem.head _) ?_
                refine z_getR (pc := 153) (k := 18) (r := 6) dX11_goesOn_153 lf_X11_33 sh_0 rfl rf_0_18 ?_
                refine z_bipush (pc := 156) dX11_goesOn_156 bp_16 ?_
                refine x_iload (pc := 158) dX11_goesOn_158 (List.Mem.tail _ (List.Mem.tail _ (List.Mem.tail _ (List.Mem.tail _ (List.Mem.tail _ (List.Mem.head _)))))) ?_
                refine z_iadd (pc := 160) dX11_goesOn_160 ?_
                have rd45 := ok.1 6 (16 + k)
                refine z_iald (pc := 161) (j := 16 + k) (v := H.1 6 (16 + k)) dX11_goesOn_161 sh_6 (by omega) (by omega) (by decide) rfl ?_
                refine z_iconst (pc := 162) dX11_goesOn_162 ?_
                refine z_icmp_eq (pc := 163) (tgt := 176) dX11_goesOn_163 (by decide) (by omega) (by omega) (by decide) (by decide) (fun hb46 => ?_) (fun hb46 => ?_)
                · skip
                  refine x_aload_n (pc := 176) dX11_goesOn_176 (List.Mem.head _) ?_
                  refine z_getR (pc := 177) (k := 18) (r := 6) dX11_goesOn_177 lf_X11_33 sh_0 rfl rf_0_18 ?_
                  refine z_iconst (pc := 180) dX11_goesOn_180 ?_
                  refine x_iload (pc := 181) dX11_goesOn_181 (List.Mem.tail _ (List.Mem.tail _ (List.Mem.tail _ (List.Mem.tail _ (List.Mem.tail _ (List.Mem.head _)))))) ?_
                  refine z_iadd (pc := 183) dX11_goesOn_183 ?_
                  have rd47 := ok.1 6 k
                  refine z_iald (pc := 184) (j := k) (v := H.1 6 k) dX11_goesOn_184 sh_6 (by omega) (by omega) (by decide) rfl ?_
                  refine x_iload (pc := 185) dX11_goesOn_185 (List.Mem.tail _ (List.Mem.tail _ (List.Mem.tail _ (List.Mem.tail _ (List.Mem.head _))))) ?_
                  refine z_icmp_le (pc := 187) (tgt := 201) dX11_goesOn_187 (by decide) (by omega) (by omega) (by omega) (by omega) (fun hb48 => ?_) (fun hb48 => ?_)
                  · skip
                    refine z_iinc (pc := 201) dX11_goesOn_201 (List.Mem.tail _ (List.Mem.tail _ (List.Mem.tail _ (List.Mem.tail _ (List.Mem.tail _ (List.Mem.head _)))))) (Nat.le_of_ble_eq_true rfl) ?_
                    show Ev _ _ _ _ _ [(5, .int (zN ((k : Int) + 1))), (0, .ref 0), (1, .int (zN ((c : Int)))), (2, .int (zN ((H.1 6 c)))), (3, .int (zN (((H.1 6 c) - (H.1 6 (8 + c)))))), (4, .int (zN (m)))] _ _
                    refine x_goto (pc := 204) (tgt := 99) dX11_goesOn_204 (by decide) ?_
                    refine x_weaken (L1 := [(0, .ref 0), (1, .int (zN ((c : Int)))), (2, .int (zN ((H.1 6 c)))), (3, .int (zN (((H.1 6 c) - (H.1 6 (8 + c)))))), (4, .int (zN (m))), (5, .int (zN ((((k + 1) : Nat) : Int))))]) (List.forall_mem_cons.mpr ⟨(List.Mem.tail _ (List.Mem.head _)), (List.forall_mem_cons.mpr ⟨(List.Mem.tail _ (List.Mem.tail _ (List.Mem.head _))), (List.forall_mem_cons.mpr ⟨(List.Mem.tail _ (List.Mem.tail _ (List.Mem.tail _ (List.Mem.head _)))), (List.forall_mem_cons.mpr ⟨(List.Mem.tail _ (List.Mem.tail _ (List.Mem.tail _ (List.Mem.tail _ (List.Mem.head _))))), (List.forall_mem_cons.mpr ⟨(List.Mem.tail _ (List.Mem.tail _ (List.Mem.tail _ (List.Mem.tail _ (List.Mem.tail _ (List.Mem.head _)))))), (List.forall_mem_cons.mpr ⟨(mem_ci (by omega) (List.Mem.head _)), (fun _ h => absurd h List.not_mem_nil)⟩)⟩)⟩)⟩)⟩)⟩) ?_
                    exact ih99 ((k + 1)) (m) (by first | assumption | omega) (by first | (rw [nrm_y (by omega)]; split <;> omega) | (rw [nrm_n (by omega)]; omega)) (by omega)
                  · skip
                    refine x_aload_n (pc := 190) dX11_goesOn_190 (List.Mem.head _) ?_
                    refine z_getR (pc := 191) (k := 18) (r := 6) dX11_goesOn_191 lf_X11_33 sh_0 rfl rf_0_18 ?_
                    refine z_iconst (pc := 194) dX11_goesOn_194 ?_
                    refine x_iload (pc := 195) dX11_goesOn_195 (List.Mem.tail _ (List.Mem.tail _ (List.Mem.tail _ (List.Mem.tail _ (List.Mem.tail _ (List.Mem.head _)))))) ?_
                    refine z_iadd (pc := 197) dX11_goesOn_197 ?_
                    have rd49 := ok.1 6 k
                    refine z_iald (pc := 198) (j := k) (v := H.1 6 k) dX11_goesOn_198 sh_6 (by omega) (by omega) (by decide) rfl ?_
                    refine x_istore (pc := 199) dX11_goesOn_199 (Nat.le_of_ble_eq_true rfl) ?_
                    show Ev _ _ _ _ _ [(4, .int (zN ((H.1 6 k)))), (0, .ref 0), (1, .int (zN ((c : Int)))), (2, .int (zN ((H.1 6 c)))), (3, .int (zN (((H.1 6 c) - (H.1 6 (8 + c)))))), (5, .int (zN ((k : Int))))] _ _
                    refine z_iinc (pc := 201) dX11_goesOn_201 (List.Mem.tail _ (List.Mem.tail _ (List.Mem.tail _ (List.Mem.tail _ (List.Mem.tail _ (List.Mem.head _)))))) (Nat.le_of_ble_eq_true rfl) ?_
                    show Ev _ _ _ _ _ [(5, .int (zN ((k : Int) + 1))), (4, .int (zN ((H.1 6 k)))), (0, .ref 0), (1, .int (zN ((c : Int)))), (2, .int (zN ((H.1 6 c)))), (3, .int (zN (((H.1 6 c) - (H.1 6 (8 + c))))))] _ _
                    refine x_goto (pc := 204) (tgt := 99) dX11_goesOn_204 (by decide) ?_
                    refine x_weaken (L1 := [(0, .ref 0), (1, .int (zN ((c : Int)))), (2, .int (zN ((H.1 6 c)))), (3, .int (zN (((H.1 6 c) - (H.1 6 (8 + c)))))), (4, .int (zN ((H.1 6 k)))), (5, .int (zN ((((k + 1) : Nat) : Int))))]) (List.forall_mem_cons.mpr ⟨(List.Mem.tail _ (List.Mem.tail _ (List.Mem.head _))), (List.forall_mem_cons.mpr ⟨(List.Mem.tail _ (List.Mem.tail _ (List.Mem.tail _ (List.Mem.head _)))), (List.forall_mem_cons.mpr ⟨(List.Mem.tail _ (List.Mem.tail _ (List.Mem.tail _ (List.Mem.tail _ (List.Mem.head _))))), (List.forall_mem_cons.mpr ⟨(List.Mem.tail _ (List.Mem.tail _ (List.Mem.tail _ (List.Mem.tail _ (List.Mem.tail _ (List.Mem.head _)))))), (List.forall_mem_cons.mpr ⟨(List.Mem.tail _ (List.Mem.head _)), (List.forall_mem_cons.mpr ⟨(mem_ci (by omega) (List.Mem.head _)), (fun _ h => absurd h List.not_mem_nil)⟩)⟩)⟩)⟩)⟩)⟩) ?_
                    exact ih99 ((k + 1)) ((H.1 6 k)) (by first | assumption | omega) (by first | (rw [nrm_y (by omega)]; split <;> omega) | (rw [nrm_n (by omega)]; omega)) (by omega)
                · skip
                  refine x_aload_n (pc := 166) dX11_goesOn_166 (List.Mem.head _) ?_
                  refine z_getR (pc := 167) (k := 25) (r := 10) dX11_goesOn_167 lf_X11_51 sh_0 rfl rf_0_25 ?_
                  refine x_iload (pc := 170) dX11_goesOn_170 (List.Mem.tail _ (List.Mem.tail _ (List.Mem.tail _ (List.Mem.tail _ (List.Mem.tail _ (List.Mem.head _)))))) ?_
                  have rd50 := ok.1 10 k
                  refine z_zald (pc := 172) (j := k) (v := H.1 10 k) dX11_goesOn_172 sh_10 rfl (by omega) (by decide) rfl ?_
                  refine z_if_eq (pc := 173) (tgt := 201) dX11_goesOn_173 (by decide) (by omega) (by omega) (fun hb51 => ?_) (fun hb51 => ?_)
                  · skip
                    refine z_iinc (pc := 201) dX11_goesOn_201 (List.Mem.tail _ (List.Mem.tail _ (List.Mem.tail _ (List.Mem.tail _ (List.Mem.tail _ (List.Mem.head _)))))) (Nat.le_of_ble_eq_true rfl) ?_
                    show Ev _ _ _ _ _ [(5, .int (zN ((k : Int) + 1))), (0, .ref 0), (1, .int (zN ((c : Int)))), (2, .int (zN ((H.1 6 c)))), (3, .int (zN (((H.1 6 c) - (H.1 6 (8 + c)))))), (4, .int (zN (m)))] _ _
                    refine x_goto (pc := 204) (tgt := 99) dX11_goesOn_204 (by decide) ?_
                    refine x_weaken (L1 := [(0, .ref 0), (1, .int (zN ((c : Int)))), (2, .int (zN ((H.1 6 c)))), (3, .int (zN (((H.1 6 c) - (H.1 6 (8 + c)))))), (4, .int (zN (m))), (5, .int (zN ((((k + 1) : Nat) : Int))))]) (List.forall_mem_cons.mpr ⟨(List.Mem.tail _ (List.Mem.head _)), (List.forall_mem_cons.mpr ⟨(List.Mem.tail _ (List.Mem.tail _ (List.Mem.head _))), (List.forall_mem_cons.mpr ⟨(List.Mem.tail _ (List.Mem.tail _ (List.Mem.tail _ (List.Mem.head _)))), (List.forall_mem_cons.mpr ⟨(List.Mem.tail _ (List.Mem.tail _ (List.Mem.tail _ (List.Mem.tail _ (List.Mem.head _))))), (List.forall_mem_cons.mpr ⟨(List.Mem.tail _ (List.Mem.tail _ (List.Mem.tail _ (List.Mem.tail _ (List.Mem.tail _ (List.Mem.head _)))))), (List.forall_mem_cons.mpr ⟨(mem_ci (by omega) (List.Mem.head _)), (fun _ h => absurd h List.not_mem_nil)⟩)⟩)⟩)⟩)⟩)⟩) ?_
                    exact ih99 ((k + 1)) (m) (by first | assumption | omega) (by first | (rw [nrm_y (by omega)]; split <;> omega) | (rw [nrm_n (by omega)]; omega)) (by omega)
                  · skip
                    refine x_aload_n (pc := 176) dX11_goesOn_176 (List.Mem.head _) ?_
                    refine z_getR (pc := 177) (k := 18) (r := 6) dX11_goesOn_177 lf_X11_33 sh_0 rfl rf_0_18 ?_
                    refine z_iconst (pc := 180) dX11_goesOn_180 ?_
                    refine x_iload (pc := 181) dX11_goesOn_181 (List.Mem.tail _ (List.Mem.tail _ (List.Mem.tail _ (List.Mem.tail _ (List.Mem.tail _ (List.Mem.head _)))))) ?_
                    refine z_iadd (pc := 183) dX11_goesOn_183 ?_
                    have rd52 := ok.1 6 k
                    refine z_iald (pc := 184) (j := k) (v := H.1 6 k) dX11_goesOn_184 sh_6 (by omega) (by omega) (by decide) rfl ?_
                    refine x_iload (pc := 185) dX11_goesOn_185 (List.Mem.tail _ (List.Mem.tail _ (List.Mem.tail _ (List.Mem.tail _ (List.Mem.head _))))) ?_
                    refine z_icmp_le (pc := 187) (tgt := 201) dX11_goesOn_187 (by decide) (by omega) (by omega) (by omega) (by omega) (fun hb53 => ?_) (fun hb53 => ?_)
                    · skip
                      refine z_iinc (pc := 201) dX11_goesOn_201 (List.Mem.tail _ (List.Mem.tail _ (List.Mem.tail _ (List.Mem.tail _ (List.Mem.tail _ (List.Mem.head _)))))) (Nat.le_of_ble_eq_true rfl) ?_
                      show Ev _ _ _ _ _ [(5, .int (zN ((k : Int) + 1))), (0, .ref 0), (1, .int (zN ((c : Int)))), (2, .int (zN ((H.1 6 c)))), (3, .int (zN (((H.1 6 c) - (H.1 6 (8 + c)))))), (4, .int (zN (m)))] _ _
                      refine x_goto (pc := 204) (tgt := 99) dX11_goesOn_204 (by decide) ?_
                      refine x_weaken (L1 := [(0, .ref 0), (1, .int (zN ((c : Int)))), (2, .int (zN ((H.1 6 c)))), (3, .int (zN (((H.1 6 c) - (H.1 6 (8 + c)))))), (4, .int (zN (m))), (5, .int (zN ((((k + 1) : Nat) : Int))))]) (List.forall_mem_cons.mpr ⟨(List.Mem.tail _ (List.Mem.head _)), (List.forall_mem_cons.mpr ⟨(List.Mem.tail _ (List.Mem.tail _ (List.Mem.head _))), (List.forall_mem_cons.mpr ⟨(List.Mem.tail _ (List.Mem.tail _ (List.Mem.tail _ (List.Mem.head _)))), (List.forall_mem_cons.mpr ⟨(List.Mem.tail _ (List.Mem.tail _ (List.Mem.tail _ (List.Mem.tail _ (List.Mem.head _))))), (List.forall_mem_cons.mpr ⟨(List.Mem.tail _ (List.Mem.tail _ (List.Mem.tail _ (List.Mem.tail _ (List.Mem.tail _ (List.Mem.head _)))))), (List.forall_mem_cons.mpr ⟨(mem_ci (by omega) (List.Mem.head _)), (fun _ h => absurd h List.not_mem_nil)⟩)⟩)⟩)⟩)⟩)⟩) ?_
                      exact ih99 ((k + 1)) (m) (by first | assumption | omega) (by first | (rw [nrm_y (by omega)]; split <;> omega) | (rw [nrm_n (by omega)]; omega)) (by omega)
                    · skip
                      refine x_aload_n (pc := 190) dX11_goesOn_190 (List.Mem.head _) ?_
                      refine z_getR (pc := 191) (k := 18) (r := 6) dX11_goesOn_191 lf_X11_33 sh_0 rfl rf_0_18 ?_
                      refine z_iconst (pc := 194) dX11_goesOn_194 ?_
                      refine x_iload (pc := 195) dX11_goesOn_195 (List.Mem.tail _ (List.Mem.tail _ (List.Mem.tail _ (List.Mem.tail _ (List.Mem.tail _ (List.Mem.head _)))))) ?_
                      refine z_iadd (pc := 197) dX11_goesOn_197 ?_
                      have rd54 := ok.1 6 k
                      refine z_iald (pc := 198) (j := k) (v := H.1 6 k) dX11_goesOn_198 sh_6 (by omega) (by omega) (by decide) rfl ?_
                      refine x_istore (pc := 199) dX11_goesOn_199 (Nat.le_of_ble_eq_true rfl) ?_
                      show Ev _ _ _ _ _ [(4, .int (zN ((H.1 6 k)))), (0, .ref 0), (1, .int (zN ((c : Int)))), (2, .int (zN ((H.1 6 c)))), (3, .int (zN (((H.1 6 c) - (H.1 6 (8 + c)))))), (5, .int (zN ((k : Int))))] _ _
                      refine z_iinc (pc := 201) dX11_goesOn_201 (List.Mem.tail _ (List.Mem.tail _ (List.Mem.tail _ (List.Mem.tail _ (List.Mem.tail _ (List.Mem.head _)))))) (Nat.le_of_ble_eq_true rfl) ?_
                      show Ev _ _ _ _ _ [(5, .int (zN ((k : Int) + 1))), (4, .int (zN ((H.1 6 k)))), (0, .ref 0), (1, .int (zN ((c : Int)))), (2, .int (zN ((H.1 6 c)))), (3, .int (zN (((H.1 6 c) - (H.1 6 (8 + c))))))] _ _
                      refine x_goto (pc := 204) (tgt := 99) dX11_goesOn_204 (by decide) ?_
                      refine x_weaken (L1 := [(0, .ref 0), (1, .int (zN ((c : Int)))), (2, .int (zN ((H.1 6 c)))), (3, .int (zN (((H.1 6 c) - (H.1 6 (8 + c)))))), (4, .int (zN ((H.1 6 k)))), (5, .int (zN ((((k + 1) : Nat) : Int))))]) (List.forall_mem_cons.mpr ⟨(List.Mem.tail _ (List.Mem.tail _ (List.Mem.head _))), (List.forall_mem_cons.mpr ⟨(List.Mem.tail _ (List.Mem.tail _ (List.Mem.tail _ (List.Mem.head _)))), (List.forall_mem_cons.mpr ⟨(List.Mem.tail _ (List.Mem.tail _ (List.Mem.tail _ (List.Mem.tail _ (List.Mem.head _))))), (List.forall_mem_cons.mpr ⟨(List.Mem.tail _ (List.Mem.tail _ (List.Mem.tail _ (List.Mem.tail _ (List.Mem.tail _ (List.Mem.head _)))))), (List.forall_mem_cons.mpr ⟨(List.Mem.tail _ (List.Mem.head _)), (List.forall_mem_cons.mpr ⟨(mem_ci (by omega) (List.Mem.head _)), (fun _ h => absurd h List.not_mem_nil)⟩)⟩)⟩)⟩)⟩)⟩) ?_
                      exact ih99 ((k + 1)) ((H.1 6 k)) (by first | assumption | omega) (by first | (rw [nrm_y (by omega)]; split <;> omega) | (rw [nrm_n (by omega)]; omega)) (by omega)
    refine x_weaken (L1 := [(0, .ref 0), (1, .int (zN ((c : Int)))), (2, .int (zN ((H.1 6 c)))), (3, .int (zN (((H.1 6 c) - (H.1 6 (8 + c)))))), (4, .int (zN ((-1)))), (5, .int (zN (((0 : Nat) : Int))))]) (List.forall_mem_cons.mpr ⟨(List.Mem.tail _ (List.Mem.tail _ (List.Mem.tail _ (List.Mem.tail _ (List.Mem.head _))))), (List.forall_mem_cons.mpr ⟨(List.Mem.tail _ (List.Mem.tail _ (List.Mem.tail _ (List.Mem.tail _ (List.Mem.tail _ (List.Mem.head _)))))), (List.forall_mem_cons.mpr ⟨(List.Mem.tail _ (List.Mem.tail _ (List.Mem.tail _ (List.Mem.head _)))), (List.forall_mem_cons.mpr ⟨(List.Mem.tail _ (List.Mem.tail _ (List.Mem.head _))), (List.forall_mem_cons.mpr ⟨(List.Mem.tail _ (List.Mem.head _)), (List.forall_mem_cons.mpr ⟨(mem_ci (by omega) (List.Mem.head _)), (fun _ h => absurd h List.not_mem_nil)⟩)⟩)⟩)⟩)⟩)⟩) ?_
    exact lp99 ((H.1 2 1).toNat - 0 + 1) (0) ((-1)) (by first | assumption | omega) (Or.inl ⟨rfl, rfl⟩) (Nat.lt_succ_self _)
  · skip
    have hns : nsp (H.1 6) c = (if 0 < H.1 6 (8 + c) then H.1 6 (8 + c) - 1 else 0) := if_pos (by omega)
    have hnd : ndi (H.1 6) c (nrm (H.1 2) (H.1 6) (H.1 9) (H.1 10) c (H.1 2 1).toNat) = H.1 6 c - nsp (H.1 6) c := if_pos (by omega)
    have hh0 : (if hld (H.1 6) c (nrm (H.1 2) (H.1 6) (H.1 9) (H.1 10) c (H.1 2 1).toNat) = true then (1 : Int) else 0) = 0 := by rw [hld_f (by omega)]; rfl
    refine x_aload_n (pc := 22) dX11_goesOn_22 (List.Mem.tail _ (List.Mem.head _)) ?_
    refine z_getR (pc := 23) (k := 18) (r := 6) dX11_goesOn_23 lf_X11_33 sh_0 rfl rf_0_18 ?_
    refine z_bipush (pc := 26) dX11_goesOn_26 bp_8 ?_
    refine x_iload_n (pc := 28) dX11_goesOn_28 (List.Mem.tail _ (List.Mem.tail _ (List.Mem.head _))) ?_
    refine z_iadd (pc := 29) dX11_goesOn_29 ?_
    refine x_aload_n (pc := 30) dX11_goesOn_30 (List.Mem.tail _ (List.Mem.head _)) ?_
    refine z_getR (pc := 31) (k := 18) (r := 6) dX11_goesOn_31 lf_X11_33 sh_0 rfl rf_0_18 ?_
    refine z_bipush (pc := 34) dX11_goesOn_34 bp_8 ?_
    refine x_iload_n (pc := 36) dX11_goesOn_36 (List.Mem.tail _ (List.Mem.tail _ (List.Mem.head _))) ?_
    refine z_iadd (pc := 37) dX11_goesOn_37 ?_
    have rd55 := ok.1 6 (8 + c)
    refine z_iald (pc := 38) (j := 8 + c) (v := H.1 6 (8 + c)) dX11_goesOn_38 sh_6 (by omega) (by omega) (by decide) rfl ?_
    refine z_if_le (pc := 39) (tgt := 56) dX11_goesOn_39 (by decide) (by omega) (by omega) (fun hb56 => ?_) (fun hb56 => ?_)
    · skip
      rw [if_neg (by omega)] at hns
      refine z_iconst (pc := 56) dX11_goesOn_56 ?_
      refine z_iast (pc := 57) (j := 8 + c) (v := 0) dX11_goesOn_57 sh_6 (by omega) (by omega) (by decide) ?_
      have ok57 := okI ok 6 (8 + c) (v := 0) (by decide) (by decide)
      refine x_aload_n (pc := 58) dX11_goesOn_58 (List.Mem.tail _ (List.Mem.head _)) ?_
      refine z_getR (pc := 59) (k := 18) (r := 6) dX11_goesOn_59 lf_X11_33 sh_0 rfl rf_0_18 ?_
      refine z_iconst (pc := 62) dX11_goesOn_62 ?_
      refine x_iload_n (pc := 63) dX11_goesOn_63 (List.Mem.tail _ (List.Mem.tail _ (List.Mem.head _))) ?_
      refine z_iadd (pc := 64) dX11_goesOn_64 ?_
      refine x_dup2 (pc := 65) dX11_goesOn_65 rfl rfl ?_
      refine z_iald (pc := 66) (j := c) (v := (H.1 6 c)) dX11_goesOn_66 sh_6 (by omega) (by omega) (by decide) (by rw [wI1k (by omega)]) ?_
      refine x_aload_n (pc := 67) dX11_goesOn_67 (List.Mem.tail _ (List.Mem.head _)) ?_
      refine z_getR (pc := 68) (k := 18) (r := 6) dX11_goesOn_68 lf_X11_33 sh_0 rfl rf_0_18 ?_
      refine z_bipush (pc := 71) dX11_goesOn_71 bp_8 ?_
      refine x_iload_n (pc := 73) dX11_goesOn_73 (List.Mem.tail _ (List.Mem.tail _ (List.Mem.head _))) ?_
      refine z_iadd (pc := 74) dX11_goesOn_74 ?_
      refine z_iald (pc := 75) (j := 8 + c) (v := 0) dX11_goesOn_75 sh_6 (by omega) (by omega) (by decide) (by rw [wI1]) ?_
      refine z_isub (pc := 76) dX11_goesOn_76 ?_
      refine z_iast (pc := 77) (j := c) (v := (((H.1 6 c)) - 0)) dX11_goesOn_77 sh_6 (by omega) (by omega) (by decide) ?_
      have ok58 := okI ok57 6 c (v := (((H.1 6 c)) - 0)) (by omega) (by omega)
      refine x_goto (pc := 78) (tgt := 274) dX11_goesOn_78 (by decide) ?_
      refine x_weaken (L1 := [(0, .ref 0), (1, .int (zN ((c : Int))))]) (List.forall_mem_cons.mpr ⟨(List.Mem.tail _ (List.Mem.head _)), (List.forall_mem_cons.mpr ⟨(List.Mem.tail _ (List.Mem.tail _ (List.Mem.head _))), (fun _ h => absurd h List.not_mem_nil)⟩)⟩) ?_
      have he59 : (wI (wI H 6 (8 + c) (0)) 6 c ((((H.1 6 c)) - 0))) = (wI (wI (wI H 6 (8 + c) (nsp (H.1 6) c)) 10 c ((if hld (H.1 6) c (nrm (H.1 2) (H.1 6) (H.1 9) (H.1 10) c (H.1 2 1).toNat) = true then (1 : Int) else 0))) 6 c (ndi (H.1 6) c (nrm (H.1 2) (H.1 6) (H.1 9) (H.1 10) c (H.1 2 1).toNat))) := by first | (rw [hnd, hns, hh0, wI_id (H := wI H 6 (8 + c) _) (c := 10) (k := c) (by rw [wI1c (by omega)]; exact e0)]; done) | (rw [hns, wI_id (H := H) (c := 6) (k := 8 + c) rfl, hh1, hnd]; done) | (exfalso; omega)
      refine Ev_heq he59 ?_
      have ok60 : okZ (wI (wI (wI H 6 (8 + c) (nsp (H.1 6) c)) 10 c ((if hld (H.1 6) c (nrm (H.1 2) (H.1 6) (H.1 9) (H.1 10) c (H.1 2 1).toNat) = true then (1 : Int) else 0))) 6 c (ndi (H.1 6) c (nrm (H.1 2) (H.1 6) (H.1 9) (H.1 10) c (H.1 2 1).toNat))) := by rw [← he59]; exact ok58
      exact jn274  ok60 
    · skip
      rw [if_pos (by omega)] at hns
      refine x_aload_n (pc := 42) dX11_goesOn_42 (List.Mem.tail _ (List.Mem.head _)) ?_
      refine z_getR (pc := 43) (k := 18) (r := 6) dX11_goesOn_43 lf_X11_33 sh_0 rfl rf_0_18 ?_
      refine z_bipush (pc := 46) dX11_goesOn_46 bp_8 ?_
      refine x_iload_n (pc := 48) dX11_goesOn_48 (List.Mem.tail _ (List.Mem.tail _ (List.Mem.head _))) ?_
      refine z_iadd (pc := 49) dX11_goesOn_49 ?_
      have rd61 := ok.1 6 (8 + c)
      refine z_iald (pc := 50) (j := 8 + c) (v := H.1 6 (8 + c)) dX11_goesOn_50 sh_6 (by omega) (by omega) (by decide) rfl ?_
      refine z_iconst (pc := 51) dX11_goesOn_51 ?_
      refine z_isub (pc := 52) dX11_goesOn_52 ?_
      refine x_goto (pc := 53) (tgt := 57) dX11_goesOn_53 (by decide) ?_
      refine z_iast (pc := 57) (j := 8 + c) (v := ((H.1 6 (8 + c)) - 1)) dX11_goesOn_57 sh_6 (by omega) (by omega) (by decide) ?_
      have ok62 := okI ok 6 (8 + c) (v := ((H.1 6 (8 + c)) - 1)) (by omega) (by omega)
      refine x_aload_n (pc := 58) dX11_goesOn_58 (List.Mem.tail _ (List.Mem.head _)) ?_
      refine z_getR (pc := 59) (k := 18) (r := 6) dX11_goesOn_59 lf_X11_33 sh_0 rfl rf_0_18 ?_
      refine z_iconst (pc := 62) dX11_goesOn_62 ?_
      refine x_iload_n (pc := 63) dX11_goesOn_63 (List.Mem.tail _ (List.Mem.tail _ (List.Mem.head _))) ?_
      refine z_iadd (pc := 64) dX11_goesOn_64 ?_
      refine x_dup2 (pc := 65) dX11_goesOn_65 rfl rfl ?_
      refine z_iald (pc := 66) (j := c) (v := (H.1 6 c)) dX11_goesOn_66 sh_6 (by omega) (by omega) (by decide) (by rw [wI1k (by omega)]) ?_
      refine x_aload_n (pc := 67) dX11_goesOn_67 (List.Mem.tail _ (List.Mem.head _)) ?_
      refine z_getR (pc := 68) (k := 18) (r := 6) dX11_goesOn_68 lf_X11_33 sh_0 rfl rf_0_18 ?_
      refine z_bipush (pc := 71) dX11_goesOn_71 bp_8 ?_
      refine x_iload_n (pc := 73) dX11_goesOn_73 (List.Mem.tail _ (List.Mem.tail _ (List.Mem.head _))) ?_
      refine z_iadd (pc := 74) dX11_goesOn_74 ?_
      refine z_iald (pc := 75) (j := 8 + c) (v := ((H.1 6 (8 + c)) - 1)) dX11_goesOn_75 sh_6 (by omega) (by omega) (by decide) (by rw [wI1]) ?_
      refine z_isub (pc := 76) dX11_goesOn_76 ?_
      refine z_iast (pc := 77) (j := c) (v := (((H.1 6 c)) - (((H.1 6 (8 + c)) - 1)))) dX11_goesOn_77 sh_6 (by omega) (by omega) (by decide) ?_
      have ok63 := okI ok62 6 c (v := (((H.1 6 c)) - (((H.1 6 (8 + c)) - 1)))) (by omega) (by omega)
      refine x_goto (pc := 78) (tgt := 274) dX11_goesOn_78 (by decide) ?_
      refine x_weaken (L1 := [(0, .ref 0), (1, .int (zN ((c : Int))))]) (List.forall_mem_cons.mpr ⟨(List.Mem.tail _ (List.Mem.head _)), (List.forall_mem_cons.mpr ⟨(List.Mem.tail _ (List.Mem.tail _ (List.Mem.head _))), (fun _ h => absurd h List.not_mem_nil)⟩)⟩) ?_
      have he64 : (wI (wI H 6 (8 + c) (((H.1 6 (8 + c)) - 1))) 6 c ((((H.1 6 c)) - (((H.1 6 (8 + c)) - 1))))) = (wI (wI (wI H 6 (8 + c) (nsp (H.1 6) c)) 10 c ((if hld (H.1 6) c (nrm (H.1 2) (H.1 6) (H.1 9) (H.1 10) c (H.1 2 1).toNat) = true then (1 : Int) else 0))) 6 c (ndi (H.1 6) c (nrm (H.1 2) (H.1 6) (H.1 9) (H.1 10) c (H.1 2 1).toNat))) := by first | (rw [hnd, hns, hh0, wI_id (H := wI H 6 (8 + c) _) (c := 10) (k := c) (by rw [wI1c (by omega)]; exact e0)]; done) | (rw [hns, wI_id (H := H) (c := 6) (k := 8 + c) rfl, hh1, hnd]; done) | (exfalso; omega)
      refine Ev_heq he64 ?_
      have ok65 : okZ (wI (wI (wI H 6 (8 + c) (nsp (H.1 6) c)) 10 c ((if hld (H.1 6) c (nrm (H.1 2) (H.1 6) (H.1 9) (H.1 10) c (H.1 2 1).toNat) = true then (1 : Int) else 0))) 6 c (ndi (H.1 6) c (nrm (H.1 2) (H.1 6) (H.1 9) (H.1 10) c (H.1 2 1).toNat))) := by rw [← he64]; exact ok63
      exact jn274  ok65 
