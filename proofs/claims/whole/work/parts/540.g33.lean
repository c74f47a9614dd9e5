/-! GROUP G33: best of the class. -/
theorem and_bit1 {x m b : Nat} (h : m.testBit b = true) : (x &&& m) / 2 ^ b % 2 = x / 2 ^ b % 2 := by
  have e : (x &&& m).testBit b = x.testBit b := by rw [Nat.testBit_and, h, Bool.and_true]
  rw [Nat.testBit_eq_decide_div_mod_eq, Nat.testBit_eq_decide_div_mod_eq] at e
  have z := decide_eq_decide.mp e
  omega
def msk (q : Nat → Int) : Nat := tam q (lend q).toNat ||| 1 ||| 64
theorem msk_bd (q : Nat → Int) : msk q < 2 ^ 8 := Nat.or_lt_two_pow (Nat.or_lt_two_pow (tam_bd q _) (by decide)) (by decide)
theorem wordOf_tr {k : Int} (h : 5 ≤ k ∧ k ≤ 12) : wordOf k = (k - 5).toNat := by
  unfold wordOf
  rw [if_neg (by omega), if_pos h]
/-- the traits that nobody asks for change nothing -/
theorem best_eq {q : Nat → Int} {s : Nat} {g : (Nat → Int) → Int → Int} (ws : WFS q) (wl : WFL q) (hs : s < 256) : TS (upA q 34 (((((q 34).toNat ^^^ s) &&& msk q : Nat)) : Int)) (-1) (-1) g = TS (tr2 q s) (-1) (-1) g := by
  have wt := tr2_ws ws hs
  have wlt : WFL (tr2 q s) := WFL_up wl (by omega)
  have ag : AgA (tr2 q s) (upA q 34 (((((q 34).toNat ^^^ s) &&& msk q : Nat)) : Int)) := fun j h _ => by
    show _ = upA q 34 _ j
    rw [upA_ne h, upA_ne h]
  have e34 : (tr2 q s) 34 = ((((q 34).toNat ^^^ s : Nat)) : Int) := upA_at _ _ _
  have key : ∀ b, (msk q).testBit b = true → (upA q 34 (((((q 34).toNat ^^^ s) &&& msk q : Nat)) : Int)) 34 / 2 ^ b % 2 = (tr2 q s) 34 / 2 ^ b % 2 := by
    intro b hb
    rw [upA_at, e34, bitI, bitI, and_bit1 hb]
  have n40 : ∀ j, 40 ≤ j → (tr2 q s) j = q j := fun j hj => upA_ne (by omega)
  refine TS_cg ag wt wlt (fun l i h1 h2 h3 h4 => ?_) ?_ ?_ ?_
  · rw [n40 40 (by omega)] at h1
    rw [n40 (53 + l) (by omega)] at h2
    rw [n40 (65 + l) (by omega)] at h3
    rw [n40 (77 + 2 * i) (by omega)] at h4 ⊢
    have w := wordOf_tr h4
    refine key _ ?_
    unfold msk
    rw [Nat.testBit_or, Nat.testBit_or, ← w, tam_bit q _ i ?_ (by omega), Bool.true_or, Bool.true_or]
    -- within the law
    have a : ∀ m : Nat, (m : Int) < q 40 → q (65 + l) ≤ q (65 + (l + (m - l))) ∨ ¬ (l ≤ m) := by
      intro m
      induction m with
      | zero => intro hm; exact if z : l ≤ 0 then Or.inl (by rw [show l + (0 - l) = l by omega]; exact Int.le_refl _) else Or.inr z
      | succ m ih =>
        intro hm
        by_cases z : l ≤ m
        · refine Or.inl ?_
          have y := (ih (by omega)).resolve_right (fun w => w z)
          have u := wl.2 (m + 1) hm
          have u1 := u.2.2.1
          rw [if_neg (by omega), show m + 1 - 1 = m by omega] at u1
          rw [show l + (m - l) = m by omega] at y
          rw [show l + (m + 1 - l) = m + 1 by omega]
          have := u.2.1
          omega
        · by_cases z2 : l = m + 1
          · refine Or.inl ?_
            rw [show l + (m + 1 - l) = l by omega]
            exact Int.le_refl _
          · exact Or.inr (by omega)
    have y := (a ((q 40).toNat - 1) (by omega)).resolve_right (fun w => w (by omega))
    rw [show l + ((q 40).toNat - 1 - l) = (q 40).toNat - 1 by omega] at y
    unfold lend
    rw [if_neg (by omega)]
    omega
  · unfold ned
    rw [key 0 (by unfold msk; rw [Nat.testBit_or, Nat.testBit_or, show (1 : Nat).testBit 0 = true from rfl, Bool.or_true, Bool.true_or])]
  · rw [upA_ne (by omega)]
    exact (upA_ne (by omega)).symm
  · exact key 6 (by unfold msk; rw [Nat.testBit_or, show (64 : Nat).testBit 6 = true from rfl, Bool.or_true])
theorem bsF_fix {V : Nat → Int} {k : Int} {v n : Nat} (hn : v ≤ n) (h1 : (bsF V k v).1 ≠ -1) (h : ∀ u, v ≤ u → u < n → V u ≤ (bsF V k v).2) : bsF V k n = bsF V k v := by
  induction n with
  | zero => rw [show v = 0 by omega]
  | succ n ih =>
    by_cases q : v = n + 1
    · rw [q]
    · have i := ih (by omega) (fun u a b => h u a (by omega))
      show (if (bcn n 8 : Int) = k ∧ ((bsF V k n).1 = -1 ∨ (bsF V k n).2 < V n) then ((n : Int), V n) else bsF V k n) = _
      rw [i, if_neg (fun z => by
        have := h n (by omega) (by omega)
        rcases z.2 with y | y
        · exact h1 y
        · omega)]
theorem bsF_ne {V : Nat → Int} {k : Int} {s n : Nat} (hs : s < n) (hk : (bcn s 8 : Int) = k) : (bsF V k n).1 ≠ -1 := by
  induction n with
  | zero => omega
  | succ n ih =>
    show (if (bcn n 8 : Int) = k ∧ ((bsF V k n).1 = -1 ∨ (bsF V k n).2 < V n) then ((n : Int), V n) else bsF V k n).1 ≠ -1
    by_cases q : (bcn n 8 : Int) = k ∧ ((bsF V k n).1 = -1 ∨ (bsF V k n).2 < V n)
    · rw [if_pos q]
      show (n : Int) ≠ -1
      omega
    · rw [if_neg q]
      by_cases z : s = n
      · intro y
        exact q ⟨by rw [← z]; exact hk, Or.inl y⟩
      · exact ih (by omega)
theorem bsF_some {V : Nat → Int} {k : Int} (hk : 0 ≤ k ∧ k ≤ 3) : (bsF V k 256).1 ≠ -1 := by
  rcases (show k = 0 ∨ k = 1 ∨ k = 2 ∨ k = 3 by omega) with e | e | e | e <;> subst e
  · exact bsF_ne (s := 0) (by omega) rfl
  · exact bsF_ne (s := 1) (by omega) rfl
  · exact bsF_ne (s := 3) (by omega) rfl
  · exact bsF_ne (s := 7) (by omega) rfl
