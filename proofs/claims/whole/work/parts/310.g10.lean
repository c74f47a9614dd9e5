/-! GROUP G10: the class's words for the kinds of a TEST's steps. -/
def wordOf (k : Int) : Nat := if k = 4 then 11 else if 5 ≤ k ∧ k ≤ 12 then (k - 5).toNat else if k = 22 then 8 else if k = 23 then 9 else if k = 24 then 10 else if k = 25 then 12 else if k = 26 then 13 else if k = 27 then 14 else if k = 28 then 15 else if k = 21 then 16 else if k = 20 then 17 else 18
/-- the class's law (the newest one, at 59) is the reference's -/
def RepLw (H : ZH) (q : Nat → Int) : Prop := H.1 59 0 = q 40 ∧ ∀ l : Nat, (l : Int) < q 40 → H.1 60 l = q (41 + l) ∧ H.1 61 l = q (65 + l) ∧ ∀ i : Nat, (i : Int) < q (65 + l) → H.1 62 i = (wordOf (q (77 + 2 * i)) : Int) * 1000 + q (78 + 2 * i)
theorem wfct_fct {q N : Nat → Int} {k v : Int} {c : Nat} (hk : (4 ≤ k ∧ k ≤ 12) ∨ (22 ≤ k ∧ k ≤ 28)) : wfct q N (wordOf k) v c = fct q N k v c := by
  by_cases h4 : 5 ≤ k ∧ k ≤ 12
  · have e : wordOf k = (k - 5).toNat := by
      unfold wordOf
      rw [if_neg (by omega), if_pos h4]
    rw [e]
    unfold wfct fct
    rw [if_neg (by omega), if_neg (by omega), if_neg (by omega), if_neg (by omega), if_neg (by omega), if_neg (by omega), if_neg (by omega), if_neg (by omega), if_pos h4]
  · rcases (show k = 4 ∨ k = 22 ∨ k = 23 ∨ k = 24 ∨ k = 25 ∨ k = 26 ∨ k = 27 ∨ k = 28 by omega) with h | h | h | h | h | h | h | h <;> subst h <;> rfl
theorem wordOf_lt {k : Int} (hk : (4 ≤ k ∧ k ≤ 12) ∨ (22 ≤ k ∧ k ≤ 28)) : wordOf k < 16 := by
  unfold wordOf
  (repeat' split) <;> omega
theorem wordOf_le (k : Int) : wordOf k ≤ 18 := by
  unfold wordOf
  (repeat' split) <;> omega
/-- one step on the bits is one step on the stack -/
theorem bst_step {q N : Nat → Int} {c i : Nat} {st : List Bool} (hk : (4 ≤ q (77 + 2 * i) ∧ q (77 + 2 * i) ≤ 12) ∨ (19 ≤ q (77 + 2 * i) ∧ q (77 + 2 * i) ≤ 28)) (h1 : q (77 + 2 * i) = 21 → 1 ≤ (st.length : Int)) (h2 : q (77 + 2 * i) = 20 ∨ q (77 + 2 * i) = 19 → 2 ≤ (st.length : Int)) : bst (rstep q N c i st) = if 16 ≤ wordOf (q (77 + 2 * i)) then wjoin (bst st) (wordOf (q (77 + 2 * i))) else bst st * 2 ||| (if wfct q N (wordOf (q (77 + 2 * i))) (q (78 + 2 * i)) c then 1 else 0) := by
  unfold rstep
  by_cases e1 : q (77 + 2 * i) = 21
  · obtain ⟨b, t, rfl⟩ := len1 (h1 e1)
    rw [e1]
    exact (bst_not b t).symm
  · by_cases e2 : q (77 + 2 * i) = 20
    · obtain ⟨b, a, t, rfl⟩ := len2 (h2 (Or.inl e2))
      rw [e2]
      exact (bst_and b a t).symm
    · by_cases e3 : q (77 + 2 * i) = 19
      · obtain ⟨b, a, t, rfl⟩ := len2 (h2 (Or.inr e3))
        rw [e3]
        exact (bst_or b a t).symm
      · have hk2 : (4 ≤ q (77 + 2 * i) ∧ q (77 + 2 * i) ≤ 12) ∨ (22 ≤ q (77 + 2 * i) ∧ q (77 + 2 * i) ≤ 28) := by omega
        have hw := wordOf_lt hk2
        rw [if_neg e1, if_neg e2, if_neg e3, if_neg (show ¬ 16 ≤ wordOf (q (77 + 2 * i)) by omega), bst_push, wfct_fct hk2]
