/-! GROUP G29: the class's calls of odds. -/
theorem trd_k {H : ZH} {t : Nat} {q : Nat → Int} {wo : Int} (h : TrD H t q wo) (k : Nat) (hk : k < 5) : H.2 t (1 + k) = TS q wo (-1) (gK k) := by
  have z := (h.1 k hk).2
  exact (Int.add_zero _).symm.trans z
theorem trd_b {H : ZH} {t : Nat} {q : Nat → Int} {wo : Int} (h : TrD H t q wo) (c : Nat) (hc : (c : Int) < q 1) : H.2 (t + 1) c = TS q wo (-1) (gB c) := (Int.add_zero _).symm.trans (h.2.1 c hc).2
theorem trd_s {H : ZH} {t : Nat} {q : Nat → Int} {wo : Int} (h : TrD H t q wo) (c : Nat) (hc : (c : Int) < q 1) : H.2 (t + 2) c = TS q wo (-1) (gS c) := (Int.add_zero _).symm.trans (h.2.2.1 c hc).2
theorem trd_0 {H : ZH} {t : Nat} {q : Nat → Int} {wo : Int} (h : TrD H t q wo) : H.2 t 0 = 100 ^ (q 1).toNat := h.2.2.2.2.2
/-- all but the other scene, the road, the trees and the note that the tree stands -/
def FrO (H H1 : ZH) : Prop := (∀ cc k, ¬ (50 ≤ cc ∧ cc ≤ 54) → ¬ (104 ≤ cc ∧ cc ≤ 112) → ¬ ((cc = 113 ∨ cc = 116) ∧ k = 6) → ¬ (cc = 20 ∧ k = 8) → H1.1 cc k = H.1 cc k) ∧ ∀ cc k, ¬ (cc = 111 ∧ k = 5) → ¬ (113 ≤ cc ∧ cc ≤ 118) → cc ≠ 23 → H1.2 cc k = H.2 cc k
/-- all but the other scene, the road, the other tree -/
def FrP (H H1 : ZH) : Prop := (∀ cc k, ¬ (50 ≤ cc ∧ cc ≤ 54) → ¬ (104 ≤ cc ∧ cc ≤ 112) → ¬ (cc = 116 ∧ k = 6) → H1.1 cc k = H.1 cc k) ∧ ∀ cc k, ¬ (cc = 111 ∧ k = 5) → ¬ (116 ≤ cc ∧ cc ≤ 118) → cc ≠ 23 → H1.2 cc k = H.2 cc k
theorem FrP_tr {a b c : ZH} (h1 : FrP a b) (h2 : FrP b c) : FrP a c := ⟨fun x y p q r => (h2.1 x y p q r).trans (h1.1 x y p q r), fun x y p q r => (h2.2 x y p q r).trans (h1.2 x y p q r)⟩
theorem FrO_tr {a b c : ZH} (h1 : FrO a b) (h2 : FrO b c) : FrO a c := ⟨fun x y p q r s => (h2.1 x y p q r s).trans (h1.1 x y p q r s), fun x y p q r => (h2.2 x y p q r).trans (h1.2 x y p q r)⟩
theorem FrO_P {a b c : ZH} (h1 : FrO a b) (h2 : FrP b c) : FrO a c := ⟨fun x y p q r s => (h2.1 x y p q (fun z => r ⟨Or.inr z.1, z.2⟩)).trans (h1.1 x y p q r s), fun x y p q r => (h2.2 x y p (fun z => q (by omega)) r).trans (h1.2 x y p q r)⟩
theorem FrP_tr116 {H H1 : ZH} (h : FrTr H H1 116) : FrP H H1 := ⟨fun cc k _ b c => h.1 cc k b c, fun cc k a b _ => h.2 cc k a (by omega) (by omega) (by omega)⟩
theorem FrP_take {H H1 : ZH} (h : TakeSc H H1 50 35) : FrP H H1 := ⟨fun cc k a _ _ => by rw [h.2.1 cc (by omega)], fun cc k _ _ _ => by rw [h.1]⟩
theorem FrP_50 {H : ZH} {k : Nat} {v : Int} : FrP H (wI H 50 k v) := ⟨fun cc j a _ _ => by rw [wI1c (by omega)], fun _ _ _ _ _ => rfl⟩
theorem take_rep {H H1 : ZH} {q : Nat → Int} (ws : WFS q) (h : TakeSc H H1 50 35) (r : RepSc H 35 q) : RepSc H1 50 q := by
  obtain ⟨_, _, ⟨t0, t1, t6, t7, t8, t9, t10, t11⟩, ta⟩ := h
  obtain ⟨r0, r1, rC, r34, r35, r36, r37, r38, r39⟩ := r
  have w1 := ws.2.1
  refine ⟨t0.trans r0, t1.trans r1, fun c hc => ?_, t6.trans r34, t7.trans r35, t8.trans r36, t9.trans r37, t10.trans r38, t11.trans r39⟩
  obtain ⟨a, b, c2, e⟩ := rC c hc
  exact ⟨(ta 1 c (by omega) (by omega) (by omega)).trans a, (ta 2 c (by omega) (by omega) (by omega)).trans b, (ta 3 c (by omega) (by omega) (by omega)).trans c2, (ta 4 c (by omega) (by omega) (by omega)).trans e⟩
/-- another number of the other scene -/
theorem rep_up {H : ZH} {q : Nat → Int} {i : Nat} {u v : Int} (ws : WFS q) (hi : 34 ≤ i ∧ i ≤ 37) (r : RepSc H 50 (upA q i u)) : RepSc (wI H 50 (i - 28) v) 50 (upA q i v) := by
  have w1 := ws.2.1
  have e : ∀ (x : Int) j, j ≠ i → upA q i x j = q j := fun x j h => upA_ne h
  obtain ⟨r0, r1, rC, r34, r35, r36, r37, r38, r39⟩ := r
  rw [e u 0 (by omega)] at r0
  rw [e u 1 (by omega)] at r1 rC
  rw [e u 38 (by omega)] at r38
  rw [e u 39 (by omega)] at r39
  refine ⟨?_, ?_, fun c hc => ?_, ?_, ?_, ?_, ?_, ?_, ?_⟩
  · rw [wI1k (by omega), e v 0 (by omega)]; exact r0
  · rw [wI1k (by omega), e v 1 (by omega)]; exact r1
  · rw [e v 1 (by omega)] at hc
    have z := rC c hc
    rw [e u (2 + c) (by omega), e u (10 + c) (by omega), e u (18 + c) (by omega), e u (26 + c) (by omega)] at z
    rw [wI1c (by omega), wI1c (by omega), wI1c (by omega), wI1c (by omega), e v (2 + c) (by omega), e v (10 + c) (by omega), e v (18 + c) (by omega), e v (26 + c) (by omega)]
    exact z
  · by_cases z : i = 34
    · subst z; rw [upA_at]; exact wI1 _ _ _ _
    · rw [wI1k (by omega), e v 34 (by omega)]; rw [e u 34 (by omega)] at r34; exact r34
  · by_cases z : i = 35
    · subst z; rw [upA_at]; exact wI1 _ _ _ _
    · rw [wI1k (by omega), e v 35 (by omega)]; rw [e u 35 (by omega)] at r35; exact r35
  · by_cases z : i = 36
    · subst z; rw [upA_at]; exact wI1 _ _ _ _
    · rw [wI1k (by omega), e v 36 (by omega)]; rw [e u 36 (by omega)] at r36; exact r36
  · by_cases z : i = 37
    · subst z; rw [upA_at]; exact wI1 _ _ _ _
    · rw [wI1k (by omega), e v 37 (by omega)]; rw [e u 37 (by omega)] at r37; exact r37
  · rw [wI1k (by omega), e v 38 (by omega)]; exact r38
  · rw [wI1k (by omega), e v 39 (by omega)]; exact r39
theorem lw_up {H : ZH} {q : Nat → Int} {i : Nat} {v : Int} (hi : i < 40) (r : RepLw H q) : RepLw H (upA q i v) := by
  have e : ∀ j, 40 ≤ j → upA q i v j = q j := fun j h => upA_ne (by omega)
  unfold RepLw at r ⊢
  rw [e 40 (by omega)]
  refine ⟨r.1, fun l hl => ?_⟩
  obtain ⟨a, b, c⟩ := r.2 l hl
  rw [e (41 + l) (by omega), e (65 + l) (by omega)]
  exact ⟨a, b, fun j hj => by rw [e (77 + 2 * j) (by omega), e (78 + 2 * j) (by omega)]; exact c j hj⟩
theorem lw_P {H H1 : ZH} {q : Nat → Int} (h : FrP H H1) (r : RepLw H q) : RepLw H1 q := by
  have e : ∀ cc k, ¬ (50 ≤ cc ∧ cc ≤ 54) → cc ≤ 62 → H1.1 cc k = H.1 cc k := fun cc k a b => h.1 cc k a (by omega) (by omega)
  refine ⟨by rw [e 59 0 (by omega) (by omega)]; exact r.1, fun l hl => ?_⟩
  obtain ⟨a, b, c⟩ := r.2 l hl
  exact ⟨by rw [e 60 l (by omega) (by omega)]; exact a, by rw [e 61 l (by omega) (by omega)]; exact b, fun i hi => by rw [e 62 i (by omega) (by omega)]; exact c i hi⟩
theorem sc_P {H H1 : ZH} {q : Nat → Int} (h : FrP H H1) (r : RepSc H 35 q) : RepSc H1 35 q := RepSc_e (fun cc a b => funext (fun j => h.1 cc j (by omega) (by omega) (by omega))) r
theorem trd_P {H H1 : ZH} {q : Nat → Int} {wo : Int} (h : FrP H H1) (r : TrD H 113 q wo) : TrD H1 113 q wo := TrS_cg r (fun cc k a b => h.2 cc k (by omega) (by omega) (by omega)) (h.1 113 6 (by omega) (by omega) (by omega))
/-- what weighing the tree leaves as it is -/
def WnP (H H1 : ZH) (q : Nat → Int) : Prop := TrD H1 113 q (-1) ∧ H1.1 20 8 ≠ 0 ∧ FrO H H1
theorem wn_sc {H H1 : ZH} {q q2 : Nat → Int} (h : FrO H H1) (r : RepSc H 35 q2) (l : RepLw H q) : RepSc H1 35 q2 ∧ RepLw H1 q := by
  refine ⟨RepSc_e (fun cc a b => funext (fun j => h.1 cc j (by omega) (by omega) (by omega) (by omega))) r, ?_⟩
  have e : ∀ cc k, 59 ≤ cc → cc ≤ 62 → H1.1 cc k = H.1 cc k := fun cc k a b => h.1 cc k (by omega) (by omega) (by omega) (by omega)
  refine ⟨by rw [e 59 0 (by omega) (by omega)]; exact l.1, fun i hi => ?_⟩
  obtain ⟨a, b, c⟩ := l.2 i hi
  exact ⟨by rw [e 60 i (by omega) (by omega)]; exact a, by rw [e 61 i (by omega) (by omega)]; exact b, fun j hj => by rw [e 62 j (by omega) (by omega)]; exact c j hj⟩
theorem bk_eq {n : Nat} {K most : Int} (hn : n ≤ 8) : (K ≤ (100 : Int) ^ n / 1000 * most + (100 : Int) ^ n % 1000 * most / 1000) ↔ (if (100 : Int) ^ n < 1000 then decide (K * 1000 ≤ most * 100 ^ n) else decide (K ≤ most * (100 ^ n / 1000))) = true := by
  rcases (show n = 0 ∨ n = 1 ∨ n = 2 ∨ n = 3 ∨ n = 4 ∨ n = 5 ∨ n = 6 ∨ n = 7 ∨ n = 8 by omega) with e | e | e | e | e | e | e | e | e <;> subst e
  · rw [show (100 : Int) ^ 0 = 1 from rfl, if_pos (by decide), decide_eq_true_iff]; omega
  · rw [show (100 : Int) ^ 1 = 100 from rfl, if_pos (by decide), decide_eq_true_iff]; omega
  · rw [show (100 : Int) ^ 2 = 10000 from rfl, if_neg (by decide), decide_eq_true_iff]; omega
  · rw [show (100 : Int) ^ 3 = 1000000 from rfl, if_neg (by decide), decide_eq_true_iff]; omega
  · rw [show (100 : Int) ^ 4 = 100000000 from rfl, if_neg (by decide), decide_eq_true_iff]; omega
  · rw [show (100 : Int) ^ 5 = 10000000000 from rfl, if_neg (by decide), decide_eq_true_iff]; omega
  · rw [show (100 : Int) ^ 6 = 1000000000000 from rfl, if_neg (by decide), decide_eq_true_iff]; omega
  · rw [show (100 : Int) ^ 7 = 100000000000000 from rfl, if_neg (by decide), decide_eq_true_iff]; omega
  · rw [show (100 : Int) ^ 8 = 10000000000000000 from rfl, if_neg (by decide), decide_eq_true_iff]; omega
