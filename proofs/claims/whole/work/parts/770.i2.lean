/-! GROUP I2: the road's calls and the odds. -/
theorem Cn_b2 {H H2 : ZH} {n ix : Nat} (e1 : ∀ k, H2.1 25 k = (bumpC ix H).1 25 k) (e2 : ∀ k, H2.1 1 k = (bumpM ix H).1 1 k) (c : Cn H n) : Cn H2 (n + 1) := by
  have y := Cn_bump (ix := ix) (Ha := H) (fun _ => rfl) (fun _ => rfl) c
  intro k hk
  have z := y k hk
  have u1 : (bumpM ix (bumpC ix H)).1 25 k = H2.1 25 k := by rw [(bumpM_f ix _).1 25 k (by omega), e1 k]
  have u2 : (bumpM ix (bumpC ix H)).1 1 k = H2.1 1 k := by
    rw [e2 k]
    unfold bumpM
    by_cases h : ix < 6
    · rw [if_pos h, if_pos h, wIp, wIp, (bumpC_f ix H).1 1 ix (by omega), (bumpC_f ix H).1 1 k (by omega)]
    · rw [if_neg h, if_neg h, (bumpC_f ix H).1 1 k (by omega)]
  rw [u1, u2] at z
  exact z
theorem Inv_sc {H H2 : ZH} {n : Nat} (I : Inv H n) (h1 : ∀ cc k, ¬ (cc = 0 ∧ (k = 23 ∨ k = 26)) → cc ≠ 6 → ¬ (7 ≤ cc ∧ cc ≤ 10) → ¬ (cc = 20 ∧ k = 8) → cc ≠ 23 → ¬ (50 ≤ cc ∧ cc ≤ 54) → ¬ (104 ≤ cc ∧ cc ≤ 118) → H2.1 cc k = H.1 cc k) (h2 : ∀ cc k, ¬ (11 ≤ cc ∧ cc ≤ 13) → cc ≠ 23 → cc ≠ 111 → ¬ (113 ≤ cc ∧ cc ≤ 118) → H2.2 cc k = H.2 cc k) (h6 : ∀ j, 42 ≤ j → H2.1 6 j = 0) (ht : H2.1 20 8 ≠ 0 → TrD H2 113 (H.1 2) (-1)) : Inv H2 (n + 1) := by
  have g : ∀ cc k, cc ≠ 0 → cc ≠ 6 → ¬ (7 ≤ cc ∧ cc ≤ 10) → cc ≠ 20 → cc ≠ 23 → ¬ (50 ≤ cc ∧ cc ≤ 54) → ¬ (104 ≤ cc ∧ cc ≤ 118) → H2.1 cc k = H.1 cc k := fun cc k a b c d e f i => h1 cc k (by omega) b c (by omega) e f i
  have e2 : H2.1 2 = H.1 2 := funext (fun k => g 2 k (by omega) (by omega) (by omega) (by omega) (by omega) (by omega) (by omega))
  obtain ⟨j1, j2, j3, j4⟩ := J_cg (H1 := H2) (fun cc k a0 a1 a2 a3 a4 a5 a6 a7 a8 a9 a10 => h1 cc k (by omega) (by omega) (by omega) (by omega) (by omega) (by omega) (by omega)) (fun cc k hc => h2 cc k (by omega) (by omega) (by omega) (by omega)) h6 ⟨I.2.1, I.2.2.1, I.2.2.2.1, I.2.2.2.2.1⟩
  refine ⟨Cn_s (fun k => g 25 k (by omega) (by omega) (by omega) (by omega) (by omega) (by omega) (by omega)) (fun k => g 1 k (by omega) (by omega) (by omega) (by omega) (by omega) (by omega) (by omega)) I.1, j1, j2, j3, j4, fun z => ?_, ?_⟩
  · rw [e2]; exact ht z
  · rw [e2]
    exact SpK_cg (g 119 0 (by omega) (by omega) (by omega) (by omega) (by omega) (by omega) (by omega)) (fun cc k hc => h2 cc k (by omega) (by omega) (by omega) (by omega)) (Inv_sk I)
/-- behind a call of the road -/
theorem Inv_rd {H H1 H2 : ZH} {n : Nat} (I : Inv H n) (f : FrK H H1) (h1 : ∀ cc k, ¬ (cc = 0 ∧ (k = 23 ∨ k = 26)) → ¬ (6 ≤ cc ∧ cc ≤ 10) → H2.1 cc k = H1.1 cc k) (h2 : H2.2 = H1.2) (h6 : ∀ j, 42 ≤ j → H2.1 6 j = 0) : Inv H2 (n + 1) := by
  refine Inv_sc I (fun cc k a b c d e i j => (h1 cc k a (by omega)).trans (f.1 cc k (by omega))) (fun cc k a b c d => by rw [h2]; exact f.2 cc k (by omega)) h6 (fun z => ?_)
  rw [h1 20 8 (by omega) (by omega), f.1 20 8 (by omega)] at z
  exact TrS_cg (Inv_tv I z) (fun cc k a b => by rw [h2]; exact f.2 cc k (by omega)) ((h1 113 6 (by omega) (by omega)).trans (f.1 113 6 (by omega)))
theorem Lo_K {H H1 : ZH} (f : FrK H H1) : Lo H H1 := ⟨fun cc h => funext (fun k => f.1 cc k (by omega)), fun cc h => funext (fun k => f.2 cc k (by omega))⟩
theorem Lo_P {H H1 : ZH} (f : FrP H H1) : Lo H H1 := ⟨fun cc h => funext (fun k => f.1 cc k (by omega) (by omega) (by omega)), fun cc h => funext (fun k => f.2 cc k (by omega) (by omega) (by omega))⟩
theorem Lo_O {H H1 : ZH} (f : FrO H H1) : Lo H H1 := ⟨fun cc h => funext (fun k => f.1 cc k (by omega) (by omega) (by omega) (by omega)), fun cc h => funext (fun k => f.2 cc k (by omega) (by omega) (by omega))⟩
theorem Inv_rr2 {H H1 H2 : ZH} {n : Nat} (I : Inv H n) (f : FrK H H1) (g : FrR H1 H2) (h6 : ∀ j, 42 ≤ j → H2.1 6 j = 0) : Inv H2 (n + 1) := Inv_rd I f (fun cc k a b => g.2 cc k (by omega)) g.1 h6
theorem run_hi {A : Nat → Int} {wo wc sd : Int} (ws : WFS A) (t : Nat) : ∀ j, 42 ≤ j → rnF A wo (bgn A Z0 wc sd) t j = 0 := fun j hj => (rnF_hi ws.2.1 ws.1 (bgn_rn ws) t hj).trans (bgn_hi hj ws.2.1)
theorem Inv_rp2 {H H1 H2 : ZH} {n t : Nat} {sd : Int} (I : Inv H n) (f : FrK H H1) (g : RunP H1 H2 (rnF (H.1 2) (-1) (bgn (H.1 2) Z0 (-1) sd) t)) : Inv H2 (n + 1) := Inv_rr2 I f g.1 (fun j hj => by rw [g.2]; exact run_hi (Inv_ws I) t j hj)
/-- behind a call of the odds that keeps the tree -/
theorem Inv_fp {H H1 H2 : ZH} {n : Nat} (I : Inv H n) (f : FrP H H1) (g : WoF H1 H2) : Inv H2 (n + 1) := by
  have h1 : ∀ cc k, ¬ (cc = 0 ∧ (k = 23 ∨ k = 26)) → ¬ (6 ≤ cc ∧ cc ≤ 10) → H2.1 cc k = H1.1 cc k := fun cc k a b => g.1 cc k (by omega)
  refine Inv_sc I (fun cc k a b c d e i j => (h1 cc k a (by omega)).trans (f.1 cc k (by omega) (by omega) (by omega))) (fun cc k a b c d => (g.2.2 cc k (by omega)).trans (f.2 cc k (by omega) (by omega) (by omega))) g.2.1 (fun z => ?_)
  rw [h1 20 8 (by omega) (by omega), f.1 20 8 (by omega) (by omega) (by omega)] at z
  exact TrS_cg (Inv_tv I z) (fun cc k a b => (g.2.2 cc k (by omega)).trans (f.2 cc k (by omega) (by omega) (by omega))) ((h1 113 6 (by omega) (by omega)).trans (f.1 113 6 (by omega) (by omega) (by omega)))
/-- behind one that weighs the tree -/
theorem Inv_wn {H H1 H2 : ZH} {n : Nat} (I : Inv H n) (w : WnP H H1 (H.1 2)) (g : WoF H1 H2) : Inv H2 (n + 1) := by
  obtain ⟨t, _, f⟩ := w
  have h1 : ∀ cc k, ¬ (cc = 0 ∧ (k = 23 ∨ k = 26)) → ¬ (6 ≤ cc ∧ cc ≤ 10) → H2.1 cc k = H1.1 cc k := fun cc k a b => g.1 cc k (by omega)
  refine Inv_sc I (fun cc k a b c d e i j => (h1 cc k a (by omega)).trans (f.1 cc k (by omega) (by omega) (by omega) (by omega))) (fun cc k a b c d => (g.2.2 cc k (by omega)).trans (f.2 cc k (by omega) (by omega) (by omega))) g.2.1 (fun _ => ?_)
  exact TrS_cg t (fun cc k a b => g.2.2 cc k (by omega)) (h1 113 6 (by omega) (by omega))

theorem b_slip {H : ZH} {n : Nat} (ok : okZ H) (I : Inv H n) (hn : n ≤ 511) {w o : Int} (w1 : -2147483648 ≤ w) (w2 : w ≤ 2147483647) (o1 : -2147483648 ≤ o) (o2 : o ≤ 2147483647)  : BthI mX10_slip mX11_slip [.int (zN (w)), .int (zN (o))] H n := by
  refine ⟨_, c_X10_slip (d := 37) (H := H) ok (row := w) (other := o) (row1 := w1) (row2 := w2) (other1 := o1) (other2 := o2) (cn := (Inv_cn I (by omega))) (rr := (Inv_rr I)) (rm := (Inv_rm I)), fun r H1 ok1 p1 => ?_⟩
  obtain ⟨ix, p1, q1⟩ := p1
  have lo : Lo H H1 := by rw [q1]; exact Lo_b _ H
  refine ⟨_, c_X11_slip (d := 37) (H := H1) ok1 (row := w) (other := o) (row1 := w1) (row2 := w2) (other1 := o1) (other2 := o2) (cm := (Lo_cm I (by omega) lo)) (th := (Lo_th I lo)) (rm := (Lo_rm I lo)), fun r2 H2 ok2 p2 => ?_⟩
  obtain ⟨iy, p2, q2⟩ := p2
  have e17 := lo.1 17 (by omega)
  have e18 := lo.1 18 (by omega)
  have erv := rvM_cg (lo.2 19 (by omega))
  unfold SlipIs okr zsF at p1 p2
  rw [e17, e18, erv] at p2
  rcases p1 with ⟨c1, d1, v1, x1⟩ | ⟨c1, v1, x1⟩ <;> rcases p2 with ⟨c2, d2, v2, x2⟩ | ⟨c2, v2, x2⟩
  · refine ⟨v2.trans v1.symm, ?_⟩
    rw [q2, q1, x1, x2]; exact Inv_bump _ I
  · exact absurd ⟨c1, d1⟩ c2
  · exact absurd ⟨c2, d2⟩ c1
  · refine ⟨v2.trans v1.symm, ?_⟩
    rw [q2, q1, x1, x2]; exact Inv_bump _ I

theorem b_clumps {H : ZH} {n : Nat} (ok : okZ H) (I : Inv H n) (hn : n ≤ 511) {w c b a : Int} (w1 : -2147483648 ≤ w) (w2 : w ≤ 2147483647) (c1 : -2147483648 ≤ c) (c2 : c ≤ 2147483647) (b1 : -2147483648 ≤ b) (b2 : b ≤ 2147483647) (a1 : -2147483648 ≤ a) (a2 : a ≤ 2147483647)  : BthI mX10_clumps mX11_clumps [.int (zN (w)), .int (zN (c)), .int (zN (b)), .int (zN (a))] H n := by
  refine ⟨_, c_X10_clumps (d := 38) (H := H) ok (row := w) (c := c) (g := b) (what := a) (row1 := w1) (row2 := w2) (c1 := c1) (c2 := c2) (g1 := b1) (g2 := b2) (what1 := a1) (what2 := a2) (cn := (Inv_cn I (by omega))) (rr := (Inv_rr I)) (rm := (Inv_rm I)), fun r H1 ok1 p1 => ?_⟩
  obtain ⟨p1, f, q1⟩ := p1
  have g1 : ∀ cc k, cc ≠ 24 → cc ≠ 25 → H1.1 cc k = H.1 cc k := fun cc k a b => by rw [q1, (bumpC_f _ _).1 cc k b, wA1c a]
  have g2 : H1.2 = H.2 := by rw [q1, (bumpC_f _ _).2]; rfl
  have lo : Lo H H1 := ⟨fun cc h => funext (fun k => g1 cc k (by omega) (by omega)), fun cc _ => by rw [g2]⟩
  refine ⟨_, c_X11_clumps (d := 38) (H := H1) ok1 (row := w) (c := c) (g := b) (what := a) (row1 := w1) (row2 := w2) (c1 := c1) (c2 := c2) (g1 := b1) (g2 := b2) (what1 := a1) (what2 := a2) (cm := (Lo_cm I (by omega) lo)) (th := (Lo_th I lo)) (rm := (Lo_rm I lo)), fun r2 H2 ok2 p2 => ?_⟩
  obtain ⟨p2, f2, q2⟩ := p2
  have e17 := lo.1 17 (by omega)
  have e18 := lo.1 18 (by omega)
  have erv := rvM_cg (lo.2 19 (by omega))
  have es : S_clumps H1 w c b a = S_clumps H w c b a := by
    unfold S_clumps
    rw [e17, e18, erv]
  rw [es] at p2 q2
  refine ⟨p2.trans p1.symm, ?_⟩
  have h1 : ∀ cc k, cc ≠ 1 → cc ≠ 16 → cc ≠ 24 → cc ≠ 25 → H2.1 cc k = H.1 cc k := fun cc k x y z u => by rw [q2, (bumpM_f _ _).1 cc k x, wA1c y]; exact g1 cc k z u
  have h2 : H2.2 = H.2 := by rw [q2, (bumpM_f _ _).2]; exact g2
  have e2 : H2.1 2 = H.1 2 := funext (fun k => h1 2 k (by omega) (by omega) (by omega) (by omega))
  obtain ⟨j1, j2, j3, j4⟩ := J_cg (H1 := H2) (fun cc k a0 a1 a2 a3 a4 a5 a6 a7 a8 a9 a10 => h1 cc k (by omega) (by omega) (by omega) (by omega)) (fun cc k _ => by rw [h2]) (fun j hj => by rw [h1 6 j (by omega) (by omega) (by omega) (by omega)]; exact I.2.1.2.2.2.1 j hj) ⟨I.2.1, I.2.2.1, I.2.2.2.1, I.2.2.2.2.1⟩
  refine ⟨Cn_b2 (ix := (S_clumps H w c b a).2) (fun k => ?_) (fun k => ?_) I.1, j1, j2, j3, j4, fun z => ?_, ?_⟩
  · rw [q2, (bumpM_f _ _).1 25 k (by omega), wA1c (by omega), q1]
    unfold bumpC
    split
    · rw [wIp, wIp, wA1c (by omega)]
    · rw [wA1c (by omega)]
  · rw [q2]
    unfold bumpM
    split
    · rw [wIp, wIp, wA1c (by omega), g1 1 _ (by omega) (by omega), g1 1 _ (by omega) (by omega)]
    · rw [wA1c (by omega), g1 1 _ (by omega) (by omega)]
  · rw [e2]
    rw [h1 20 8 (by omega) (by omega) (by omega) (by omega)] at z
    exact TrS_cg (Inv_tv I z) (fun cc k _ _ => by rw [h2]) (h1 113 6 (by omega) (by omega) (by omega) (by omega))
  · rw [e2]
    exact SpK_cg (h1 119 0 (by omega) (by omega) (by omega) (by omega)) (fun cc k _ => by rw [h2]) (Inv_sk I)

theorem b_status {H : ZH} {n : Nat} (ok : okZ H) (I : Inv H n) (hn : n ≤ 511) {w : Int} (w1 : -2147483648 ≤ w) (w2 : w ≤ 2147483647)  : BthI mX10_status mX11_status [.int (zN (w))] H n := by
  refine ⟨_, c_X10_status (d := 39) (H := H) ok (what := w) (what1 := w1) (what2 := w2), fun r H1 ok1 p1 => ?_⟩
  obtain ⟨p1, q1⟩ := p1
  have lo : Lo H H1 := by rw [q1]; exact Lo_rf H
  refine ⟨_, c_X11_status (d := 38) (H := H1) ok1 (what := w) (what1 := w1) (what2 := w2) (th := (Lo_th I lo)), fun r2 H2 ok2 p2 => ?_⟩
  obtain ⟨p2, q2⟩ := p2
  subst q1
  refine ⟨?_, ?_⟩
  · rw [p1, p2]
    unfold S_status
    by_cases z : 0 ≤ w ∧ w ≤ 5
    · rw [if_pos z, if_pos z]; exact (I.1 w.toNat (by omega)).1.symm
    · rw [if_neg z, if_neg z]
  rw [q2]
  exact Inv_same I

theorem b_count {H : ZH} {n : Nat} (ok : okZ H) (I : Inv H n) (hn : n ≤ 511) {w : Int} (w1 : -2147483648 ≤ w) (w2 : w ≤ 2147483647)  : BthI mX10_count mX11_count [.int (zN (w))] H n := by
  refine ⟨_, c_X10_count (d := 39) (H := H) ok (what := w) (what1 := w1) (what2 := w2) (ws := (Inv_ws I)) (rs := (Inv_rs I)) (rl := (Inv_rl I).1) (rp0 := (Inv_rp I).1) (rt := I.2.2.2.2.1.2.1), fun r H1 ok1 p1 => ?_⟩
  obtain ⟨p1, q1⟩ := p1
  have lo : Lo H H1 := by rw [q1]; exact Lo_rf H
  refine ⟨_, c_X11_count (d := 39) (H := H1) ok1 (what := w) (what1 := w1) (what2 := w2) (th := (Lo_th I lo)), fun r2 H2 ok2 p2 => ?_⟩
  obtain ⟨p2, q2⟩ := p2
  subst q1
  refine ⟨p2.trans p1.symm, ?_⟩
  rw [q2]
  exact Inv_same I

theorem b_fault {H : ZH} {n : Nat} (ok : okZ H) (I : Inv H n) (hn : n ≤ 511) {w : Int} (w1 : -2147483648 ≤ w) (w2 : w ≤ 2147483647)  : BthI mX10_fault mX11_fault [.int (zN (w))] H n := by
  refine ⟨_, c_X10_fault (d := 39) (H := H) ok (what := w) (what1 := w1) (what2 := w2), fun r H1 ok1 p1 => ?_⟩
  obtain ⟨p1, q1⟩ := p1
  have lo : Lo H H1 := by rw [q1]; exact Lo_rf H
  refine ⟨_, c_X11_fault (d := 39) (H := H1) ok1 (what := w) (what1 := w1) (what2 := w2) (th := (Lo_th I lo)), fun r2 H2 ok2 p2 => ?_⟩
  obtain ⟨p2, q2⟩ := p2
  subst q1
  refine ⟨?_, ?_⟩
  · rw [p1, p2, I.2.2.2.2.1.2.2.2.1, I.2.2.2.2.1.2.2.2.2]
  rw [q2]
  exact Inv_same I

theorem b_run {H : ZH} {n : Nat} (ok : okZ H) (I : Inv H n) (hn : n ≤ 511) {s w : Int} (s1 : -2147483648 ≤ s) (s2 : s ≤ 2147483647) (w1 : -2147483648 ≤ w) (w2 : w ≤ 2147483647)  : BthI mX10_run mX11_run [.int (zN (s)), .int (zN (w))] H n := by
  refine ⟨_, c_X10_run (d := 33) (H := H) ok (sd := s) (what := w) (sd1 := s1) (sd2 := s2) (what1 := w1) (what2 := w2) (cn := (Inv_cn I (by omega))) (ws := (Inv_ws I)) (rs := (Inv_rs I)) (rl := (Inv_rl I)) (wl := (Inv_wl I)), fun r H1 ok1 p1 => ?_⟩
  have lo : Lo H H1 := by
    rcases p1 with ⟨_, _, f⟩ | ⟨_, _, q1⟩
    · exact Lo_K f
    · rw [q1]; exact Lo_b _ H
  refine ⟨_, c_X11_run (d := 33) (H := H1) ok1 (sd := s) (what := w) (sd1 := s1) (sd2 := s2) (what1 := w1) (what2 := w2) (cm := (Lo_cm I (by omega) lo)) (th := (Lo_th I lo)) (ws := (Lo_ws I lo)) (wl := (Lo_wl I lo)) (h42 := (Lo_42 I lo)), fun r2 H2 ok2 p2 => ?_⟩
  simp only [Lo_2 lo, Lo_21 I lo, Lo_22 I lo] at p2
  rcases p1 with ⟨c1, v1, f1⟩ | ⟨c1, v1, q1⟩ <;> rcases p2 with ⟨c2, v2, f2⟩ | ⟨c2, v2, q2⟩
  · exact ⟨v2.trans v1.symm, Inv_rp2 I f1 f2⟩
  · exact absurd c1 c2
  · exact absurd c2 c1
  · refine ⟨v2.trans v1.symm, ?_⟩
    rw [q2, q1]; exact Inv_bump _ I

theorem b_watch {H : ZH} {n : Nat} (ok : okZ H) (I : Inv H n) (hn : n ≤ 511) {s t c w : Int} (s1 : -2147483648 ≤ s) (s2 : s ≤ 2147483647) (t1 : -2147483648 ≤ t) (t2 : t ≤ 2147483647) (c1 : -2147483648 ≤ c) (c2 : c ≤ 2147483647) (w1 : -2147483648 ≤ w) (w2 : w ≤ 2147483647)  : BthI mX10_watch mX11_watch [.int (zN (s)), .int (zN (t)), .int (zN (c)), .int (zN (w))] H n := by
  refine ⟨_, c_X10_watch (d := 33) (H := H) ok (sd := s) (t := t) (c := c) (what := w) (sd1 := s1) (sd2 := s2) (t1 := t1) (t2 := t2) (c1 := c1) (c2 := c2) (what1 := w1) (what2 := w2) (cn := (Inv_cn I (by omega))) (ws := (Inv_ws I)) (rs := (Inv_rs I)) (rl := (Inv_rl I)) (wl := (Inv_wl I)), fun r H1 ok1 p1 => ?_⟩
  have lo : Lo H H1 := by
    rcases p1 with ⟨_, _, f⟩ | ⟨_, _, q1⟩
    · exact Lo_K f
    · rw [q1]; exact Lo_b _ H
  refine ⟨_, c_X11_watch (d := 33) (H := H1) ok1 (sd := s) (t := t) (c := c) (what := w) (sd1 := s1) (sd2 := s2) (t1 := t1) (t2 := t2) (c1 := c1) (c2 := c2) (what1 := w1) (what2 := w2) (cm := (Lo_cm I (by omega) lo)) (th := (Lo_th I lo)) (ws := (Lo_ws I lo)) (wl := (Lo_wl I lo)) (h42 := (Lo_42 I lo)), fun r2 H2 ok2 p2 => ?_⟩
  simp only [Lo_2 lo, Lo_21 I lo, Lo_22 I lo] at p2
  rcases p1 with ⟨c1, v1, f1⟩ | ⟨c1, v1, q1⟩ <;> rcases p2 with ⟨c2, v2, f2⟩ | ⟨c2, v2, q2⟩
  · exact ⟨v2.trans v1.symm, Inv_rp2 I f1 f2⟩
  · exact absurd c1 c2
  · exact absurd c2 c1
  · refine ⟨v2.trans v1.symm, ?_⟩
    rw [q2, q1]; exact Inv_bump _ I

theorem b_stands {H : ZH} {n : Nat} (ok : okZ H) (I : Inv H n) (hn : n ≤ 511) {s t : Int} (s1 : -2147483648 ≤ s) (s2 : s ≤ 2147483647) (t1 : -2147483648 ≤ t) (t2 : t ≤ 2147483647)  : BthI mX10_stands mX11_stands [.int (zN (s)), .int (zN (t))] H n := by
  refine ⟨_, c_X10_stands (d := 33) (H := H) ok (sd := s) (t := t) (sd1 := s1) (sd2 := s2) (t1 := t1) (t2 := t2) (cn := (Inv_cn I (by omega))) (ws := (Inv_ws I)) (rs := (Inv_rs I)) (rl := (Inv_rl I)) (wl := (Inv_wl I)), fun r H1 ok1 p1 => ?_⟩
  have lo : Lo H H1 := by
    rcases p1 with ⟨_, _, f⟩ | ⟨_, _, q1⟩
    · exact Lo_K f
    · rw [q1]; exact Lo_b _ H
  refine ⟨_, c_X11_stands (d := 33) (H := H1) ok1 (sd := s) (t := t) (sd1 := s1) (sd2 := s2) (t1 := t1) (t2 := t2) (cm := (Lo_cm I (by omega) lo)) (th := (Lo_th I lo)) (ws := (Lo_ws I lo)) (wl := (Lo_wl I lo)) (h42 := (Lo_42 I lo)), fun r2 H2 ok2 p2 => ?_⟩
  simp only [Lo_2 lo, Lo_21 I lo, Lo_22 I lo] at p2
  rcases p1 with ⟨c1, v1, f1⟩ | ⟨c1, v1, q1⟩ <;> rcases p2 with ⟨c2, v2, f2⟩ | ⟨c2, v2, q2⟩
  · exact ⟨v2.trans v1.symm, Inv_rp2 I f1 f2⟩
  · exact absurd c1 c2
  · exact absurd c2 c1
  · refine ⟨v2.trans v1.symm, ?_⟩
    rw [q2, q1]; exact Inv_bump _ I

theorem b_tries {H : ZH} {n : Nat} (ok : okZ H) (I : Inv H n) (hn : n ≤ 511) {s m w : Int} (s1 : -2147483648 ≤ s) (s2 : s ≤ 2147483647) (m1 : -2147483648 ≤ m) (m2 : m ≤ 2147483647) (w1 : -2147483648 ≤ w) (w2 : w ≤ 2147483647)  : BthI mX10_tries mX11_tries [.int (zN (s)), .int (zN (m)), .int (zN (w))] H n := by
  refine ⟨_, c_X10_tries (d := 33) (H := H) ok (s := s) (m := m) (how := w) (s1 := s1) (s2 := s2) (m1 := m1) (m2 := m2) (how1 := w1) (how2 := w2) (cn := (Inv_cn I (by omega))) (ws := (Inv_ws I)) (rs := (Inv_rs I)) (rl := (Inv_rl I)) (wl := (Inv_wl I)), fun r H1 ok1 p1 => ?_⟩
  have lo : Lo H H1 := by
    rcases p1 with ⟨_, _, _, f⟩ | ⟨_, _, q1⟩ | ⟨_, _, _, q1⟩
    · exact Lo_K f
    · rw [q1]; exact Lo_b _ H
    · rw [q1]; exact Lo_b _ H
  refine ⟨_, c_X11_tries (d := 33) (H := H1) ok1 (s := s) (m := m) (how := w) (s1 := s1) (s2 := s2) (m1 := m1) (m2 := m2) (how1 := w1) (how2 := w2) (cm := (Lo_cm I (by omega) lo)) (th := (Lo_th I lo)) (ws := (Lo_ws I lo)) (wl := (Lo_wl I lo)) (h42 := (Lo_42 I lo)), fun r2 H2 ok2 p2 => ?_⟩
  simp only [Lo_2 lo, Lo_21 I lo, Lo_22 I lo] at p2
  rcases p1 with ⟨c1, d1, v1, f1⟩ | ⟨c1, v1, q1⟩ | ⟨c1, d1, v1, q1⟩ <;> rcases p2 with ⟨c2, d2, v2, f2, g2⟩ | ⟨c2, v2, q2⟩ | ⟨c2, d2, v2, q2⟩
  · exact ⟨v2.trans v1.symm, Inv_rr2 I f1 f2 g2⟩
  · exact absurd c1 c2
  · exact absurd d1 d2
  · exact absurd c2 c1
  · refine ⟨v2.trans v1.symm, ?_⟩
    rw [q2, q1]; exact Inv_bump _ I
  · exact absurd c2 c1
  · exact absurd d2 d1
  · exact absurd c1 c2
  · refine ⟨v2.trans v1.symm, ?_⟩
    rw [q2, q1]; exact Inv_bump _ I

theorem b_margin {H : ZH} {n : Nat} (ok : okZ H) (I : Inv H n) (hn : n ≤ 511) {s : Int} (s1 : -2147483648 ≤ s) (s2 : s ≤ 2147483647)  : BthI mX10_margin mX11_margin [.int (zN (s))] H n := by
  refine ⟨_, c_X10_margin (d := 34) (H := H) ok (sd := s) (sd1 := s1) (sd2 := s2) (ws := (Inv_ws I)) (rs := (Inv_rs I)) (rl := (Inv_rl I)) (wl := (Inv_wl I)), fun r H1 ok1 p1 => ?_⟩
  have lo : Lo H H1 := Lo_K p1.2
  refine ⟨_, c_X11_margin (d := 34) (H := H1) ok1 (sd := s) (sd1 := s1) (sd2 := s2) (th := (Lo_th I lo)) (ws := (Lo_ws I lo)) (wl := (Lo_wl I lo)) (h42 := (Lo_42 I lo)), fun r2 H2 ok2 p2 => ?_⟩
  simp only [Lo_2 lo, Lo_21 I lo, Lo_22 I lo] at p2
  exact ⟨p2.1.trans p1.1.symm, Inv_rr2 I p1.2 p2.2.1 p2.2.2⟩

theorem b_chance {H : ZH} {n : Nat} (ok : okZ H) (I : Inv H n) (hn : n ≤ 511) {a : Int} (a1 : -2147483648 ≤ a) (a2 : a ≤ 2147483647)  : BthI mX10_chance mX11_chance [.int (zN (a))] H n := by
  refine ⟨_, c_X10_chance (d := 36) (H := H) ok (H.1 6) 0 (a := a) (a1 := a1) (a2 := a2) (cn := (Inv_cn I (by omega))) (ws := (Inv_ws I)) (rs := (Inv_rs I)) (rl := (Inv_rl I)) (wl := (Inv_wl I)), fun r H1 ok1 p1 => ?_⟩
  have lo : Lo H H1 := by
    rcases p1 with ⟨_, _, f⟩ | ⟨_, _, q1⟩
    · exact Lo_K f
    · rw [q1]; exact Lo_b _ H
  refine ⟨_, c_X11_chance (d := 35) (H := H1) ok1 (a := a) (a1 := a1) (a2 := a2) (cm := (Lo_cm I (by omega) lo)) (th := (Lo_th I lo)) (ws := (Lo_ws I lo)) (wl := (Lo_wl I lo)), fun r2 H2 ok2 p2 => ?_⟩
  simp only [Lo_2 lo, Lo_21 I lo, Lo_22 I lo, lo.1 6 (by omega : 6 < 20)] at p2
  have hb : ∀ j, 42 ≤ j → bgn (H.1 2) (H.1 6) (-1) 0 j = 0 := fun j hj => by
    rw [bgn_z I.2.1.2.2.2.1]
    exact bgn_hi hj (Inv_ws I).2.1
  rcases p1 with ⟨c1, v1, f1⟩ | ⟨c1, v1, q1⟩ <;> rcases p2 with ⟨c2, d2, v2, f, q2⟩ | ⟨c2, v2, q2⟩
  · exact ⟨v2.trans v1.symm, Inv_rd I f1 (fun cc k a b => by rw [q2, wA1c (by omega), wA1c (by omega)]) (by rw [q2]; rfl) (fun j hj => by rw [q2, wA1c (by omega), wA1]; exact hb j hj)⟩
  · exact absurd c1 c2
  · exact absurd ⟨c2, d2⟩ c1
  · refine ⟨v2.trans v1.symm, ?_⟩
    rw [q2, q1]; exact Inv_bump _ I

theorem b_can {H : ZH} {n : Nat} (ok : okZ H) (I : Inv H n) (hn : n ≤ 511) {a : Int} (a1 : -2147483648 ≤ a) (a2 : a ≤ 2147483647)  : BthI mX10_can mX11_can [.int (zN (a))] H n := by
  refine ⟨_, c_X10_can (d := 37) (H := H) ok (H.1 6) 0 (a := a) (a1 := a1) (a2 := a2) (cn := (Inv_cn I (by omega))) (ws := (Inv_ws I)) (rs := (Inv_rs I)), fun r H1 ok1 p1 => ?_⟩
  have lo : Lo H H1 := by
    rcases p1 with ⟨_, _, f⟩ | ⟨_, _, q1⟩
    · exact Lo_K f
    · rw [q1]; exact Lo_b _ H
  refine ⟨_, c_X11_can (d := 37) (H := H1) ok1 (a := a) (a1 := a1) (a2 := a2) (cm := (Lo_cm I (by omega) lo)) (th := (Lo_th I lo)) (ws := (Lo_ws I lo)), fun r2 H2 ok2 p2 => ?_⟩
  simp only [Lo_2 lo, Lo_21 I lo, Lo_22 I lo, lo.1 6 (by omega : 6 < 20)] at p2
  have hb : ∀ j, 42 ≤ j → bgn (H.1 2) (H.1 6) (-1) 0 j = 0 := fun j hj => by
    rw [bgn_z I.2.1.2.2.2.1]
    exact bgn_hi hj (Inv_ws I).2.1
  rcases p1 with ⟨c1, v1, f1⟩ | ⟨c1, v1, q1⟩ <;> rcases p2 with ⟨c2, d2, v2, q2⟩ | ⟨c2, v2, q2⟩
  · exact ⟨v2.trans v1.symm, Inv_rd I f1 (fun cc k a b => by rw [q2, wA1c (by omega)]) (by rw [q2]; rfl) (fun j hj => by rw [q2, wA1]; exact hb j hj)⟩
  · exact absurd c1 c2
  · exact absurd ⟨c2, d2⟩ c1
  · refine ⟨v2.trans v1.symm, ?_⟩
    rw [q2, q1]; exact Inv_bump _ I

theorem b_odds {H : ZH} {n : Nat} (ok : okZ H) (I : Inv H n) (hn : n ≤ 511) {w : Int} (w1 : -2147483648 ≤ w) (w2 : w ≤ 2147483647)  : BthL mX10_odds mX11_odds [.int (zN (w))] H n := by
  refine ⟨_, c_X10_odds (d := 32) (H := H) ok (what := w) (what1 := w1) (what2 := w2) (cn := (Inv_cn I (by omega))) (ws := (Inv_ws I)) (rs := (Inv_rs I)) (rl := (Inv_rl I)) (wl := (Inv_wl I)) (tv := (Inv_tv I)), fun r H1 ok1 p1 => ?_⟩
  have lo : Lo H H1 := by
    rcases p1 with ⟨_, _, f⟩ | ⟨_, _, q1⟩
    · exact Lo_O f.2.2
    · rw [q1]; exact Lo_b _ H
  refine ⟨_, c_X11_odds (d := 24) (H := H1) ok1 (what := w) (what1 := w1) (what2 := w2) (cm := (Lo_cm I (by omega) lo)) (th := (Lo_th I lo)) (ws := (Lo_ws I lo)) (wl := (Lo_wl I lo)) (h42 := (Lo_42 I lo)), fun r2 H2 ok2 p2 => ?_⟩
  simp only [Lo_2 lo, Lo_21 I lo, Lo_22 I lo] at p2
  rcases p1 with ⟨c1, v1, f1⟩ | ⟨c1, v1, q1⟩ <;> rcases p2 with ⟨c2, v2, f2⟩ | ⟨c2, v2, q2⟩
  · exact ⟨v2.trans v1.symm, Inv_wn I f1 f2⟩
  · exact absurd c1 c2
  · exact absurd c2 c1
  · refine ⟨v2.trans v1.symm, ?_⟩
    rw [q2, q1]; exact Inv_bump _ I

theorem b_helps {H : ZH} {n : Nat} (ok : okZ H) (I : Inv H n) (hn : n ≤ 511) {a : Int} (a1 : -2147483648 ≤ a) (a2 : a ≤ 2147483647)  : BthL mX10_helps mX11_helps [.int (zN (a))] H n := by
  refine ⟨_, c_X10_helps (d := 32) (H := H) ok (a := a) (a1 := a1) (a2 := a2) (cn := (Inv_cn I (by omega))) (ws := (Inv_ws I)) (rs := (Inv_rs I)) (rl := (Inv_rl I)) (wl := (Inv_wl I)) (tv := (Inv_tv I)), fun r H1 ok1 p1 => ?_⟩
  have lo : Lo H H1 := by
    rcases p1 with ⟨_, _, f⟩ | ⟨_, _, q1⟩
    · exact Lo_O f.2.2
    · rw [q1]; exact Lo_b _ H
  refine ⟨_, c_X11_helps (d := 23) (H := H1) ok1 (t := a) (t1 := a1) (t2 := a2) (cm := (Lo_cm I (by omega) lo)) (th := (Lo_th I lo)) (ws := (Lo_ws I lo)) (wl := (Lo_wl I lo)) (h42 := (Lo_42 I lo)), fun r2 H2 ok2 p2 => ?_⟩
  simp only [Lo_2 lo, Lo_21 I lo, Lo_22 I lo] at p2
  rcases p1 with ⟨c1, v1, f1⟩ | ⟨c1, v1, q1⟩ <;> rcases p2 with ⟨c2, v2, f2⟩ | ⟨c2, v2, q2⟩
  · exact ⟨v2.trans v1.symm, Inv_wn I f1 f2⟩
  · exact absurd c1 c2
  · exact absurd c2 c1
  · refine ⟨v2.trans v1.symm, ?_⟩
    rw [q2, q1]; exact Inv_bump _ I

theorem b_blame {H : ZH} {n : Nat} (ok : okZ H) (I : Inv H n) (hn : n ≤ 511) {c w : Int} (c1 : -2147483648 ≤ c) (c2 : c ≤ 2147483647) (w1 : -2147483648 ≤ w) (w2 : w ≤ 2147483647)  : BthL mX10_blame mX11_blame [.int (zN (c)), .int (zN (w))] H n := by
  refine ⟨_, c_X10_blame (d := 32) (H := H) ok (c := c) (what := w) (c1 := c1) (c2 := c2) (what1 := w1) (what2 := w2) (cn := (Inv_cn I (by omega))) (ws := (Inv_ws I)) (rs := (Inv_rs I)) (rl := (Inv_rl I)) (wl := (Inv_wl I)) (tv := (Inv_tv I)), fun r H1 ok1 p1 => ?_⟩
  have lo : Lo H H1 := by
    rcases p1 with ⟨_, _, f⟩ | ⟨_, _, q1⟩
    · exact Lo_O f.2.2
    · rw [q1]; exact Lo_b _ H
  refine ⟨_, c_X11_blame (d := 24) (H := H1) ok1 (c := c) (what := w) (c1 := c1) (c2 := c2) (what1 := w1) (what2 := w2) (cm := (Lo_cm I (by omega) lo)) (th := (Lo_th I lo)) (ws := (Lo_ws I lo)) (wl := (Lo_wl I lo)) (h42 := (Lo_42 I lo)), fun r2 H2 ok2 p2 => ?_⟩
  simp only [Lo_2 lo, Lo_21 I lo, Lo_22 I lo] at p2
  rcases p1 with ⟨c1, v1, f1⟩ | ⟨c1, v1, q1⟩ <;> rcases p2 with ⟨c2, v2, f2⟩ | ⟨c2, v2, q2⟩
  · exact ⟨v2.trans v1.symm, Inv_wn I f1 f2⟩
  · exact absurd c1 c2
  · exact absurd c2 c1
  · refine ⟨v2.trans v1.symm, ?_⟩
    rw [q2, q1]; exact Inv_bump _ I

theorem b_mean {H : ZH} {n : Nat} (ok : okZ H) (I : Inv H n) (hn : n ≤ 511) {w : Int} (w1 : -2147483648 ≤ w) (w2 : w ≤ 2147483647)  : BthL mX10_mean mX11_mean [.int (zN (w))] H n := by
  refine ⟨_, c_X10_mean (d := 32) (H := H) ok (what := w) (what1 := w1) (what2 := w2) (cn := (Inv_cn I (by omega))) (ws := (Inv_ws I)) (rs := (Inv_rs I)) (rl := (Inv_rl I)) (wl := (Inv_wl I)) (tv := (Inv_tv I)), fun r H1 ok1 p1 => ?_⟩
  have lo : Lo H H1 := by
    rcases p1 with ⟨_, _, f⟩ | ⟨_, _, q1⟩
    · exact Lo_O f.2.2
    · rw [q1]; exact Lo_b _ H
  refine ⟨_, c_X11_mean (d := 24) (H := H1) ok1 (what := w) (what1 := w1) (what2 := w2) (cm := (Lo_cm I (by omega) lo)) (th := (Lo_th I lo)) (ws := (Lo_ws I lo)) (wl := (Lo_wl I lo)) (h42 := (Lo_42 I lo)), fun r2 H2 ok2 p2 => ?_⟩
  simp only [Lo_2 lo, Lo_21 I lo, Lo_22 I lo] at p2
  rcases p1 with ⟨c1, v1, f1⟩ | ⟨c1, v1, q1⟩ <;> rcases p2 with ⟨c2, v2, f2⟩ | ⟨c2, v2, q2⟩
  · exact ⟨v2.trans v1.symm, Inv_wn I f1 f2⟩
  · exact absurd c1 c2
  · exact absurd c2 c1
  · refine ⟨v2.trans v1.symm, ?_⟩
    rw [q2, q1]; exact Inv_bump _ I

theorem b_repeals {H : ZH} {n : Nat} (ok : okZ H) (I : Inv H n) (hn : n ≤ 511) {k : Int} (k1 : -2147483648 ≤ k) (k2 : k ≤ 2147483647)  : BthL mX10_repeals mX11_repeals [.int (zN (k))] H n := by
  refine ⟨_, c_X10_repeals (d := 32) (H := H) ok (k := k) (k1 := k1) (k2 := k2) (cn := (Inv_cn I (by omega))) (ws := (Inv_ws I)) (rs := (Inv_rs I)) (rl := (Inv_rl I)) (wl := (Inv_wl I)) (tv := (Inv_tv I)), fun r H1 ok1 p1 => ?_⟩
  have lo : Lo H H1 := by
    rcases p1 with ⟨_, _, f⟩ | ⟨_, _, q1⟩
    · exact Lo_O f.2.2
    · rw [q1]; exact Lo_b _ H
  refine ⟨_, c_X11_repeals (d := 23) (H := H1) ok1 (k := k) (k1 := k1) (k2 := k2) (cm := (Lo_cm I (by omega) lo)) (th := (Lo_th I lo)) (ws := (Lo_ws I lo)) (wl := (Lo_wl I lo)) (h42 := (Lo_42 I lo)) (h21 := (Lo_21 I lo)), fun r2 H2 ok2 p2 => ?_⟩
  simp only [Lo_2 lo, Lo_21 I lo, Lo_22 I lo] at p2
  rcases p1 with ⟨c1, v1, f1⟩ | ⟨c1, v1, q1⟩ <;> rcases p2 with ⟨c2, v2, f2⟩ | ⟨c2, v2, q2⟩
  · exact ⟨v2.trans v1.symm, Inv_wn I f1 f2⟩
  · exact absurd c1 c2
  · exact absurd c2 c1
  · refine ⟨v2.trans v1.symm, ?_⟩
    rw [q2, q1]; exact Inv_bump _ I

theorem b_absent {H : ZH} {n : Nat} (ok : okZ H) (I : Inv H n) (hn : n ≤ 511) {c : Int} (c1 : -2147483648 ≤ c) (c2 : c ≤ 2147483647)  : BthL mX10_absent mX11_absent [.int (zN (c))] H n := by
  refine ⟨_, c_X10_absent (d := 32) (H := H) ok (c := c) (c1 := c1) (c2 := c2) (cn := (Inv_cn I (by omega))) (ws := (Inv_ws I)) (rs := (Inv_rs I)) (rl := (Inv_rl I)) (wl := (Inv_wl I)) (tv := (Inv_tv I)), fun r H1 ok1 p1 => ?_⟩
  have lo : Lo H H1 := by
    rcases p1 with ⟨_, _, f⟩ | ⟨_, _, q1⟩
    · exact Lo_O f.2.2
    · rw [q1]; exact Lo_b _ H
  refine ⟨_, c_X11_absent (d := 24) (H := H1) ok1 (c := c) (c1 := c1) (c2 := c2) (cm := (Lo_cm I (by omega) lo)) (th := (Lo_th I lo)) (ws := (Lo_ws I lo)) (wl := (Lo_wl I lo)) (h42 := (Lo_42 I lo)) (h22 := (Lo_22 I lo)), fun r2 H2 ok2 p2 => ?_⟩
  simp only [Lo_2 lo, Lo_21 I lo, Lo_22 I lo] at p2
  rcases p1 with ⟨c1, v1, f1⟩ | ⟨c1, v1, q1⟩ <;> rcases p2 with ⟨c2, v2, f2⟩ | ⟨c2, v2, q2⟩
  · refine ⟨?_, Inv_wn I f1 f2⟩
    have ta := TS_absent (wo := -1) (c := c.toNat) (Inv_ws I) (Inv_wl I) (by omega)
    rw [show ((c.toNat : Nat) : Int) = c by omega] at ta
    rw [v1, v2, ta]
  · exact absurd c1 c2
  · exact absurd c2 c1
  · refine ⟨v2.trans v1.symm, ?_⟩
    rw [q2, q1]; exact Inv_bump _ I

theorem b_best {H : ZH} {n : Nat} (ok : okZ H) (I : Inv H n) (hn : n ≤ 511) {k : Int} (k1 : -2147483648 ≤ k) (k2 : k ≤ 2147483647)  : BthI mX10_best mX11_best [.int (zN (k))] H n := by
  refine ⟨_, c_X10_best (d := 33) (H := H) ok (kk := k) (kk1 := k1) (kk2 := k2) (cn := (Inv_cn I (by omega))) (ws := (Inv_ws I)) (rs := (Inv_rs I)) (rl := (Inv_rl I)) (wl := (Inv_wl I)) (lz := (Inv_lz I)), fun r H1 ok1 p1 => ?_⟩
  have lo : Lo H H1 := by
    rcases p1 with ⟨_, _, f⟩ | ⟨_, _, q1⟩
    · exact Lo_P f
    · rw [q1]; exact Lo_b _ H
  refine ⟨_, c_X11_best (d := 23) (H := H1) ok1 (kk := k) (kk1 := k1) (kk2 := k2) (cm := (Lo_cm I (by omega) lo)) (th := (Lo_th I lo)) (ws := (Lo_ws I lo)) (wl := (Lo_wl I lo)) (h42 := (Lo_42 I lo)), fun r2 H2 ok2 p2 => ?_⟩
  simp only [Lo_2 lo, Lo_21 I lo, Lo_22 I lo] at p2
  rcases p1 with ⟨c1, v1, f1⟩ | ⟨c1, v1, q1⟩ <;> rcases p2 with ⟨c2, v2, f2⟩ | ⟨c2, v2, q2⟩
  · exact ⟨v2.trans v1.symm, Inv_fp I f1 f2⟩
  · exact absurd c1 c2
  · exact absurd c2 c1
  · refine ⟨v2.trans v1.symm, ?_⟩
    rw [q2, q1]; exact Inv_bump _ I

theorem b_back {H : ZH} {n : Nat} (ok : okZ H) (I : Inv H n) (hn : n ≤ 511) {a : Int} (a1 : -2147483648 ≤ a) (a2 : a ≤ 2147483647)  : BthI mX10_back mX11_back [.int (zN (a))] H n := by
  refine ⟨_, c_X10_back (d := 33) (H := H) ok (most := a) (most1 := a1) (most2 := a2) (cn := (Inv_cn I (by omega))) (ws := (Inv_ws I)) (rs := (Inv_rs I)) (rl := (Inv_rl I)) (wl := (Inv_wl I)), fun r H1 ok1 p1 => ?_⟩
  have lo : Lo H H1 := by
    rcases p1 with ⟨_, _, f⟩ | ⟨_, _, q1⟩
    · exact Lo_P f
    · rw [q1]; exact Lo_b _ H
  refine ⟨_, c_X11_back (d := 24) (H := H1) ok1 (most := a) (most1 := a1) (most2 := a2) (cm := (Lo_cm I (by omega) lo)) (th := (Lo_th I lo)) (ws := (Lo_ws I lo)) (wl := (Lo_wl I lo)) (h42 := (Lo_42 I lo)), fun r2 H2 ok2 p2 => ?_⟩
  simp only [Lo_2 lo, Lo_21 I lo, Lo_22 I lo] at p2
  rcases p1 with ⟨c1, v1, f1⟩ | ⟨c1, v1, q1⟩ <;> rcases p2 with ⟨c2, v2, f2⟩ | ⟨c2, v2, q2⟩
  · exact ⟨v2.trans v1.symm, Inv_fp I f1 f2⟩
  · exact absurd c1 c2
  · exact absurd c2 c1
  · refine ⟨v2.trans v1.symm, ?_⟩
    rw [q2, q1]; exact Inv_bump _ I

theorem b_wise {H : ZH} {n : Nat} (ok : okZ H) (I : Inv H n) (hn : n ≤ 511) {w : Int} (w1 : -2147483648 ≤ w) (w2 : w ≤ 2147483647) : BthI mX10_wise mX11_wise [.int (zN (w))] H n := by
  by_cases z : 0 ≤ w ∧ w ≤ 1
  · rcases (show w = 0 ∨ w = 1 by omega) with e | e
    · subst e
      refine ⟨_, c_X10_wise_0 (d := 33) (H := H) ok (ws := (Inv_ws I)) (rs := (Inv_rs I)) (rl := (Inv_rl I)) (wl := (Inv_wl I)), fun r H1 ok1 p1 => ?_⟩
      have lo : Lo H H1 := Lo_P p1.2
      refine ⟨_, c_X11_wise_0 (d := 24) (H := H1) ok1 (cm := (Lo_cm I (by omega) lo)) (th := (Lo_th I lo)) (ws := (Lo_ws I lo)) (wl := (Lo_wl I lo)) (h42 := (Lo_42 I lo)), fun r2 H2 ok2 p2 => ?_⟩
      simp only [Lo_2 lo, Lo_21 I lo, Lo_22 I lo] at p2
      exact ⟨p2.1.trans p1.1.symm, Inv_fp I p1.2 p2.2⟩
    · subst e
      refine ⟨_, c_X10_wise_1 (d := 33) (H := H) ok (ws := (Inv_ws I)) (rs := (Inv_rs I)) (rl := (Inv_rl I)) (wl := (Inv_wl I)), fun r H1 ok1 p1 => ?_⟩
      have lo : Lo H H1 := Lo_P p1.2
      refine ⟨_, c_X11_wise_1 (d := 24) (H := H1) ok1 (cm := (Lo_cm I (by omega) lo)) (th := (Lo_th I lo)) (ws := (Lo_ws I lo)) (wl := (Lo_wl I lo)) (h42 := (Lo_42 I lo)), fun r2 H2 ok2 p2 => ?_⟩
      simp only [Lo_2 lo, Lo_21 I lo, Lo_22 I lo] at p2
      exact ⟨p2.1.trans p1.1.symm, Inv_fp I p1.2 p2.2⟩
  · refine ⟨_, c_X10_wise_x (d := 33) (H := H) ok (what := w) (what1 := w1) (what2 := w2) (cn := (Inv_cn I (by omega))) (hne := z), fun r H1 ok1 p1 => ?_⟩
    have lo : Lo H H1 := by rw [p1.2]; exact Lo_b _ H
    refine ⟨_, c_X11_wise_x (d := 24) (H := H1) ok1 (what := w) (what1 := w1) (what2 := w2) (cm := (Lo_cm I (by omega) lo)) (th := (Lo_th I lo)) (hne := z), fun r2 H2 ok2 p2 => ?_⟩
    refine ⟨p2.1.trans p1.1.symm, ?_⟩
    rw [p2.2, p1.2]
    exact Inv_bump _ I
