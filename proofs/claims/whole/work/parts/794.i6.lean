/-! GROUP I6: image, restore, text. -/

theorem b_image {H : ZH} {n : Nat} (ok : okZ H) (I : Inv H n) (hn : n ≤ 511) {i : Int} (i1 : -2147483648 ≤ i) (i2 : i ≤ 2147483647)  : BthI mX10_image mX11_image [.int (zN (i))] H n := by
  have b1 := I.2.2.1.1
  have st := I.2.2.2.1.1
  have im0 := I.2.2.1.2
  have c2 := I.2.2.2.1.2.1
  have c3 := I.2.2.2.1.2.2.1
  have c4 := I.2.2.2.1.2.2.2.1
  have c5 := I.2.2.2.1.2.2.2.2.1
  have c6 := I.2.2.2.1.2.2.2.2.2
  have lb := lend_bd b1.2.1
  have hz : 0 ≤ H.1 59 4 ∧ H.1 59 4 ≤ 400 := by rw [Inv_lz I]; omega
  refine ⟨_, c_X10_image (d := 37) (H := H) ok (i := i) (i1 := i1) (i2 := i2) (cn := (Inv_cn I (by omega))) (hz := hz), fun r H1 ok1 p1 => ?_⟩
  have lo : Lo H H1 := by
    rcases p1 with ⟨_, _, x⟩ | ⟨_, _, Hb, t, x⟩ | ⟨_, _, Hb, t, x⟩
    · rw [x]; exact Lo_b _ H
    · have T := Take_R t b1 st (by omega) (fun cc h => by omega)
      rw [x]
      exact ⟨fun cc h => funext (fun k => by rw [wI1c (by omega)]; exact T.2.1 cc (by omega) (by omega) (by omega) (by omega) k), fun cc h => by show Hb.2 cc = _; rw [T.2.2.1]⟩
    · have T := Take_R t b1 st (by omega) (fun cc h => by omega)
      rw [x]
      exact ⟨fun cc h => funext (fun k => by rw [wI1c (by omega)]; exact T.2.1 cc (by omega) (by omega) (by omega) (by omega) k), fun cc h => by show Hb.2 cc = _; rw [T.2.2.1]⟩
  refine ⟨_, c_X11_image (d := 38) (H := H1) ok1 (i := i) (i1 := i1) (i2 := i2) (cm := (Lo_cm I (by omega) lo)) (th := (Lo_th I lo)), fun r2 H2 ok2 p2 => ?_⟩
  rcases p2 with ⟨d2, v2, x2⟩ | ⟨d2, v2, x2⟩
  · rcases p1 with ⟨_, v1, x1⟩ | ⟨z, _⟩ | ⟨z, _⟩
    · refine ⟨v2.trans v1.symm, ?_⟩; rw [x2, x1]; exact Inv_bump _ I
    · exact absurd (show 0 ≤ i ∧ i ≤ 1 by omega) d2
    · exact absurd (show 0 ≤ i ∧ i ≤ 1 by omega) d2
  · have g2 : ∀ k, H2.1 2 k = if 578 * (i.toNat + 1) ≤ k ∧ k < 578 * (i.toNat + 1) + 578 then H.1 2 (k - 578 * (i.toNat + 1)) else H.1 2 k := fun k => by rw [x2, wI1c (by omega), wA1, Lo_2 lo]
    have g3 : ∀ k, H2.1 3 k = if k = i.toNat then 1 else H.1 3 k := fun k => by rw [x2, wIp, wA1c (by omega), lo.1 3 (by omega)]
    have gf : ∀ cc k, cc ≠ 2 → cc ≠ 3 → H2.1 cc k = H1.1 cc k := fun cc k a b => by rw [x2, wI1c b, wA1c a]
    have hA : ∀ j, j < 578 → H2.1 2 j = H.1 2 j := fun j hj => by rw [g2, if_neg (by omega)]
    have hI : ∀ j, j < 578 → imq H2 i.toNat j = H.1 2 j := fun j hj => by
      show H2.1 2 (578 * (i.toNat + 1) + j) = _
      rw [g2, if_pos (by omega), Nat.add_sub_cancel_left]
    have hO : ∀ i', i' < 2 → i' ≠ i.toNat → ∀ j, j < 578 → imq H2 i' j = imq H i' j := fun i' h1 h2 j hj => by
      show H2.1 2 (578 * (i' + 1) + j) = H.1 2 (578 * (i' + 1) + j)
      rw [g2, if_neg (by omega)]
    rcases p1 with ⟨z, _⟩ | ⟨z, v1, Hb, t, x1⟩ | ⟨z, v1, Hb, t, x1⟩
    · exact absurd d2 z
    · have T := Take_R t b1 st (by omega) (fun cc h => by omega)
      refine ⟨v2.trans v1.symm, ?_⟩
      subst z
      have e1 : ∀ cc k, cc ≠ 2 → cc ≠ 3 → cc ≠ 22 → H2.1 cc k = Hb.1 cc k := fun cc k a b c => by rw [gf cc k a b, x1, wI1c c]
      have e2 : ∀ cc k, cc ≠ 2 → cc ≠ 3 → cc ≠ 22 → ¬ (40 ≤ cc ∧ cc ≤ 44) → ¬ (63 ≤ cc ∧ cc ≤ 66) → ¬ (80 ≤ cc ∧ cc ≤ 88) → cc ≠ 101 → H2.1 cc k = H.1 cc k := fun cc k a b c d e f g => (e1 cc k a b c).trans (T.2.1 cc (by omega) (by omega) (by omega) (by omega) k)
      have e22 : ∀ k, H2.1 22 k = if k = 0 then 1 else H.1 22 k := fun k => by rw [gf 22 k (by omega) (by omega), x1, wIp, T.2.1 22 (by omega) (by omega) (by omega) (by omega)]
      refine Inv_im I (fun cc k x1 x2 x3 x4 x5 x6 x7 x8 => e2 cc k x1 x2 x3 (by omega) (by omega) (by omega) x7) ?_ hA (fun i' hi => ?_) (fun i' hi => ?_) (fun _ => ?_) (fun w => ?_) ?_ ?_
      · rw [x2]; show H1.2 = _; rw [x1]; exact T.2.2.1
      · rw [g3]
        by_cases u : i' = 0
        · subst u; exact ⟨Or.inr (if_pos rfl), fun _ => StW_q hI b1⟩
        · have y := im0 i' hi
          have u' : i' ≠ (0 : Int).toNat := u
          rw [if_neg u']
          exact ⟨y.1, fun w => StW_q (hO i' hi u) (y.2 w)⟩
      · rw [e22, g3]
        by_cases u : i' = 0
        · rw [if_pos u]; exact (if_pos u).symm
        · rw [if_neg u]; exact (c2 i' hi).trans (if_neg u).symm
      · exact StR_q hI b1 (StR_cg (fun cc k hc => e1 cc k (by omega) (by omega) (by omega)) T.1)
      · rw [g3, if_neg (by decide)] at w
        exact StR_q (hO 1 (by omega) (by decide)) ((im0 1 (by omega)).2 w) (StR_cg (fun cc k hc => e2 cc k (by omega) (by omega) (by omega) (by omega) (by omega) (by omega) (by omega)) (c4 w))
      · rw [e1 63 4 (by omega) (by omega) (by omega), T.2.2.2]; omega
      · rw [e2 67 4 (by omega) (by omega) (by omega) (by omega) (by omega) (by omega) (by omega)]; exact c6
    · have T := Take_R t b1 st (by omega) (fun cc h => by omega)
      refine ⟨v2.trans v1.symm, ?_⟩
      subst z
      have e1 : ∀ cc k, cc ≠ 2 → cc ≠ 3 → cc ≠ 22 → H2.1 cc k = Hb.1 cc k := fun cc k a b c => by rw [gf cc k a b, x1, wI1c c]
      have e2 : ∀ cc k, cc ≠ 2 → cc ≠ 3 → cc ≠ 22 → ¬ (45 ≤ cc ∧ cc ≤ 49) → ¬ (67 ≤ cc ∧ cc ≤ 70) → ¬ (89 ≤ cc ∧ cc ≤ 97) → cc ≠ 103 → H2.1 cc k = H.1 cc k := fun cc k a b c d e f g => (e1 cc k a b c).trans (T.2.1 cc (by omega) (by omega) (by omega) (by omega) k)
      have e22 : ∀ k, H2.1 22 k = if k = 1 then 1 else H.1 22 k := fun k => by rw [gf 22 k (by omega) (by omega), x1, wIp, T.2.1 22 (by omega) (by omega) (by omega) (by omega)]
      refine Inv_im I (fun cc k x1 x2 x3 x4 x5 x6 x7 x8 => e2 cc k x1 x2 x3 (by omega) (by omega) (by omega) x8) ?_ hA (fun i' hi => ?_) (fun i' hi => ?_) (fun w => ?_) (fun _ => ?_) ?_ ?_
      · rw [x2]; show H1.2 = _; rw [x1]; exact T.2.2.1
      · rw [g3]
        by_cases u : i' = 1
        · subst u; exact ⟨Or.inr (if_pos rfl), fun _ => StW_q hI b1⟩
        · have y := im0 i' hi
          have u' : i' ≠ (1 : Int).toNat := u
          rw [if_neg u']
          exact ⟨y.1, fun w => StW_q (hO i' hi u) (y.2 w)⟩
      · rw [e22, g3]
        by_cases u : i' = 1
        · rw [if_pos u]; exact (if_pos u).symm
        · rw [if_neg u]; exact (c2 i' hi).trans (if_neg u).symm
      · rw [g3, if_neg (by decide)] at w
        exact StR_q (hO 0 (by omega) (by decide)) ((im0 0 (by omega)).2 w) (StR_cg (fun cc k hc => e2 cc k (by omega) (by omega) (by omega) (by omega) (by omega) (by omega) (by omega)) (c3 w))
      · exact StR_q hI b1 (StR_cg (fun cc k hc => e1 cc k (by omega) (by omega) (by omega)) T.1)
      · rw [e2 63 4 (by omega) (by omega) (by omega) (by omega) (by omega) (by omega) (by omega)]; exact c5
      · rw [e1 67 4 (by omega) (by omega) (by omega), T.2.2.2]; omega

theorem b_restore {H : ZH} {n : Nat} (ok : okZ H) (I : Inv H n) (hn : n ≤ 511) {i : Int} (i1 : -2147483648 ≤ i) (i2 : i ≤ 2147483647)  : BthI mX10_restore mX11_restore [.int (zN (i))] H n := by
  have b1 := I.2.2.1.1
  have im0 := I.2.2.1.2
  have c2 := I.2.2.2.1.2.1
  have c3 := I.2.2.2.1.2.2.1
  have c4 := I.2.2.2.1.2.2.2.1
  have c5 := I.2.2.2.1.2.2.2.2.1
  have c6 := I.2.2.2.1.2.2.2.2.2
  have o0 : H.1 22 0 ≠ 0 → H.1 3 0 = 1 := fun z => by
    rw [c2 0 (by omega)] at z
    rcases (im0 0 (by omega)).1 with y | y
    · exact absurd y z
    · exact y
  have o1 : H.1 22 1 ≠ 0 → H.1 3 1 = 1 := fun z => by
    rw [c2 1 (by omega)] at z
    rcases (im0 1 (by omega)).1 with y | y
    · exact absurd y z
    · exact y
  refine ⟨_, c_X10_restore (d := 37) (H := H) ok (i := i) (i1 := i1) (i2 := i2) (cn := (Inv_cn I (by omega))) (hz0 := c5) (hz1 := c6), fun r H1 ok1 p1 => ?_⟩
  have lo : Lo H H1 := by
    rcases p1 with ⟨_, _, x⟩ | ⟨_, _, _, x⟩ | ⟨_, hm, _, Hb, t, x⟩ | ⟨_, hm, _, Hb, t, x⟩
    · rw [x]; exact Lo_b _ H
    · rw [x]; exact Lo_b _ H
    · have T := Take_R t ((im0 0 (by omega)).2 (o0 hm)) (c3 (o0 hm)) (by omega) (fun cc h => by omega)
      rw [x]
      exact ⟨fun cc h => funext (fun k => by rw [wI1c (by omega), wI1c (by omega)]; exact T.2.1 cc (by omega) (by omega) (by omega) (by omega) k), fun cc h => by show Hb.2 cc = _; rw [T.2.2.1]⟩
    · have T := Take_R t ((im0 1 (by omega)).2 (o1 hm)) (c4 (o1 hm)) (by omega) (fun cc h => by omega)
      rw [x]
      exact ⟨fun cc h => funext (fun k => by rw [wI1c (by omega), wI1c (by omega)]; exact T.2.1 cc (by omega) (by omega) (by omega) (by omega) k), fun cc h => by show Hb.2 cc = _; rw [T.2.2.1]⟩
  refine ⟨_, c_X11_restore (d := 38) (H := H1) ok1 (i := i) (i1 := i1) (i2 := i2) (cm := (Lo_cm I (by omega) lo)) (th := (Lo_th I lo)), fun r2 H2 ok2 p2 => ?_⟩
  rcases p1 with ⟨hi, v1, x1⟩ | ⟨hi, hm0, v1, x1⟩ | ⟨hi, hm0, v1, Hb, t, x1⟩ | ⟨hi, hm0, v1, Hb, t, x1⟩
  · rcases p2 with ⟨d2, v2, x2⟩ | ⟨d2, _⟩ | ⟨d2, _⟩
    · refine ⟨v2.trans v1.symm, ?_⟩; rw [x2, x1]; exact Inv_bump _ I
    · exact absurd d2 hi
    · exact absurd d2 hi
  · rcases p2 with ⟨d2, _⟩ | ⟨d2, e2, v2, x2⟩ | ⟨d2, e2, _⟩
    · exact absurd hi d2
    · refine ⟨v2.trans v1.symm, ?_⟩; rw [x2, x1]; exact Inv_bump _ I
    · rw [lo.1 3 (by omega), ← c2 i.toNat (by omega)] at e2
      exact absurd hm0 e2
  · have hm := o0 hm0
    have wq := (im0 0 (by omega)).2 hm
    have T := Take_R t wq (c3 hm) (by omega) (fun cc h => by omega)
    subst hi
    rcases p2 with ⟨d2, _⟩ | ⟨d2, e2, _⟩ | ⟨d2, e2, v2, x2⟩
    · exact absurd (show 0 ≤ (0 : Int) ∧ (0 : Int) ≤ 1 by omega) d2
    · rw [lo.1 3 (by omega)] at e2
      have e3 : H.1 3 0 = 0 := e2
      omega
    · refine ⟨v2.trans v1.symm, ?_⟩
      rw [Lo_2 lo] at x2
      have g2 : ∀ k, H2.1 2 k = if k < 578 then imq H 0 k else H.1 2 k := fun k => by rw [x2, wA1]; rfl
      have gf : ∀ cc k, cc ≠ 2 → ¬ (cc = 20 ∧ k = 8) → ¬ (cc = 119 ∧ k = 0) → H2.1 cc k = Hb.1 cc k := fun cc k a b c => by rw [x2, wA1c a, x1, wIg, if_neg c, wIg, if_neg b]
      have e119 : H2.1 119 0 = -1 := by rw [x2, wA1c (by omega), x1, wI1]
      have e208 : H2.1 20 8 = 0 := by rw [x2, wA1c (by omega), x1, wI1c (by omega), wI1]
      have hI : ∀ j, j < 578 → H2.1 2 j = imq H 0 j := fun j hj => by rw [g2, if_pos hj]
      have h2 : H2.2 = H.2 := by
        rw [x2]; show H1.2 = _
        rw [x1]; exact T.2.2.1
      exact Inv_up I (fun cc k y1 y2 y3 y4 y5 y6 y7 => (gf cc k y1 y6 y7).trans (T.2.1 cc (by omega) (by omega) (by omega) (by omega) k)) h2 (fun j hj => by rw [g2, if_neg (by omega)]) (StW_q hI wq) (StR_q hI wq (StR_cg (fun cc k hc => gf cc k (by omega) (by omega) (by omega)) T.1)) ⟨fun z => absurd e208 z, SpK_no e119⟩
  · have hm := o1 hm0
    have wq := (im0 1 (by omega)).2 hm
    have T := Take_R t wq (c4 hm) (by omega) (fun cc h => by omega)
    subst hi
    rcases p2 with ⟨d2, _⟩ | ⟨d2, e2, _⟩ | ⟨d2, e2, v2, x2⟩
    · exact absurd (show 0 ≤ (1 : Int) ∧ (1 : Int) ≤ 1 by omega) d2
    · rw [lo.1 3 (by omega)] at e2
      have e3 : H.1 3 1 = 0 := e2
      omega
    · refine ⟨v2.trans v1.symm, ?_⟩
      rw [Lo_2 lo] at x2
      have g2 : ∀ k, H2.1 2 k = if k < 578 then imq H 1 k else H.1 2 k := fun k => by rw [x2, wA1]; rfl
      have gf : ∀ cc k, cc ≠ 2 → ¬ (cc = 20 ∧ k = 8) → ¬ (cc = 119 ∧ k = 0) → H2.1 cc k = Hb.1 cc k := fun cc k a b c => by rw [x2, wA1c a, x1, wIg, if_neg c, wIg, if_neg b]
      have e119 : H2.1 119 0 = -1 := by rw [x2, wA1c (by omega), x1, wI1]
      have e208 : H2.1 20 8 = 0 := by rw [x2, wA1c (by omega), x1, wI1c (by omega), wI1]
      have hI : ∀ j, j < 578 → H2.1 2 j = imq H 1 j := fun j hj => by rw [g2, if_pos hj]
      have h2 : H2.2 = H.2 := by
        rw [x2]; show H1.2 = _
        rw [x1]; exact T.2.2.1
      exact Inv_up I (fun cc k y1 y2 y3 y4 y5 y6 y7 => (gf cc k y1 y6 y7).trans (T.2.1 cc (by omega) (by omega) (by omega) (by omega) k)) h2 (fun j hj => by rw [g2, if_neg (by omega)]) (StW_q hI wq) (StR_q hI wq (StR_cg (fun cc k hc => gf cc k (by omega) (by omega) (by omega)) T.1)) ⟨fun z => absurd e208 z, SpK_no e119⟩
