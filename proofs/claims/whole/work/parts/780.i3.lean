/-! GROUP I3: calls that change the STATE. -/
theorem WFS_q {A B : Nat → Int} (h : ∀ j, j < 40 → B j = A j) (w : WFS A) : WFS B := by
  obtain ⟨w0, w1, wc, w34, w35, w36, w37, w38, w39⟩ := w
  refine ⟨by rw [h 0 (by omega)]; exact w0, by rw [h 1 (by omega)]; exact w1, fun c hc => ?_, by rw [h 34 (by omega)]; exact w34, by rw [h 35 (by omega)]; exact w35, by rw [h 36 (by omega)]; exact w36, by rw [h 37 (by omega)]; exact w37, by rw [h 38 (by omega)]; exact w38, by rw [h 39 (by omega)]; exact w39⟩
  rw [h 1 (by omega)] at hc
  rw [h (2 + c) (by omega), h (10 + c) (by omega), h (18 + c) (by omega), h (26 + c) (by omega), h 0 (by omega)]
  exact wc c hc
theorem WFL_q {A B : Nat → Int} (h : ∀ j, 40 ≤ j → j < 477 → B j = A j) (w : WFL A) : WFL B := by
  obtain ⟨w0, wl⟩ := w
  refine ⟨by rw [h 40 (by omega) (by omega)]; exact w0, fun l hl => ?_⟩
  rw [h 40 (by omega) (by omega)] at hl
  obtain ⟨y1, y2, y3, y4, y5⟩ := wl l hl
  rw [h (41 + l) (by omega) (by omega), h (53 + l) (by omega) (by omega), h (65 + l) (by omega) (by omega)]
  have hr : ∀ x : Nat, (x : Int) ≤ A (65 + l) - A (53 + l) → rdep B (A (53 + l)).toNat x = rdep A (A (53 + l)).toNat x := fun x hx => rdep_cg2 x (fun j h1 h2 => h j (by omega) (by omega))
  refine ⟨y1, y2, ?_, by rw [hr _ (by omega)]; exact y4, fun x hx => ?_⟩
  · by_cases e0 : l = 0
    · rw [if_pos e0] at y3 ⊢; exact y3
    · rw [if_neg e0] at y3 ⊢
      rw [h (65 + (l - 1)) (by omega) (by omega)]; exact y3
  · rw [hr x (by omega), h (77 + 2 * ((A (53 + l)).toNat + x)) (by omega) (by omega), h (78 + 2 * ((A (53 + l)).toNat + x)) (by omega) (by omega)]
    exact y5 x hx
theorem WFP_q {A B : Nat → Int} (h : ∀ j, 477 ≤ j → j < 558 → B j = A j) (w : WFP A) : WFP B := by
  obtain ⟨w0, w1, w2⟩ := w
  refine ⟨by rw [h 477 (by omega) (by omega)]; exact w0, fun p hp => ?_, fun m hm => ?_⟩
  · rw [h (478 + p) (by omega) (by omega), h (490 + p) (by omega) (by omega), h (502 + p) (by omega) (by omega), h (514 + p) (by omega) (by omega), h (526 + p) (by omega) (by omega), h (538 + p) (by omega) (by omega)]; exact w1 p hp
  · rw [h (550 + m) (by omega) (by omega), h (554 + m) (by omega) (by omega)]; exact w2 m hm
theorem WFY_q {A B : Nat → Int} (h : ∀ j, 558 ≤ j → j < 578 → B j = A j) (w : WFY A) : WFY B := fun i hi => by rw [h (558 + i) (by omega) (by omega)]; exact w i hi
theorem lend_q {A B : Nat → Int} (h : ∀ j, 40 ≤ j → j < 477 → B j = A j) (w : WFL A) : lend B = lend A := by
  have w0 := w.1
  unfold lend
  rw [h 40 (by omega) (by omega), h (65 + ((A 40).toNat - 1)) (by omega) (by omega)]
theorem RepSc_q {H H1 : ZH} {s : Nat} {A B : Nat → Int} (hs : ∀ cc k, s ≤ cc → cc ≤ s + 4 → H1.1 cc k = H.1 cc k) (h : ∀ j, j < 40 → B j = A j) (h8 : A 1 ≤ 8) (r : RepSc H s A) : RepSc H1 s B := by
  obtain ⟨r0, r1, rc, r6, r7, r8, r9, r10, r11⟩ := r
  have e : ∀ k, H1.1 s k = H.1 s k := fun k => hs s k (by omega) (by omega)
  refine ⟨by rw [e, h 0 (by omega)]; exact r0, by rw [e, h 1 (by omega)]; exact r1, fun c hc => ?_, by rw [e, h 34 (by omega)]; exact r6, by rw [e, h 35 (by omega)]; exact r7, by rw [e, h 36 (by omega)]; exact r8, by rw [e, h 37 (by omega)]; exact r9, by rw [e, h 38 (by omega)]; exact r10, by rw [e, h 39 (by omega)]; exact r11⟩
  rw [h 1 (by omega)] at hc
  rw [hs (s + 1) c (by omega) (by omega), hs (s + 2) c (by omega) (by omega), hs (s + 3) c (by omega) (by omega), hs (s + 4) c (by omega) (by omega), h (2 + c) (by omega), h (10 + c) (by omega), h (18 + c) (by omega), h (26 + c) (by omega)]
  exact rc c hc
theorem RepLw_q {H H1 : ZH} {s : Nat} {A B : Nat → Int} (hs : ∀ cc k, s ≤ cc → cc ≤ s + 3 → H1.1 cc k = H.1 cc k) (h : ∀ j, 40 ≤ j → j < 477 → B j = A j) (w : WFL A) (r : RepLwA H s A ∧ H.1 s 4 = lend A) : RepLwA H1 s B ∧ H1.1 s 4 = lend B := by
  obtain ⟨⟨r0, r1⟩, r2⟩ := r
  have w0 := w.1
  refine ⟨⟨by rw [hs s 0 (by omega) (by omega), h 40 (by omega) (by omega)]; exact r0, fun l hl => ?_⟩, by rw [hs s 4 (by omega) (by omega), lend_q h w]; exact r2⟩
  rw [h 40 (by omega) (by omega)] at hl
  have wl := (w.2 l hl).2.1
  rw [hs (s + 1) l (by omega) (by omega), hs (s + 2) l (by omega) (by omega), h (41 + l) (by omega) (by omega), h (65 + l) (by omega) (by omega)]
  refine ⟨(r1 l hl).1, (r1 l hl).2.1, fun i hi => ?_⟩
  rw [hs (s + 3) i (by omega) (by omega), h (77 + 2 * i) (by omega) (by omega), h (78 + 2 * i) (by omega) (by omega)]
  exact (r1 l hl).2.2 i hi
theorem RepP_q {H H1 : ZH} {s : Nat} {A B : Nat → Int} (hs : ∀ cc k, s ≤ cc → cc ≤ s + 8 → H1.1 cc k = H.1 cc k) (h : ∀ j, 477 ≤ j → j < 558 → B j = A j) (r : RepPA H s A) : RepPA H1 s B := by
  obtain ⟨r0, r1, r2⟩ := r
  refine ⟨by rw [hs s 0 (by omega) (by omega), h 477 (by omega) (by omega)]; exact r0, fun p hp => ?_, fun m hm => ?_⟩
  · rw [hs (s + 1) p (by omega) (by omega), hs (s + 2) p (by omega) (by omega), hs (s + 3) p (by omega) (by omega), hs (s + 4) p (by omega) (by omega), hs (s + 5) p (by omega) (by omega), hs (s + 6) p (by omega) (by omega), h (478 + p) (by omega) (by omega), h (490 + p) (by omega) (by omega), h (502 + p) (by omega) (by omega), h (514 + p) (by omega) (by omega), h (526 + p) (by omega) (by omega), h (538 + p) (by omega) (by omega)]; exact r1 p hp
  · rw [hs (s + 7) m (by omega) (by omega), hs (s + 8) m (by omega) (by omega), h (550 + m) (by omega) (by omega), h (554 + m) (by omega) (by omega)]; exact r2 m hm
theorem RepY_q {H H1 : ZH} {s : Nat} {A B : Nat → Int} (hs : ∀ k, H1.1 s k = H.1 s k) (h : ∀ j, 558 ≤ j → j < 578 → B j = A j) (r : RepYA H s A) : RepYA H1 s B := fun i hi => by rw [hs i, h (558 + i) (by omega) (by omega)]; exact r i hi
theorem SpK_q {H H1 : ZH} {A B : Nat → Int} (h0 : H1.1 119 0 = H.1 119 0) (h2 : ∀ cc k, cc = 120 ∨ cc = 121 → H1.2 cc k = H.2 cc k) (wp : WFP A) (h : ∀ j, 477 ≤ j → j < 558 → ¬ (538 ≤ j ∧ j < 550) → B j = A j) (s : SpK H A) : SpK H1 B := by
  have e477 := h 477 (by omega) (by omega) (by omega)
  have n12 := wp.1
  have z := (zo_ag (A := A) (B := B) h (N := (A 477).toNat) (by omega)).2.2
  refine ⟨by rw [h0]; exact s.1, fun x hx => ?_⟩
  rw [h0] at hx
  rw [h2 120 x (by omega), h2 121 x (by omega), e477, (z _ x (Nat.le_refl _)).1, (z _ x (Nat.le_refl _)).2]
  exact s.2 x hx
theorem SpK_no {H : ZH} {A : Nat → Int} (h : H.1 119 0 = -1) : SpK H A := ⟨by omega, fun x hx => by omega⟩
theorem TrD_q {H : ZH} {A B : Nat → Int} (h : ∀ j, j < 477 → B j = A j) (ws : WFS A) (wl : WFL A) (t : TrD H 113 A (-1)) : TrD H 113 B (-1) := by
  unfold TrD at t ⊢
  have e : (TS B (-1) (-1)) = (TS A (-1) (-1)) := funext (fun g => TS_ag h ws wl)
  rw [e]
  unfold TrS at t ⊢
  rw [h 1 (by omega)]
  exact t
/-- a change of the STATE -/
theorem Inv_up {H H2 : ZH} {n : Nat} (I : Inv H n) (h1 : ∀ cc k, cc ≠ 2 → ¬ (35 ≤ cc ∧ cc ≤ 39) → ¬ (59 ≤ cc ∧ cc ≤ 62) → ¬ (71 ≤ cc ∧ cc ≤ 79) → cc ≠ 99 → ¬ (cc = 20 ∧ k = 8) → ¬ (cc = 119 ∧ k = 0) → H2.1 cc k = H.1 cc k) (h2 : H2.2 = H.2) (hA : ∀ j, 578 ≤ j → H2.1 2 j = H.1 2 j) (hW : StW (H2.1 2)) (hR : StR H2 35 59 71 99 (H2.1 2)) (hK : (H2.1 20 8 ≠ 0 → TrD H2 113 (H2.1 2) (-1)) ∧ SpK H2 (H2.1 2)) : Inv H2 (n + 1) := by
  obtain ⟨cn, ⟨a1, a2, a3, a4, a5, a6, a7⟩, ⟨b1, b2⟩, ⟨c1, c2, c3, c4, c5, c6⟩, ⟨d1, d2, d3, d4, d5⟩, _⟩ := I
  have e : ∀ cc, cc ≠ 2 → cc ≠ 20 → cc ≠ 119 → ¬ (35 ≤ cc ∧ cc ≤ 39) → ¬ (59 ≤ cc ∧ cc ≤ 62) → ¬ (71 ≤ cc ∧ cc ≤ 79) → cc ≠ 99 → ∀ k, H2.1 cc k = H.1 cc k := fun cc x1 x2 x3 x4 x5 x6 x7 k => h1 cc k x1 x4 x5 x6 x7 (by omega) (by omega)
  have f : ∀ cc, cc < 20 → cc ≠ 2 → ∀ k, H2.1 cc k = H.1 cc k := fun cc x y => e cc y (by omega) (by omega) (by omega) (by omega) (by omega) (by omega)
  have ei : ∀ i, imq H2 i = imq H i := fun i => by funext j; exact hA _ (by omega)
  have e4 : H2.1 4 = H.1 4 := funext (f 4 (by omega) (by omega))
  have e21 : H2.1 21 = H.1 21 := funext (e 21 (by omega) (by omega) (by omega) (by omega) (by omega) (by omega) (by omega))
  refine ⟨Cn_s (e 25 (by omega) (by omega) (by omega) (by omega) (by omega) (by omega) (by omega)) (f 1 (by omega) (by omega)) cn, ⟨(f 0 (by omega) (by omega) 0).trans a1, (f 0 (by omega) (by omega) 21).trans a2, (f 0 (by omega) (by omega) 22).trans a3, fun j hj => (f 6 (by omega) (by omega) j).trans (a4 j hj), by rw [f 0 (by omega) (by omega) 6]; exact a5, fun k => by rw [e4]; exact a6 k, fun r hr => by rw [f 17 (by omega) (by omega) r, f 18 (by omega) (by omega) r]; exact a7 r hr⟩, ⟨hW, fun i hi => by rw [f 3 (by omega) (by omega) i, ei i]; exact b2 i hi⟩, ⟨hR, fun i hi => ?_, fun z => ?_, fun z => ?_, ?_, ?_⟩, ⟨RepR_cg (fun cc k hc => e cc (by omega) (by omega) (by omega) (by omega) (by omega) (by omega) (by omega) k) (fun cc k _ => by rw [h2]) d1, ?_, by rw [e4]; exact TpC_c e21 d3, ?_, ?_⟩, hK⟩
  · rw [e 22 (by omega) (by omega) (by omega) (by omega) (by omega) (by omega) (by omega) i, f 3 (by omega) (by omega) i]; exact c2 i hi
  · rw [ei 0]; rw [f 3 (by omega) (by omega) 0] at z
    exact StR_cg (fun cc k hc => e cc (by omega) (by omega) (by omega) (by omega) (by omega) (by omega) (by omega) k) (c3 z)
  · rw [ei 1]; rw [f 3 (by omega) (by omega) 1] at z
    exact StR_cg (fun cc k hc => e cc (by omega) (by omega) (by omega) (by omega) (by omega) (by omega) (by omega) k) (c4 z)
  · rw [e 63 (by omega) (by omega) (by omega) (by omega) (by omega) (by omega) (by omega) 4]; exact c5
  · rw [e 67 (by omega) (by omega) (by omega) (by omega) (by omega) (by omega) (by omega) 4]; exact c6
  · rw [h1 20 1 (by omega) (by omega) (by omega) (by omega) (by omega) (by omega) (by omega), f 0 (by omega) (by omega) 6]; exact d2
  · rw [e 28 (by omega) (by omega) (by omega) (by omega) (by omega) (by omega) (by omega) 2, f 0 (by omega) (by omega) 16]; exact d4
  · rw [e 28 (by omega) (by omega) (by omega) (by omega) (by omega) (by omega) (by omega) 3, f 0 (by omega) (by omega) 17]; exact d5
theorem RepSc_g {H : ZH} {s : Nat} {q : Nat → Int} {v : Int} {k : Nat} (hk : 6 ≤ k) (h8 : q 1 ≤ 8) (r : RepSc H s q) : RepSc (wI H s k v) s (upA q (28 + k) v) := by
  obtain ⟨r0, r1, rc, r6, r7, r8, r9, r10, r11⟩ := r
  have w : ∀ j, H.1 s j = q (28 + j) → (wI H s k v).1 s j = upA q (28 + k) v (28 + j) := fun j hj => by
    by_cases z : j = k
    · rw [z, wI1, upA_at]
    · rw [wI1k z, upA_ne (by omega)]; exact hj
  refine ⟨?_, ?_, fun c hc => ?_, w 6 r6, w 7 r7, w 8 r8, w 9 r9, w 10 r10, w 11 r11⟩
  · rw [wI1k (by omega), upA_ne (by omega)]; exact r0
  · rw [wI1k (by omega), upA_ne (by omega)]; exact r1
  · rw [upA_ne (by omega)] at hc
    rw [wI1c (by omega), wI1c (by omega), wI1c (by omega), wI1c (by omega), upA_ne (by omega), upA_ne (by omega), upA_ne (by omega), upA_ne (by omega)]
    exact rc c hc
/-- a setting of THE SCENE changes on both sides -/
theorem Inv_set {H : ZH} {n k : Nat} {v : Int} (I : Inv H n) (hk : 6 ≤ k ∧ k ≤ 10) (hv : 0 ≤ v ∧ (28 + k = 34 → v ≤ 255) ∧ (28 + k = 35 → v ≤ 30) ∧ (28 + k = 36 → v ≤ 20) ∧ (28 + k = 37 → v ≤ 60) ∧ (28 + k = 38 → 1 ≤ v ∧ v ≤ 200) ∧ (28 + k = 39 → v ≤ 400)) : Inv (wI (wI (wI H 20 8 0) 35 k v) 2 (28 + k) v) (n + 1) := by
  have e2 : (wI (wI (wI H 20 8 0) 35 k v) 2 (28 + k) v).1 2 = upA (H.1 2) (28 + k) v := by rw [wI_up, wIf (by omega), wIf (by omega)]
  have hq : ∀ j, 40 ≤ j → upA (H.1 2) (28 + k) v j = H.1 2 j := fun j hj => upA_ne (by omega)
  have st := I.2.2.2.1.1
  have f : ∀ cc j, cc ≠ 2 → cc ≠ 35 → cc ≠ 20 → (wI (wI (wI H 20 8 0) 35 k v) 2 (28 + k) v).1 cc j = H.1 cc j := fun cc j a b c => by rw [wI1c a, wI1c b, wI1c c]
  refine Inv_up I (fun cc j x1 x2 x3 x4 x5 x6 x7 => by rw [wI1c x1, wI1c (by omega), wIg, if_neg x6]) rfl (fun j hj => by rw [e2]; exact hq j (by omega)) ?_ ?_ ⟨fun z => ?_, ?_⟩
  · rw [e2]
    exact ⟨WFS_i (Inv_ws I) (by omega) hv, WFL_q (fun j h _ => hq j h) (Inv_wl I), WFP_q (fun j h _ => hq j (by omega)) (Inv_wp I), WFY_q (fun j h _ => hq j (by omega)) (Inv_wy I)⟩
  · rw [e2]
    refine ⟨?_, RepLw_q (fun cc j a b => f cc j (by omega) (by omega) (by omega)) (fun j h _ => hq j h) (Inv_wl I) st.2.1, RepP_q (fun cc j a b => f cc j (by omega) (by omega) (by omega)) (fun j h _ => hq j (by omega)) st.2.2.1, RepY_q (fun j => f 99 j (by omega) (by omega) (by omega)) (fun j h _ => hq j (by omega)) st.2.2.2⟩
    exact RepSc_q (H := wI (wI H 20 8 0) 35 k v) (fun cc j a b => wI1c (by omega)) (fun _ _ => rfl) (by rw [upA_ne (by omega)]; exact (Inv_ws I).2.1.2) (RepSc_g hk.1 (Inv_ws I).2.1.2 (RepSc_q (H := H) (fun cc j a b => wI1c (by omega)) (fun _ _ => rfl) (Inv_ws I).2.1.2 st.1))
  · rw [wI1c (by omega), wI1c (by omega), wI1] at z; exact absurd rfl z
  · rw [e2]
    exact SpK_q (H := H) (f 119 0 (by omega) (by omega) (by omega)) (fun cc j _ => rfl) (Inv_wp I) (fun j h _ _ => hq j (by omega)) (Inv_sk I)
theorem trnew_bd {A : Nat → Int} {a o : Int} (w : 0 ≤ A 34 ∧ A 34 ≤ 255) (h : 0 ≤ a ∧ a ≤ 7) : 0 ≤ trnew A a o ∧ trnew A a o ≤ 255 := by
  unfold trnew
  split
  · unfold zandn
    have p7 : (2 : Int) ^ a.toNat ≤ 2 ^ 7 := by
      rcases (show a.toNat = 0 ∨ a.toNat = 1 ∨ a.toNat = 2 ∨ a.toNat = 3 ∨ a.toNat = 4 ∨ a.toNat = 5 ∨ a.toNat = 6 ∨ a.toNat = 7 by omega) with e | e | e | e | e | e | e | e <;> rw [e] <;> decide
    have p0 : (0 : Int) < 2 ^ a.toNat := Int.pow_pos (by decide)
    split
    · next z =>
      have d : ¬ A 34 < 2 ^ a.toNat := fun y => by rw [Int.ediv_eq_zero_of_lt w.1 y] at z; exact absurd z (by decide)
      omega
    · exact w
  · have xb : (A 34).toNat ||| 2 ^ a.toNat < 2 ^ 8 := Nat.or_lt_two_pow (by omega) (Nat.pow_lt_pow_right (by decide) (by omega))
    omega
/-- what lies behind THE LAW changes on both sides -/
theorem Inv_bk {H H2 : ZH} {n : Nat} (I : Inv H n) (h1 : ∀ cc k, cc ≠ 2 → ¬ (71 ≤ cc ∧ cc ≤ 79) → cc ≠ 99 → ¬ (cc = 119 ∧ k = 0) → H2.1 cc k = H.1 cc k) (h2 : H2.2 = H.2) (hA : ∀ j, j < 477 ∨ 578 ≤ j → H2.1 2 j = H.1 2 j) (hP : WFP (H2.1 2)) (hY : WFY (H2.1 2)) (rP : RepPA H2 71 (H2.1 2)) (rY : RepYA H2 99 (H2.1 2)) (hs : SpK H2 (H2.1 2)) : Inv H2 (n + 1) := by
  have st := I.2.2.2.1.1
  have f : ∀ cc j, cc ≠ 2 → ¬ (71 ≤ cc ∧ cc ≤ 79) → cc ≠ 99 → cc ≠ 119 → H2.1 cc j = H.1 cc j := fun cc j a b c d => h1 cc j a b c (by omega)
  refine Inv_up I (fun cc j x1 x2 x3 x4 x5 x6 x7 => h1 cc j x1 x4 x5 x7) h2 (fun j hj => hA j (by omega)) ⟨WFS_q (fun j h => hA j (by omega)) (Inv_ws I), WFL_q (fun j _ h => hA j (by omega)) (Inv_wl I), hP, hY⟩ ⟨RepSc_q (fun cc j a b => f cc j (by omega) (by omega) (by omega) (by omega)) (fun j h => hA j (by omega)) (Inv_ws I).2.1.2 st.1, RepLw_q (fun cc j a b => f cc j (by omega) (by omega) (by omega) (by omega)) (fun j _ h => hA j (by omega)) (Inv_wl I) st.2.1, rP, rY⟩ ⟨fun z => ?_, hs⟩
  rw [f 20 8 (by omega) (by omega) (by omega) (by omega)] at z
  exact TrD_q (fun j h => hA j (by omega)) (Inv_ws I) (Inv_wl I) (TrS_cg (Inv_tv I z) (fun cc j _ _ => by rw [h2]) (f 113 6 (by omega) (by omega) (by omega) (by omega)))
theorem S_measure_6 {m c v : Int} (h : (S_measure m c v).2 = 6) : (0 ≤ m ∧ m ≤ 3) ∧ (1 ≤ c ∧ c ≤ 99) ∧ (0 ≤ v ∧ v ≤ 100) := by
  unfold S_measure at h
  by_cases z : 0 ≤ m ∧ m ≤ 3
  · rw [if_pos z] at h
    by_cases y : (1 ≤ c ∧ c ≤ 99) ∧ (0 ≤ v ∧ v ≤ 100)
    · exact ⟨z, y⟩
    · rw [if_neg y] at h; exact absurd h (by decide)
  · rw [if_neg z] at h; exact absurd h (by decide)
theorem S_pay_6 {A : Nat → Int} {a b c v : Int} (h : (S_pay A a b c v).2 = 6) : (0 ≤ a ∧ a ≤ 1) ∧ (0 ≤ b ∧ b ≤ 1) ∧ (0 ≤ c ∧ c ≤ 4) ∧ (-99 ≤ v ∧ v ≤ 99) := by
  unfold S_pay at h
  by_cases z : ((0 ≤ a ∧ a ≤ 1) ∧ (0 ≤ b ∧ b ≤ 1) ∧ (0 ≤ c ∧ c ≤ 4)) ∧ (-99 ≤ v ∧ v ≤ 99)
  · omega
  · first
    | (rw [if_neg z] at h; exact absurd h (by decide))
    | (rw [if_neg (by omega)] at h; exact absurd h (by decide))

theorem b_trait {H : ZH} {n : Nat} (ok : okZ H) (I : Inv H n) (hn : n ≤ 511) {a o : Int} (a1 : -2147483648 ≤ a) (a2 : a ≤ 2147483647) (o01 : o = 0 ∨ o = 1) : BthI mX10_trait mX11_trait [.int (zN (a)), .int (zN (o))] H n := by
  refine ⟨_, c_X10_trait (d := 38) (H := H) ok (tr := a) (on := o) (on01 := o01) (tr1 := a1) (tr2 := a2) (cn := (Inv_cn I (by omega))) (ws := (Inv_ws I)) (rs := (Inv_rs I)), fun r H1 ok1 p1 => ?_⟩
  obtain ⟨p1, q1⟩ := p1
  have lo : Lo H H1 := by
    rw [q1]
    split
    · exact ⟨fun cc h => funext (fun k => by rw [wI1c (by omega)]; rw [wI1c (by omega)]), fun _ _ => rfl⟩
    · exact Lo_b _ H
  refine ⟨_, c_X11_trait (d := 38) (H := H1) ok1 (tr := a) (on := o) (on01 := o01) (tr1 := a1) (tr2 := a2) (cm := (Lo_cm I (by omega) lo)) (th := (Lo_th I lo)) (ws := (Lo_ws I lo)), fun r2 H2 ok2 p2 => ?_⟩
  obtain ⟨p2, q2⟩ := p2
  rw [Lo_2 lo] at p2 q2
  refine ⟨p2.trans p1.symm, ?_⟩
  by_cases h6 : (S_trait (H.1 2) a).2 = 6
  · rw [if_pos h6] at q1 q2
    have hc : 0 ≤ a ∧ a ≤ 7 := if z : 0 ≤ a ∧ a ≤ 7 then z else (by unfold S_trait at h6; rw [if_neg z] at h6; exact absurd h6 (by decide))
    have w34 := (Inv_ws I).2.2.2.1
    have hv : 0 ≤ trnew (H.1 2) a o ∧ trnew (H.1 2) a o ≤ 255 := trnew_bd w34 hc
    rw [q2, q1]
    exact Inv_set (k := 6) I (by omega) (by omega)
  · rw [if_neg h6] at q1 q2
    rw [q2, q1]; exact Inv_bump _ I

theorem b_set {H : ZH} {n : Nat} (ok : okZ H) (I : Inv H n) (hn : n ≤ 511) {a v : Int} (a1 : -2147483648 ≤ a) (a2 : a ≤ 2147483647) (v1 : -2147483648 ≤ v) (v2 : v ≤ 2147483647)  : BthI mX10_set mX11_set [.int (zN (a)), .int (zN (v))] H n := by
  refine ⟨_, c_X10_set (d := 38) (H := H) ok (what := a) (v := v) (what1 := a1) (what2 := a2) (v1 := v1) (v2 := v2) (cn := (Inv_cn I (by omega))) (ws := (Inv_ws I)) (rs := (Inv_rs I)), fun r H1 ok1 p1 => ?_⟩
  obtain ⟨p1, q1⟩ := p1
  have lo : Lo H H1 := by
    rw [q1]
    split
    · exact ⟨fun cc h => funext (fun k => by rw [wI1c (by omega)]; rw [wI1c (by omega)]), fun _ _ => rfl⟩
    · exact Lo_b _ H
  refine ⟨_, c_X11_set (d := 38) (H := H1) ok1 (what := a) (v := v) (what1 := a1) (what2 := a2) (v1 := v1) (v2 := v2) (cm := (Lo_cm I (by omega) lo)) (th := (Lo_th I lo)), fun r2 H2 ok2 p2 => ?_⟩
  obtain ⟨p2, q2⟩ := p2
  rw [Lo_2 lo] at p2 q2
  refine ⟨p2.trans p1.symm, ?_⟩
  by_cases h6 : (S_set (H.1 2) a v).2 = 6
  · rw [if_pos h6] at q1 q2
    have hc : 0 ≤ a ∧ a ≤ 3 := if z : 0 ≤ a ∧ a ≤ 3 then z else (by unfold S_set at h6; rw [if_neg z] at h6; exact absurd h6 (by decide))
    have hd : (if a = 3 then (1 : Int) else 0) ≤ v ∧ v ≤ (if a = 0 then (30 : Int) else if a = 1 then 20 else if a = 2 then 60 else 200) := if z : (if a = 3 then (1 : Int) else 0) ≤ v ∧ v ≤ (if a = 0 then (30 : Int) else if a = 1 then 20 else if a = 2 then 60 else 200) then z else (by unfold S_set at h6; rw [if_pos hc, if_neg z] at h6; exact absurd h6 (by decide))
    rw [q2, q1]
    rcases (show a = 0 ∨ a = 1 ∨ a = 2 ∨ a = 3 by omega) with e | e | e | e <;> subst e
    · exact Inv_set (k := 7) I (by omega) (by simp at hd; omega)
    · exact Inv_set (k := 8) I (by omega) (by simp at hd; omega)
    · exact Inv_set (k := 9) I (by omega) (by simp at hd; omega)
    · exact Inv_set (k := 10) I (by omega) (by simp at hd; omega)
  · rw [if_neg h6] at q1 q2
    rw [q2, q1]; exact Inv_bump _ I

theorem b_behind {H : ZH} {n : Nat} (ok : okZ H) (I : Inv H n) (hn : n ≤ 511) {a v : Int} (a1 : -2147483648 ≤ a) (a2 : a ≤ 2147483647) (v1 : -2147483648 ≤ v) (v2 : v ≤ 2147483647)  : BthI mX10_behind mX11_behind [.int (zN (a)), .int (zN (v))] H n := by
  refine ⟨_, c_X10_behind (d := 38) (H := H) ok (p := a) (v := v) (p1 := a1) (p2 := a2) (v1 := v1) (v2 := v2) (cn := (Inv_cn I (by omega))) (wp := (Inv_wp I)) (rp := (Inv_rp I)), fun r H1 ok1 p1 => ?_⟩
  obtain ⟨p1, q1⟩ := p1
  have lo : Lo H H1 := by
    rw [q1]
    split
    · exact ⟨fun cc h => funext (fun k => by rw [wI1c (by omega)]), fun _ _ => rfl⟩
    · exact Lo_b _ H
  refine ⟨_, c_X11_behind (d := 37) (H := H1) ok1 (p := a) (v := v) (p1 := a1) (p2 := a2) (v1 := v1) (v2 := v2) (cm := (Lo_cm I (by omega) lo)) (th := (Lo_th I lo)) (wp := (Lo_wp I lo)), fun r2 H2 ok2 p2 => ?_⟩
  obtain ⟨p2, q2⟩ := p2
  rw [Lo_2 lo] at p2 q2
  refine ⟨p2.trans p1.symm, ?_⟩
  by_cases h6 : (S_behind (H.1 2) a v).2 = 6
  · rw [if_pos h6] at q1 q2
    have hc : 0 ≤ a ∧ a ≤ H.1 2 477 - 1 := if z : 0 ≤ a ∧ a ≤ H.1 2 477 - 1 then z else (by unfold S_behind at h6; rw [if_neg z] at h6; exact absurd h6 (by decide))
    have hd : 0 ≤ v ∧ v ≤ 600 := if z : 0 ≤ v ∧ v ≤ 600 then z else (by unfold S_behind at h6; rw [if_pos hc, if_neg z] at h6; exact absurd h6 (by decide))
    have wp := Inv_wp I
    have n12 := wp.1
    have e2 : H2.1 2 = upA (H.1 2) (538 + a.toNat) v := by rw [q2, wI_up, q1, wIf (by omega)]
    have st := I.2.2.2.1.1
    have hq : ∀ j, j < 538 ∨ 550 ≤ j → H2.1 2 j = H.1 2 j := fun j hj => by rw [e2]; exact upA_ne (by omega)
    have f : ∀ cc k, cc ≠ 2 → cc ≠ 77 → H2.1 cc k = H.1 cc k := fun cc k x y => by rw [q2, wI1c x, q1, wI1c y]
    have h2 : H2.2 = H.2 := by rw [q2, q1]; rfl
    refine Inv_bk I (fun cc k x y z u => f cc k x (by omega)) h2 (fun j hj => hq j (by omega)) ⟨by rw [hq 477 (by omega)]; exact wp.1, fun p hp => ?_, fun m hm => ?_⟩ (WFY_q (fun j h _ => hq j (by omega)) (Inv_wy I)) ⟨?_, fun p hp => ?_, fun m hm => ?_⟩ (RepY_q (fun k => f 99 k (by omega) (by omega)) (fun j h _ => hq j (by omega)) st.2.2.2) (SpK_q (f 119 0 (by omega) (by omega)) (fun cc k _ => by rw [h2]) wp (fun j x y z => hq j (by omega)) (Inv_sk I))
    · have w := wp.2.1 p hp
      rw [hq (478 + p) (by omega), hq (490 + p) (by omega), hq (502 + p) (by omega), hq (514 + p) (by omega), hq (526 + p) (by omega), e2]
      refine ⟨w.1, w.2.1, w.2.2.1, w.2.2.2.1, w.2.2.2.2.1, ?_⟩
      by_cases z : p = a.toNat
      · rw [z, upA_at]; exact hd
      · rw [upA_ne (by omega)]; exact w.2.2.2.2.2
    · rw [hq (550 + m) (by omega), hq (554 + m) (by omega)]; exact wp.2.2 m hm
    · rw [f 71 0 (by omega) (by omega), hq 477 (by omega)]; exact st.2.2.1.1
    · have w := st.2.2.1.2.1 p hp
      rw [f 72 p (by omega) (by omega), f 73 p (by omega) (by omega), f 74 p (by omega) (by omega), f 75 p (by omega) (by omega), f 76 p (by omega) (by omega), hq (478 + p) (by omega), hq (490 + p) (by omega), hq (502 + p) (by omega), hq (514 + p) (by omega), hq (526 + p) (by omega)]
      refine ⟨w.1, w.2.1, w.2.2.1, w.2.2.2.1, w.2.2.2.2.1, ?_⟩
      show H2.1 77 p = _
      rw [e2, q2, wI1c (by omega), q1, wIp]
      by_cases z : p = a.toNat
      · rw [if_pos z, z, upA_at]
      · rw [if_neg z, upA_ne (by omega)]; exact w.2.2.2.2.2
    · rw [f 78 m (by omega) (by omega), f 79 m (by omega) (by omega), hq (550 + m) (by omega), hq (554 + m) (by omega)]; exact st.2.2.1.2.2 m hm
  · rw [if_neg h6] at q1 q2
    rw [q2, q1]; exact Inv_bump _ I

theorem b_measure {H : ZH} {n : Nat} (ok : okZ H) (I : Inv H n) (hn : n ≤ 511) {m c v : Int} (m1 : -2147483648 ≤ m) (m2 : m ≤ 2147483647) (c1 : -2147483648 ≤ c) (c2 : c ≤ 2147483647) (v1 : -2147483648 ≤ v) (v2 : v ≤ 2147483647)  : BthI mX10_measure mX11_measure [.int (zN (m)), .int (zN (c)), .int (zN (v))] H n := by
  refine ⟨_, c_X10_measure (d := 38) (H := H) ok (m := m) (cost := c) (left := v) (m1 := m1) (m2 := m2) (cost1 := c1) (cost2 := c2) (left1 := v1) (left2 := v2) (cn := (Inv_cn I (by omega))), fun r H1 ok1 p1 => ?_⟩
  obtain ⟨p1, q1⟩ := p1
  have lo : Lo H H1 := by
    rw [q1]
    split
    · exact ⟨fun cc h => funext (fun k => by rw [wI1c (by omega)]; rw [wI1c (by omega)]; rw [wI1c (by omega)]), fun _ _ => rfl⟩
    · exact Lo_b _ H
  refine ⟨_, c_X11_measure (d := 38) (H := H1) ok1 (m := m) (cost := c) (left := v) (m1 := m1) (m2 := m2) (cost1 := c1) (cost2 := c2) (left1 := v1) (left2 := v2) (cm := (Lo_cm I (by omega) lo)) (th := (Lo_th I lo)), fun r2 H2 ok2 p2 => ?_⟩
  obtain ⟨p2, q2⟩ := p2
  refine ⟨p2.trans p1.symm, ?_⟩
  by_cases h6 : (S_measure m c v).2 = 6
  · rw [if_pos h6] at q1 q2
    have hc := S_measure_6 h6
    have wp := Inv_wp I
    have st := I.2.2.2.1.1
    have e2 : H2.1 2 = upA (upA (H.1 2) (550 + m.toNat) c) (554 + m.toNat) v := by rw [q2, wI_up, wI_up, q1, wIf (by omega), wIf (by omega), wIf (by omega)]
    have hq : ∀ j, j < 550 ∨ 558 ≤ j → H2.1 2 j = H.1 2 j := fun j hj => by rw [e2, upA_ne (by omega), upA_ne (by omega)]
    have f : ∀ cc k, cc ≠ 2 → cc ≠ 78 → cc ≠ 79 → cc ≠ 119 → H2.1 cc k = H.1 cc k := fun cc k x y z u => by rw [q2, wI1c x, wI1c x, q1, wI1c z, wI1c y, wI1c u]
    have h2 : H2.2 = H.2 := by rw [q2, q1]; rfl
    have e119 : H2.1 119 0 = -1 := by rw [q2, wI1c (by omega), wI1c (by omega), q1, wI1c (by omega), wI1c (by omega), wI1]
    have ff : ∀ cc k, cc ≠ 2 → ¬ (71 ≤ cc ∧ cc ≤ 79) → cc ≠ 99 → ¬ (cc = 119 ∧ k = 0) → H2.1 cc k = H.1 cc k := fun cc k x y z u => by rw [q2, wI1c x, wI1c x, q1, wI1c (by omega), wI1c (by omega), wIg, if_neg u]
    refine Inv_bk I ff h2 (fun j hj => hq j (by omega)) ⟨by rw [hq 477 (by omega)]; exact wp.1, fun p hp => ?_, fun k hk => ?_⟩ (WFY_q (fun j h _ => hq j (by omega)) (Inv_wy I)) ⟨?_, fun p hp => ?_, fun k hk => ?_⟩ (RepY_q (fun k => f 99 k (by omega) (by omega) (by omega) (by omega)) (fun j h _ => hq j (by omega)) st.2.2.2) (SpK_no e119)
    · rw [hq (478 + p) (by omega), hq (490 + p) (by omega), hq (502 + p) (by omega), hq (514 + p) (by omega), hq (526 + p) (by omega), hq (538 + p) (by omega)]; exact wp.2.1 p hp
    · have w := wp.2.2 k hk
      rw [e2]
      by_cases z : k = m.toNat
      · rw [z, upA_ne (by omega), upA_at, upA_at]; exact hc.2
      · rw [upA_ne (by omega), upA_ne (by omega), upA_ne (by omega), upA_ne (by omega)]; exact w
    · rw [f 71 0 (by omega) (by omega) (by omega) (by omega), hq 477 (by omega)]; exact st.2.2.1.1
    · rw [f 72 p (by omega) (by omega) (by omega) (by omega), f 73 p (by omega) (by omega) (by omega) (by omega), f 74 p (by omega) (by omega) (by omega) (by omega), f 75 p (by omega) (by omega) (by omega) (by omega), f 76 p (by omega) (by omega) (by omega) (by omega), f 77 p (by omega) (by omega) (by omega) (by omega), hq (478 + p) (by omega), hq (490 + p) (by omega), hq (502 + p) (by omega), hq (514 + p) (by omega), hq (526 + p) (by omega), hq (538 + p) (by omega)]; exact st.2.2.1.2.1 p hp
    · have w := st.2.2.1.2.2 k hk
      have r78 : H2.1 78 k = if k = m.toNat then c else H.1 78 k := by rw [q2, wI1c (by omega), wI1c (by omega), q1, wI1c (by omega), wIp, wI1c (by omega)]
      have r79 : H2.1 79 k = if k = m.toNat then v else H.1 79 k := by rw [q2, wI1c (by omega), wI1c (by omega), q1, wIp, wI1c (by omega), wI1c (by omega)]
      show H2.1 78 k = _ ∧ H2.1 79 k = _
      rw [r78, r79, e2]
      by_cases z : k = m.toNat
      · rw [if_pos z, if_pos z, z, upA_ne (by omega), upA_at, upA_at]; exact ⟨rfl, rfl⟩
      · rw [if_neg z, if_neg z, upA_ne (by omega), upA_ne (by omega), upA_ne (by omega), upA_ne (by omega)]; exact w
  · rw [if_neg h6] at q1 q2
    rw [q2, q1]; exact Inv_bump _ I

theorem b_pay {H : ZH} {n : Nat} (ok : okZ H) (I : Inv H n) (hn : n ≤ 511) {a b c v : Int} (a1 : -2147483648 ≤ a) (a2 : a ≤ 2147483647) (b1 : -2147483648 ≤ b) (b2 : b ≤ 2147483647) (c1 : -2147483648 ≤ c) (c2 : c ≤ 2147483647) (v1 : -2147483648 ≤ v) (v2 : v ≤ 2147483647)  : BthI mX10_pay mX11_pay [.int (zN (a)), .int (zN (b)), .int (zN (c)), .int (zN (v))] H n := by
  refine ⟨_, c_X10_pay (d := 38) (H := H) ok (who := a) (doing := b) (n := c) (v := v) (who1 := a1) (who2 := a2) (doing1 := b1) (doing2 := b2) (n1 := c1) (n2 := c2) (v1 := v1) (v2 := v2) (cn := (Inv_cn I (by omega))) (wy := (Inv_wy I)) (ry := (Inv_ry I)), fun r H1 ok1 p1 => ?_⟩
  obtain ⟨p1, q1⟩ := p1
  have lo : Lo H H1 := by
    rw [q1]
    split
    · exact ⟨fun cc h => funext (fun k => by rw [wI1c (by omega)]), fun _ _ => rfl⟩
    · exact Lo_b _ H
  refine ⟨_, c_X11_pay (d := 38) (H := H1) ok1 (who := a) (doing := b) (n := c) (v := v) (who1 := a1) (who2 := a2) (doing1 := b1) (doing2 := b2) (n1 := c1) (n2 := c2) (v1 := v1) (v2 := v2) (cm := (Lo_cm I (by omega) lo)) (th := (Lo_th I lo)) (wy := (Lo_wy I lo)), fun r2 H2 ok2 p2 => ?_⟩
  obtain ⟨p2, q2⟩ := p2
  rw [Lo_2 lo] at p2 q2
  refine ⟨p2.trans p1.symm, ?_⟩
  by_cases h6 : (S_pay (H.1 2) a b c v).2 = 6
  · rw [if_pos h6] at q1 q2
    have hc := S_pay_6 h6
    have wp := Inv_wp I
    have wy := Inv_wy I
    have st := I.2.2.2.1.1
    have hx : a.toNat * 10 + b.toNat * 5 + c.toNat < 20 := by omega
    generalize a.toNat * 10 + b.toNat * 5 + c.toNat = x at q1 q2 hx
    have e2 : H2.1 2 = upA (H.1 2) (558 + x) v := by rw [q2, wI_up, q1, wIf (by omega)]
    have hq : ∀ j, j < 558 ∨ 578 ≤ j → H2.1 2 j = H.1 2 j := fun j hj => by rw [e2]; exact upA_ne (by omega)
    have f : ∀ cc k, cc ≠ 2 → cc ≠ 99 → H2.1 cc k = H.1 cc k := fun cc k x y => by rw [q2, wI1c x, q1, wI1c y]
    have h2 : H2.2 = H.2 := by rw [q2, q1]; rfl
    refine Inv_bk I (fun cc k x y z u => f cc k x z) h2 (fun j hj => hq j (by omega)) (WFP_q (fun j _ h => hq j (by omega)) wp) (fun i hi => ?_) (RepP_q (fun cc k x y => f cc k (by omega) (by omega)) (fun j _ h => hq j (by omega)) st.2.2.1) (fun i hi => ?_) (SpK_q (f 119 0 (by omega) (by omega)) (fun cc k _ => by rw [h2]) wp (fun j x y z => hq j (by omega)) (Inv_sk I))
    · rw [e2]
      by_cases z : i = x
      · rw [z, upA_at]; exact hc.2.2.2
      · rw [upA_ne (by omega)]; exact wy i hi
    · rw [e2, q2, wI1c (by omega), q1, wIp]
      by_cases z : i = x
      · rw [if_pos z, z, upA_at]
      · rw [if_neg z, upA_ne (by omega)]; exact st.2.2.2 i hi
  · rw [if_neg h6] at q1 q2
    rw [q2, q1]; exact Inv_bump _ I
