/-! GROUP I5: numbers, write, image, restore, text. -/
/-- row R is given anew, or a cell of it -/
theorem Inv_row {H H2 : ZH} {n R : Nat} (I : Inv H n) (hR : R < 4) (h1 : ∀ cc k, ¬ (cc = 17 ∧ k = R) → ¬ (cc = 18 ∧ k = R) → cc ≠ 125 + 2 * R → H2.1 cc k = H.1 cc k) (h2 : ∀ cc k, cc ≠ 19 → cc ≠ 125 + 2 * R + 1 → H2.2 cc k = H.2 cc k) (h19 : ∀ r k, r < 4 → k < 40 → r ≠ R → H2.2 19 (40 * r + k) = H.2 19 (40 * r + k)) (so : 0 ≤ H2.1 17 R ∧ H2.1 17 R ≤ 3) (sn : 0 ≤ H2.1 18 R ∧ H2.1 18 R ≤ 40) (s0 : H2.1 (125 + 2 * R) 0 = 1) (s1 : H2.1 (125 + 2 * R) 1 = H2.1 17 R) (s2 : H2.1 (125 + 2 * R) 2 = H2.1 18 R) (hv : ∀ k, k < (H2.1 18 R).toNat → H2.2 (125 + 2 * R + 1) k = H2.2 19 (40 * R + k)) : Inv H2 (n + 1) := by
  have e21 : H2.1 21 = H.1 21 := funext (fun k => h1 21 k (by omega) (by omega) (by omega))
  have e4 : H2.1 4 = H.1 4 := funext (fun k => h1 4 k (by omega) (by omega) (by omega))
  refine Inv_tp I (fun cc k _ _ x3 x4 _ _ x7 => h1 cc k (by omega) (by omega) (by omega)) (fun cc k a b => h2 cc k a (by omega)) ?_ ?_ ?_ ?_ ?_ ?_
  · rw [h1 0 6 (by omega) (by omega) (by omega)]; exact I.2.1.2.2.2.2.1
  · rw [e4]; exact I.2.1.2.2.2.2.2.1
  · intro r hr
    by_cases z : r = R
    · rw [z]; omega
    · rw [h1 17 r (by omega) (by omega) (by omega), h1 18 r (by omega) (by omega) (by omega)]; exact Inv_rm I r hr
  · intro r hr s hs
    by_cases z : r = R
    · subst z
      subst hs
      refine ⟨⟨Or.inr s0, by rw [s1]; exact so, by rw [s2]; exact sn⟩, fun _ => ⟨by omega, s1, s2, fun k hk => ?_⟩, fun w => by omega⟩
      rw [s2] at hk
      exact hv k hk
    · obtain ⟨r1, r2, r3⟩ := Inv_rr I r hr s hs
      have ne : s ≠ 125 + 2 * R := by omega
      have f : ∀ k, H2.1 s k = H.1 s k := fun k => h1 s k (by omega) (by omega) ne
      unfold rwOK
      rw [f 0, f 1, f 2, h1 17 r (by omega) (by omega) (by omega), h1 18 r (by omega) (by omega) (by omega)]
      refine ⟨r1, fun w => ?_, r3⟩
      obtain ⟨y1, y2, y3, y4⟩ := r2 w
      refine ⟨y1, y2, y3, fun k hk => ?_⟩
      have k40 : k < 40 := by
        have := r1.2.2
        omega
      rw [h2 (s + 1) k (by omega) (by omega)]
      show _ = H2.2 19 (40 * r + k)
      rw [h19 r k hr k40 z]
      exact y4 k hk
  · rw [h1 20 1 (by omega) (by omega) (by omega), h1 0 6 (by omega) (by omega) (by omega)]; exact I.2.2.2.2.1.2.1
  · rw [e4]; exact TpC_c e21 I.2.2.2.2.1.2.2.1
theorem StW_q {A B : Nat → Int} (h : ∀ j, j < 578 → B j = A j) (w : StW A) : StW B := ⟨WFS_q (fun j hj => h j (by omega)) w.1, WFL_q (fun j _ hj => h j (by omega)) w.2.1, WFP_q (fun j _ hj => h j (by omega)) w.2.2.1, WFY_q (fun j _ hj => h j (by omega)) w.2.2.2⟩
theorem StR_q {H : ZH} {a b c s : Nat} {A B : Nat → Int} (h : ∀ j, j < 578 → B j = A j) (w : StW A) (r : StR H a b c s A) : StR H a b c s B := ⟨RepSc_q (fun _ _ _ _ => rfl) (fun j hj => h j (by omega)) w.1.2.1.2 r.1, RepLw_q (fun _ _ _ _ => rfl) (fun j _ hj => h j (by omega)) w.2.1 r.2.1, RepP_q (fun _ _ _ _ => rfl) (fun j _ hj => h j (by omega)) r.2.2.1, RepY_q (fun _ => rfl) (fun j _ hj => h j (by omega)) r.2.2.2⟩
theorem lend_top {q : Nat → Int} (w : WFL q) {l : Nat} (hl : (l : Int) < q 40) : q (65 + l) ≤ lend q := by
  have b := lend_bd w
  have i : LwI q (lend q).toNat := ⟨w, by show ((lend q).toNat : Int) = lend q; omega, by omega⟩
  have m := WFL_mono i ((q 40).toNat - l - 1) l (by omega)
  omega
/-- a STATE is taken over from one place to another -/
theorem Take_R {H H1 : ZH} {s a b c o x y z : Nat} {q : Nat → Int} (t : TakeSt H H1 s a b c o x y z) (w : StW q) (r : StR H x y z (o + 1) q) (ds : a + 4 < b ∧ b + 4 ≤ c ∧ c + 8 < s + 1) (df : ∀ cc, (x ≤ cc ∧ cc ≤ x + 4) ∨ (y ≤ cc ∧ cc ≤ y + 3) ∨ (z ≤ cc ∧ cc ≤ z + 8) ∨ cc = o + 1 → ¬ (a ≤ cc ∧ cc ≤ a + 4) ∧ ¬ (b ≤ cc ∧ cc ≤ b + 3) ∧ ¬ (c ≤ cc ∧ cc ≤ c + 8) ∧ cc ≠ s + 1) : StR H1 a b c (s + 1) q ∧ (∀ cc, ¬ (a ≤ cc ∧ cc ≤ a + 4) → ¬ (b ≤ cc ∧ cc ≤ b + 3) → ¬ (c ≤ cc ∧ cc ≤ c + 8) → cc ≠ s + 1 → ∀ k, H1.1 cc k = H.1 cc k) ∧ H1.2 = H.2 ∧ H1.1 b 4 = lend q := by
  obtain ⟨Ha, Hb, Hc, ⟨ja, fa, va, wa⟩, ⟨jb, fb, vb, wb, xb⟩, ⟨jc, fc, vc, wc, xc⟩, e⟩ := t
  obtain ⟨⟨r0, r1, rc, r6, r7, r8, r9, r10, r11⟩, ⟨⟨l0, l1⟩, l2⟩, ⟨p0, p1, p2⟩, ry⟩ := r
  have ga : ∀ cc, ¬ (a ≤ cc ∧ cc ≤ a + 4) → Ha.1 cc = H.1 cc := fun cc h => fa cc (by omega)
  have gb : ∀ cc, ¬ (b ≤ cc ∧ cc ≤ b + 3) → Hb.1 cc = Ha.1 cc := fun cc h => fb cc (by omega)
  have gc : ∀ cc, ¬ (c ≤ cc ∧ cc ≤ c + 8) → Hc.1 cc = Hb.1 cc := fun cc h => fc cc (by omega)
  have gd : ∀ cc, cc ≠ s + 1 → H1.1 cc = Hc.1 cc := fun cc h => by rw [e]; exact wA1c h
  have sb : ∀ cc, (x ≤ cc ∧ cc ≤ x + 4) ∨ (y ≤ cc ∧ cc ≤ y + 3) ∨ (z ≤ cc ∧ cc ≤ z + 8) ∨ cc = o + 1 → Ha.1 cc = H.1 cc ∧ Hb.1 cc = H.1 cc ∧ Hc.1 cc = H.1 cc := fun cc h => by
    have d := df cc h
    have u1 := ga cc d.1
    have u2 := (gb cc d.2.1).trans u1
    exact ⟨u1, u2, (gc cc d.2.2.1).trans u2⟩
  have da : ∀ cc, a ≤ cc → cc ≤ a + 4 → H1.1 cc = Ha.1 cc := fun cc h1 h2 => (gd cc (by omega)).trans ((gc cc (by omega)).trans (gb cc (by omega)))
  have db : ∀ cc, b ≤ cc → cc ≤ b + 3 → H1.1 cc = Hb.1 cc := fun cc h1 h2 => (gd cc (by omega)).trans (gc cc (by omega))
  have dc : ∀ cc, c ≤ cc → cc ≤ c + 8 → H1.1 cc = Hc.1 cc := fun cc h1 h2 => gd cc (by omega)
  have w1 := w.1.2.1
  have w40 := w.2.1.1
  have e4 : H1.1 b 4 = lend q := by rw [db b (by omega) (by omega), vb.2, (sb y (by omega)).1]; exact l2
  refine ⟨⟨⟨?_, ?_, fun d hd => ?_, ?_, ?_, ?_, ?_, ?_, ?_⟩, ⟨⟨?_, fun l hl => ⟨?_, ?_, fun i hi => ?_⟩⟩, e4⟩, ⟨?_, fun p hp => ?_, fun m hm => ?_⟩, fun i hi => ?_⟩, fun cc h1 h2 h3 h4 k => ?_, ?_, e4⟩
  · rw [da a (by omega) (by omega), va.1]; exact r0
  · rw [da a (by omega) (by omega), va.2.1]; exact r1
  · rw [da (a + 1) (by omega) (by omega), da (a + 2) (by omega) (by omega), da (a + 3) (by omega) (by omega), da (a + 4) (by omega) (by omega), wa 1 d (by omega) (by omega) (by omega), wa 2 d (by omega) (by omega) (by omega), wa 3 d (by omega) (by omega) (by omega), wa 4 d (by omega) (by omega) (by omega)]
    exact rc d hd
  · rw [da a (by omega) (by omega), va.2.2.1]; exact r6
  · rw [da a (by omega) (by omega), va.2.2.2.1]; exact r7
  · rw [da a (by omega) (by omega), va.2.2.2.2.1]; exact r8
  · rw [da a (by omega) (by omega), va.2.2.2.2.2.1]; exact r9
  · rw [da a (by omega) (by omega), va.2.2.2.2.2.2.1]; exact r10
  · rw [da a (by omega) (by omega), va.2.2.2.2.2.2.2]; exact r11
  · rw [db b (by omega) (by omega), vb.1, (sb y (by omega)).1]; exact l0
  · rw [db (b + 1) (by omega) (by omega), (wb l (by omega)).1, (sb (y + 1) (by omega)).1]; exact (l1 l hl).1
  · rw [db (b + 2) (by omega) (by omega), (wb l (by omega)).2, (sb (y + 2) (by omega)).1]; exact (l1 l hl).2.1
  · have lt := lend_top w.2.1 hl
    rw [db (b + 3) (by omega) (by omega), xb i (by rw [(sb y (by omega)).1, l2]; omega), (sb (y + 3) (by omega)).1]; exact (l1 l hl).2.2 i hi
  · rw [dc c (by omega) (by omega), vc, (sb z (by omega)).2.1]; exact p0
  · rw [dc (c + 1) (by omega) (by omega), dc (c + 2) (by omega) (by omega), dc (c + 3) (by omega) (by omega), dc (c + 4) (by omega) (by omega), dc (c + 5) (by omega) (by omega), dc (c + 6) (by omega) (by omega), wc 1 p (by omega) (by omega) hp, wc 2 p (by omega) (by omega) hp, wc 3 p (by omega) (by omega) hp, wc 4 p (by omega) (by omega) hp, wc 5 p (by omega) (by omega) hp, wc 6 p (by omega) (by omega) hp, (sb (z + 1) (by omega)).2.1, (sb (z + 2) (by omega)).2.1, (sb (z + 3) (by omega)).2.1, (sb (z + 4) (by omega)).2.1, (sb (z + 5) (by omega)).2.1, (sb (z + 6) (by omega)).2.1]
    exact p1 p hp
  · rw [dc (c + 7) (by omega) (by omega), dc (c + 8) (by omega) (by omega), xc 7 m (by omega) (by omega) hm, xc 8 m (by omega) (by omega) hm, (sb (z + 7) (by omega)).2.1, (sb (z + 8) (by omega)).2.1]
    exact p2 m hm
  · rw [e, wA1, zcpy_at hi, (sb (o + 1) (by omega)).2.2]; exact ry i hi
  · rw [gd cc h4, gc cc h3, gb cc h2, ga cc h1]
  · rw [e]
    show Hc.2 = H.2
    rw [jc, jb, ja]
/-- an image is taken -/
theorem Inv_im {H H2 : ZH} {n : Nat} (I : Inv H n) (h1 : ∀ cc k, cc ≠ 2 → cc ≠ 3 → cc ≠ 22 → ¬ (40 ≤ cc ∧ cc ≤ 49) → ¬ (63 ≤ cc ∧ cc ≤ 70) → ¬ (80 ≤ cc ∧ cc ≤ 97) → cc ≠ 101 → cc ≠ 103 → H2.1 cc k = H.1 cc k) (h2 : H2.2 = H.2) (hA : ∀ j, j < 578 → H2.1 2 j = H.1 2 j) (b2 : ∀ i, i < 2 → (H2.1 3 i = 0 ∨ H2.1 3 i = 1) ∧ (H2.1 3 i = 1 → StW (imq H2 i))) (c2 : ∀ i, i < 2 → H2.1 22 i = H2.1 3 i) (c3 : H2.1 3 0 = 1 → StR H2 40 63 80 101 (imq H2 0)) (c4 : H2.1 3 1 = 1 → StR H2 45 67 89 103 (imq H2 1)) (c5 : 0 ≤ H2.1 63 4 ∧ H2.1 63 4 ≤ 400) (c6 : 0 ≤ H2.1 67 4 ∧ H2.1 67 4 ≤ 400) : Inv H2 (n + 1) := by
  obtain ⟨cn, ⟨a1, a2, a3, a4, a5, a6, a7⟩, ⟨b1, _⟩, ⟨c1, _⟩, ⟨d1, d2, d3, d4, d5⟩, e1, e3⟩ := I
  have e : ∀ cc, (cc < 40 ∨ (50 ≤ cc ∧ cc ≤ 62) ∨ (71 ≤ cc ∧ cc ≤ 79) ∨ cc = 99 ∨ 104 ≤ cc) → cc ≠ 2 → cc ≠ 3 → cc ≠ 22 → ∀ k, H2.1 cc k = H.1 cc k := fun cc x1 x2 x3 x4 k => h1 cc k x2 x3 x4 (by omega) (by omega) (by omega) (by omega) (by omega)
  have e4 : H2.1 4 = H.1 4 := funext (e 4 (by omega) (by omega) (by omega) (by omega))
  have e21 : H2.1 21 = H.1 21 := funext (e 21 (by omega) (by omega) (by omega) (by omega))
  refine ⟨Cn_s (e 25 (by omega) (by omega) (by omega) (by omega)) (e 1 (by omega) (by omega) (by omega) (by omega)) cn, ⟨(e 0 (by omega) (by omega) (by omega) (by omega) 0).trans a1, (e 0 (by omega) (by omega) (by omega) (by omega) 21).trans a2, (e 0 (by omega) (by omega) (by omega) (by omega) 22).trans a3, fun j hj => (e 6 (by omega) (by omega) (by omega) (by omega) j).trans (a4 j hj), by rw [e 0 (by omega) (by omega) (by omega) (by omega) 6]; exact a5, fun k => by rw [e4]; exact a6 k, fun r hr => by rw [e 17 (by omega) (by omega) (by omega) (by omega) r, e 18 (by omega) (by omega) (by omega) (by omega) r]; exact a7 r hr⟩, ⟨StW_q hA b1, b2⟩, ⟨StR_q hA b1 (StR_cg (fun cc k hc => e cc (by omega) (by omega) (by omega) (by omega) k) c1), c2, c3, c4, c5, c6⟩, ⟨RepR_cg (fun cc k hc => e cc (by omega) (by omega) (by omega) (by omega) k) (fun cc k _ => by rw [h2]) d1, ?_, by rw [e4]; exact TpC_c e21 d3, ?_, ?_⟩, fun z => ?_, ?_⟩
  · rw [e 20 (by omega) (by omega) (by omega) (by omega) 1, e 0 (by omega) (by omega) (by omega) (by omega) 6]; exact d2
  · rw [e 28 (by omega) (by omega) (by omega) (by omega) 2, e 0 (by omega) (by omega) (by omega) (by omega) 16]; exact d4
  · rw [e 28 (by omega) (by omega) (by omega) (by omega) 3, e 0 (by omega) (by omega) (by omega) (by omega) 17]; exact d5
  · rw [e 20 (by omega) (by omega) (by omega) (by omega) 8] at z
    exact TrD_q (fun j h => hA j (by omega)) b1.1 b1.2.1 (TrS_cg (e1 z) (fun cc k _ _ => by rw [h2]) (e 113 (by omega) (by omega) (by omega) (by omega) 6))
  · exact SpK_q (H := H) (e 119 (by omega) (by omega) (by omega) (by omega) 0) (fun cc k _ => by rw [h2]) b1.2.2.1 (fun j x y z => hA j (by omega)) e3
/-- a text was read, or refused at a place -/
theorem Inv_tx {H H2 : ZH} {n : Nat} (I : Inv H n) (h1 : ∀ cc k, ¬ (cc = 0 ∧ 6 ≤ k ∧ k ≤ 17) → cc ≠ 1 → cc ≠ 2 → cc ≠ 5 → cc ≠ 25 → cc ≠ 28 → ¬ (30 ≤ cc ∧ cc ≤ 39) → ¬ (55 ≤ cc ∧ cc ≤ 62) → ¬ (cc = 20 ∧ (k = 1 ∨ k = 8)) → H2.1 cc k = H.1 cc k) (h2 : H2.2 = H.2) (hC : Cn H2 (n + 1)) (t0 : H2.1 0 6 = 0) (t1 : H2.1 20 1 = 0) (hA : ∀ j, 477 ≤ j → H2.1 2 j = H.1 2 j) (hS : WFS (H2.1 2)) (hL : WFL (H2.1 2)) (rS : RepSc H2 35 (H2.1 2)) (rL : RepLwA H2 59 (H2.1 2) ∧ H2.1 59 4 = lend (H2.1 2)) (f2 : H2.1 28 2 = H2.1 0 16) (f3 : H2.1 28 3 = H2.1 0 17) (hK : H2.1 20 8 ≠ 0 → TrD H2 113 (H2.1 2) (-1)) : Inv H2 (n + 1) := by
  obtain ⟨cn, ⟨a1, a2, a3, a4, a5, a6, a7⟩, ⟨b1, b2⟩, ⟨c1, c2, c3, c4, c5, c6⟩, ⟨d1, d2, d3, d4, d5⟩, e1, e3⟩ := I
  have e : ∀ cc, (cc = 3 ∨ cc = 4 ∨ (6 ≤ cc ∧ cc ≤ 19) ∨ (21 ≤ cc ∧ cc ≤ 24) ∨ (26 ≤ cc ∧ cc ≤ 27) ∨ (40 ≤ cc ∧ cc ≤ 54) ∨ 63 ≤ cc) → ∀ k, H2.1 cc k = H.1 cc k := fun cc hc k => h1 cc k (by omega) (by omega) (by omega) (by omega) (by omega) (by omega) (by omega) (by omega) (by omega)
  have z0 : ∀ k, ¬ (6 ≤ k ∧ k ≤ 17) → H2.1 0 k = H.1 0 k := fun k hk => h1 0 k (by omega) (by omega) (by omega) (by omega) (by omega) (by omega) (by omega) (by omega) (by omega)
  have e4 : H2.1 4 = H.1 4 := funext (e 4 (by omega))
  have e21 : H2.1 21 = H.1 21 := funext (e 21 (by omega))
  have ei : ∀ i, imq H2 i = imq H i := fun i => by funext j; exact hA _ (by omega)
  refine ⟨hC, ⟨(z0 0 (by omega)).trans a1, (z0 21 (by omega)).trans a2, (z0 22 (by omega)).trans a3, fun j hj => (e 6 (by omega) j).trans (a4 j hj), by omega, fun k => by rw [e4]; exact a6 k, fun r hr => by rw [e 17 (by omega) r, e 18 (by omega) r]; exact a7 r hr⟩, ⟨⟨hS, hL, WFP_q (fun j h _ => hA j (by omega)) b1.2.2.1, WFY_q (fun j h _ => hA j (by omega)) b1.2.2.2⟩, fun i hi => by rw [e 3 (by omega) i, ei i]; exact b2 i hi⟩, ⟨⟨rS, rL, RepP_q (fun cc k x y => e cc (by omega) k) (fun j h _ => hA j (by omega)) c1.2.2.1, RepY_q (fun k => e 99 (by omega) k) (fun j h _ => hA j (by omega)) c1.2.2.2⟩, fun i hi => ?_, fun z => ?_, fun z => ?_, ?_, ?_⟩, ⟨RepR_cg (fun cc k hc => e cc (by omega) k) (fun cc k _ => by rw [h2]) d1, by omega, by rw [e4]; exact TpC_c e21 d3, f2, f3⟩, hK, SpK_q (H := H) (e 119 (by omega) 0) (fun cc k _ => by rw [h2]) b1.2.2.1 (fun j x y z => hA j (by omega)) e3⟩
  · rw [e 22 (by omega) i, e 3 (by omega) i]; exact c2 i hi
  · rw [ei 0]; rw [e 3 (by omega) 0] at z
    exact StR_cg (fun cc k hc => e cc (by omega) k) (c3 z)
  · rw [ei 1]; rw [e 3 (by omega) 1] at z
    exact StR_cg (fun cc k hc => e cc (by omega) k) (c4 z)
  · rw [e 63 (by omega) 4]; exact c5
  · rw [e 67 (by omega) 4]; exact c6

theorem b_numbers {H : ZH} {n : Nat} (ok : okZ H) (I : Inv H n) (hn : n ≤ 511) {row so m : Int} (row1 : -2147483648 ≤ row) (row2 : row ≤ 2147483647) (so1 : -2147483648 ≤ so) (so2 : so ≤ 2147483647) (m1 : -2147483648 ≤ m) (m2 : m ≤ 2147483647)  : BthI mX10_numbers mX11_numbers [.int (zN (row)), .int (zN (so)), .int (zN (m))] H n := by
  refine ⟨_, c_X10_numbers (d := 38) (H := H) ok (row := row) (so := so) (n := m) (row1 := row1) (row2 := row2) (so1 := so1) (so2 := so2) (n1 := m1) (n2 := m2) (cn := (Inv_cn I (by omega))) (rr := (Inv_rr I)), fun r H1 ok1 p1 => ?_⟩
  obtain ⟨p1, q1⟩ := p1
  have lo : Lo H H1 := by
    rw [q1]
    split
    · exact ⟨fun cc h => funext (fun k => by rw [wB2, wI1c (by omega), wI1c (by omega), wI1c (by omega)]), fun cc h => by rw [wB1c (by omega)]; rfl⟩
    · exact Lo_b _ H
  refine ⟨_, c_X11_numbers (d := 38) (H := H1) ok1 (row := row) (so := so) (n := m) (row1 := row1) (row2 := row2) (so1 := so1) (so2 := so2) (n1 := m1) (n2 := m2) (cm := (Lo_cm I (by omega) lo)) (th := (Lo_th I lo)), fun r2 H2 ok2 p2 => ?_⟩
  obtain ⟨p2, q2⟩ := p2
  refine ⟨p2.trans p1.symm, ?_⟩
  by_cases h6 : (S_numbers row so m).2 = 6
  · rw [if_pos h6] at q1 q2
    have hc := S_numbers_6 h6
    obtain ⟨R, hR⟩ : ∃ R : Nat, row.toNat = R := ⟨_, rfl⟩
    have hR4 : R < 4 := by omega
    rw [hR] at q1 q2
    have g1 : ∀ cc k, H1.1 cc k = if cc = 125 + 2 * R ∧ k = 2 then m else if cc = 125 + 2 * R ∧ k = 1 then so else if cc = 125 + 2 * R ∧ k = 0 then 1 else H.1 cc k := fun cc k => by rw [q1]; rfl
    have g2 : ∀ cc k, H2.1 cc k = if cc = 18 ∧ k = R then m else if cc = 17 ∧ k = R then so else H1.1 cc k := fun cc k => by rw [q2]; rfl
    have k1 : ∀ cc k, H1.2 cc k = if cc = 125 + 2 * R + 1 then (if k < 40 then 0 else H.2 (125 + 2 * R + 1) k) else H.2 cc k := fun cc k => by rw [q1]; rfl
    have k2 : ∀ cc k, H2.2 cc k = if cc = 19 then (if 40 * R ≤ k ∧ k < 40 * R + m.toNat then 0 else H1.2 19 k) else H1.2 cc k := fun cc k => by rw [q2]; rfl
    have e17 : H2.1 17 R = so := by rw [g2, if_neg (by omega), if_pos ⟨rfl, rfl⟩]
    have e18 : H2.1 18 R = m := by rw [g2, if_pos ⟨rfl, rfl⟩]
    have gs : ∀ k, H2.1 (125 + 2 * R) k = H1.1 (125 + 2 * R) k := fun k => by rw [g2, if_neg (by omega), if_neg (by omega)]
    refine Inv_row (R := R) I hR4 (fun cc k x1 x2 x3 => ?_) (fun cc k x1 x2 => ?_) (fun r k hr hk hn => ?_) (by omega) (by omega) ?_ ?_ ?_ (fun k hk => ?_)
    · rw [g2, if_neg x2, if_neg x1, g1, if_neg (by omega), if_neg (by omega), if_neg (by omega)]
    · rw [k2, if_neg x1, k1, if_neg x2]
    · rw [k2, if_pos rfl, if_neg (by omega), k1, if_neg (by omega)]
    · rw [gs, g1, if_neg (by omega), if_neg (by omega), if_pos ⟨rfl, rfl⟩]
    · rw [gs, g1, if_neg (by omega), if_pos ⟨rfl, rfl⟩, e17]
    · rw [gs, g1, if_pos ⟨rfl, rfl⟩, e18]
    · rw [e18] at hk
      rw [k2, if_neg (by omega), k1, if_pos rfl, if_pos (by omega), k2, if_pos rfl, if_pos (by omega)]
  · rw [if_neg h6] at q1 q2
    rw [q2, q1]; exact Inv_bump _ I

theorem b_write {H : ZH} {n : Nat} (ok : okZ H) (I : Inv H n) (hn : n ≤ 511) {row i v : Int} (row1 : -2147483648 ≤ row) (row2 : row ≤ 2147483647) (i1 : -2147483648 ≤ i) (i2 : i ≤ 2147483647) (v1 : -9223372036854775808 ≤ v) (v2 : v ≤ 9223372036854775807) : BthL mX10_write mX11_write [.int (zN (row)), .int (zN (i)), .long (zL (v))] H n := by
  refine ⟨_, c_X10_write (d := 38) (H := H) ok (row := row) (i := i) (v := v) (row1 := row1) (row2 := row2) (i1 := i1) (i2 := i2) (v1 := v1) (v2 := v2) (cn := (Inv_cn I (by omega))) (rr := (Inv_rr I)), fun r H1 ok1 p1 => ?_⟩
  obtain ⟨p1, q1⟩ := p1
  have lo : Lo H H1 := by
    rw [q1]
    split
    · exact ⟨fun cc h => rfl, fun cc h => funext (fun k => by rw [wJ1c (by omega)])⟩
    · exact Lo_b _ H
  have e17 := lo.1 17 (by omega)
  have e18 := lo.1 18 (by omega)
  have es : S_write H1 row i v = S_write H row i v := by unfold S_write; rw [e17, e18]
  refine ⟨_, c_X11_write (d := 38) (H := H1) ok1 (row := row) (i := i) (v := v) (row1 := row1) (row2 := row2) (i1 := i1) (i2 := i2) (v1 := v1) (v2 := v2) (cm := (Lo_cm I (by omega) lo)) (th := (Lo_th I lo)) (rm := (Lo_rm I lo)), fun r2 H2 ok2 p2 => ?_⟩
  obtain ⟨p2, q2⟩ := p2
  rw [es] at p2 q2
  rw [e17] at q2
  refine ⟨p2.trans p1.symm, ?_⟩
  by_cases h6 : (S_write H row i v).2 = 6
  · rw [if_pos h6] at q1 q2
    have hc := S_write_6 h6
    obtain ⟨R, hR⟩ : ∃ R : Nat, row.toNat = R := ⟨_, rfl⟩
    have hR4 : R < 4 := by omega
    rw [hR] at q1 q2 hc
    have rm := Inv_rm I R hR4
    obtain ⟨r1, r2, r3⟩ := Inv_rr I R hR4 (125 + 2 * R) rfl
    have s0 : H.1 (125 + 2 * R) 0 = 1 := by
      rcases r1.1 with z | z
      · exact absurd (r3 z) hc.2.1
      · exact z
    obtain ⟨y1, y2, y3, y4⟩ := r2 s0
    generalize zcut v (H.1 17 R) = x at q1 q2
    have g : H2.1 = H.1 := by rw [q2, q1]; rfl
    have k1 : ∀ cc k, H2.2 cc k = if cc = 19 ∧ k = 40 * R + i.toNat then x else if cc = 125 + 2 * R + 1 ∧ k = i.toNat then x else H.2 cc k := fun cc k => by rw [q2, q1]; rfl
    refine Inv_row (R := R) I hR4 (fun cc k _ _ _ => by rw [g]) (fun cc k x1 x2 => ?_) (fun r k hr hk hn => ?_) (by rw [g]; omega) (by rw [g]; omega) (by rw [g]; exact s0) (by rw [g]; exact y2) (by rw [g]; exact y3) (fun k hk => ?_)
    · rw [k1, if_neg (by omega), if_neg (by omega)]
    · rw [k1, if_neg (by omega), if_neg (by omega)]
    · rw [g] at hk
      rw [k1, k1, if_neg (by omega)]
      by_cases z : k = i.toNat
      · rw [if_pos ⟨rfl, z⟩, if_pos ⟨rfl, by omega⟩]
      · rw [if_neg (by omega), if_neg (by omega), if_neg (by omega)]
        exact y4 k (by omega)
  · rw [if_neg h6] at q1 q2
    rw [q2, q1]; exact Inv_bump _ I
