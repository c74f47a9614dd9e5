/-! GROUP I7: text. -/
theorem Lo_T {H H1 : ZH} (f : TcF H H1) : Lo H H1 := ⟨fun cc h => funext (fun k => f.1 cc k (by omega) (by omega) (by omega) (by omega) (by omega)), fun cc _ => by rw [f.2.1]⟩
/-- behind both, where a text was refused at a place -/
theorem Inv_tb {H H1 H2 : ZH} {n : Nat} {r w p : Int} (I : Inv H n) (f : TcF H H1) (b : TcB H H1 r w p) (g : TxF H1 H2) (e16 : H2.1 0 16 = w) (e17 : H2.1 0 17 = p) (e1 : H2.1 1 = (bumpM 5 H1).1 1) (e2 : H2.1 2 = H1.1 2) : Inv H2 (n + 1) := by
  obtain ⟨_, _, x2, x3, x25, x8, xs⟩ := b
  have lo := Lo_T f
  have h1 : ∀ cc k, ¬ (cc = 0 ∧ 6 ≤ k ∧ k ≤ 17) → cc ≠ 1 → cc ≠ 2 → cc ≠ 5 → H2.1 cc k = H1.1 cc k := fun cc k a b c d => g.1 cc k d a b c
  have q2 : H2.1 2 = H.1 2 := e2.trans (Lo_2 lo)
  have st := I.2.2.2.1.1
  have hs : ∀ cc k, (35 ≤ cc ∧ cc ≤ 39) ∨ (59 ≤ cc ∧ cc ≤ 62) → H2.1 cc k = H.1 cc k := fun cc k h => (h1 cc k (by omega) (by omega) (by omega) (by omega)).trans (xs cc k h)
  refine Inv_tx I (fun cc k y0 y1 y2 y3 y4 y5 y6 y7 y8 => (h1 cc k y0 y1 y2 y3).trans (f.1 cc k y5 (by omega) y7 y8 y4)) (g.2.1.trans f.2.1) (Cn_b2 (ix := 5) (fun k => ?_) (fun k => ?_) I.1) g.2.2 ?_ (fun j _ => by rw [q2]) (by rw [q2]; exact Inv_ws I) (by rw [q2]; exact Inv_wl I) ?_ ?_ ?_ ?_ (fun z => ?_)
  · rw [h1 25 k (by omega) (by omega) (by omega) (by omega), x25]
  · rw [e1]
    show (wI H1 1 5 (H1.1 1 5 + 1)).1 1 k = (wI H 1 5 (H.1 1 5 + 1)).1 1 k
    rw [wIp, wIp, lo.1 1 (by omega)]
  · rw [h1 20 1 (by omega) (by omega) (by omega) (by omega)]; exact f.2.2
  · rw [q2]; exact RepSc_q (fun cc k a b => hs cc k (by omega)) (fun _ _ => rfl) (Inv_ws I).2.1.2 st.1
  · rw [q2]; exact RepLw_q (fun cc k a b => hs cc k (by omega)) (fun _ _ _ => rfl) (Inv_wl I) st.2.1
  · rw [h1 28 2 (by omega) (by omega) (by omega) (by omega), x2, e16]
  · rw [h1 28 3 (by omega) (by omega) (by omega) (by omega), x3, e17]
  · rw [q2]
    rw [h1 20 8 (by omega) (by omega) (by omega) (by omega), x8] at z
    exact TrS_cg (Inv_tv I z) (fun cc k _ _ => by rw [g.2.1, f.2.1]) ((h1 113 6 (by omega) (by omega) (by omega) (by omega)).trans (f.1 113 6 (by omega) (by omega) (by omega) (by omega) (by omega)))
/-- where it was read as THE SCENE -/
theorem Inv_ts {H H1 H2 : ZH} {n : Nat} {q : Nat → Int} (I : Inv H n) (f : TcF H H1) (g : TxF H1 H2) (x2 : H1.1 28 2 = 0) (x3 : H1.1 28 3 = -1) (x25 : H1.1 25 = H.1 25) (x8 : H1.1 20 8 = 0) (rs : RepSc H1 35 q) (wq : WFS q) (xl : ∀ cc k, 59 ≤ cc ∧ cc ≤ 62 → H1.1 cc k = H.1 cc k) (e16 : H2.1 0 16 = 0) (e17 : H2.1 0 17 = -1) (e1 : H2.1 1 = H1.1 1) (e2 : H2.1 2 = fun j => if j < 40 then q j else H1.1 2 j) : Inv H2 (n + 1) := by
  have lo := Lo_T f
  have h1 : ∀ cc k, ¬ (cc = 0 ∧ 6 ≤ k ∧ k ≤ 17) → cc ≠ 1 → cc ≠ 2 → cc ≠ 5 → H2.1 cc k = H1.1 cc k := fun cc k a b c d => g.1 cc k d a b c
  have qa : ∀ j, j < 40 → H2.1 2 j = q j := fun j hj => by rw [e2]; exact if_pos hj
  have qb : ∀ j, 40 ≤ j → H2.1 2 j = H.1 2 j := fun j hj => by rw [e2, ← Lo_2 lo]; exact if_neg (by omega)
  have st := I.2.2.2.1.1
  have e208 : H2.1 20 8 = 0 := (h1 20 8 (by omega) (by omega) (by omega) (by omega)).trans x8
  refine Inv_tx I (fun cc k y0 y1 y2 y3 y4 y5 y6 y7 y8 => (h1 cc k y0 y1 y2 y3).trans (f.1 cc k y5 (by omega) y7 y8 y4)) (g.2.1.trans f.2.1) (Cn_s (fun k => ?_) (fun k => ?_) I.1) g.2.2 ?_ (fun j hj => qb j (by omega)) (WFS_q qa wq) (WFL_q (fun j h _ => qb j h) (Inv_wl I)) ?_ ?_ ?_ ?_ (fun z => absurd e208 z)
  · rw [h1 25 k (by omega) (by omega) (by omega) (by omega), x25]
  · rw [e1, lo.1 1 (by omega)]
  · rw [h1 20 1 (by omega) (by omega) (by omega) (by omega)]; exact f.2.2
  · exact RepSc_q (fun cc k a b => h1 cc k (by omega) (by omega) (by omega) (by omega)) qa wq.2.1.2 rs
  · exact RepLw_q (H := H1) (fun cc k a b => h1 cc k (by omega) (by omega) (by omega) (by omega)) (fun j h _ => qb j h) (Inv_wl I) (RepLw_q (fun cc k a b => xl cc k (by omega)) (fun _ _ _ => rfl) (Inv_wl I) st.2.1)
  · rw [h1 28 2 (by omega) (by omega) (by omega) (by omega), x2, e16]
  · rw [h1 28 3 (by omega) (by omega) (by omega) (by omega), x3, e17]
/-- where it was read as THE LAW -/
theorem Inv_tl {H H1 H2 : ZH} {n c : Nat} {q : Nat → Int} (I : Inv H n) (f : TcF H H1) (g : TxF H1 H2) (x2 : H1.1 28 2 = 0) (x3 : H1.1 28 3 = -1) (x25 : H1.1 25 = H.1 25) (x8 : H1.1 20 8 = 0) (rl : RepLw H1 q) (lz : H1.1 59 4 = (c : Int)) (wq : LwI q c) (xs : ∀ cc k, 35 ≤ cc ∧ cc ≤ 39 → H1.1 cc k = H.1 cc k) (e16 : H2.1 0 16 = 0) (e17 : H2.1 0 17 = -1) (e1 : H2.1 1 = H1.1 1) (e2 : H2.1 2 = fun j => if 40 ≤ j ∧ j < 477 then q j else H1.1 2 j) : Inv H2 (n + 1) := by
  have lo := Lo_T f
  have h1 : ∀ cc k, ¬ (cc = 0 ∧ 6 ≤ k ∧ k ≤ 17) → cc ≠ 1 → cc ≠ 2 → cc ≠ 5 → H2.1 cc k = H1.1 cc k := fun cc k a b c d => g.1 cc k d a b c
  have qa : ∀ j, 40 ≤ j → j < 477 → H2.1 2 j = q j := fun j h hj => by rw [e2]; exact if_pos ⟨h, hj⟩
  have qb : ∀ j, j < 40 ∨ 477 ≤ j → H2.1 2 j = H.1 2 j := fun j hj => by rw [e2, ← Lo_2 lo]; exact if_neg (by omega)
  have st := I.2.2.2.1.1
  have e208 : H2.1 20 8 = 0 := (h1 20 8 (by omega) (by omega) (by omega) (by omega)).trans x8
  refine Inv_tx I (fun cc k y0 y1 y2 y3 y4 y5 y6 y7 y8 => (h1 cc k y0 y1 y2 y3).trans (f.1 cc k y5 (by omega) y7 y8 y4)) (g.2.1.trans f.2.1) (Cn_s (fun k => ?_) (fun k => ?_) I.1) g.2.2 ?_ (fun j hj => qb j (by omega)) (WFS_q (fun j h => qb j (by omega)) (Inv_ws I)) (WFL_q qa wq.1) ?_ ?_ ?_ ?_ (fun z => absurd e208 z)
  · rw [h1 25 k (by omega) (by omega) (by omega) (by omega), x25]
  · rw [e1, lo.1 1 (by omega)]
  · rw [h1 20 1 (by omega) (by omega) (by omega) (by omega)]; exact f.2.2
  · exact RepSc_q (H := H) (fun cc k a b => (h1 cc k (by omega) (by omega) (by omega) (by omega)).trans (xs cc k (by omega))) (fun j h => qb j (by omega)) (Inv_ws I).2.1.2 st.1
  · exact RepLw_q (H := H1) (A := q) (fun cc k a b => h1 cc k (by omega) (by omega) (by omega) (by omega)) qa wq.1 ⟨rl, by rw [lz]; exact wq.2.1⟩
  · rw [h1 28 2 (by omega) (by omega) (by omega) (by omega), x2, e16]
  · rw [h1 28 3 (by omega) (by omega) (by omega) (by omega), x3, e17]

theorem b_text_0 {H : ZH} {n : Nat} (ok : okZ H) (I : Inv H n) (hn : n ≤ 511) {b : Int} (b1 : -2147483648 ≤ b) (b2 : b ≤ 2147483647) : BthI mX10_text mX11_text [.int (zN (0)), .int (zN (b))] H n := by
  have h06 := I.2.1.2.2.2.2.1
  have hl : H.1 20 1 = H.1 0 6 := I.2.2.2.2.1.2.1
  obtain ⟨t, hti⟩ : ∃ t : Nat, H.1 0 6 = (t : Int) := ⟨(H.1 0 6).toNat, by omega⟩
  have t4 : t ≤ 400 := by omega
  have ht : H.1 20 1 = (t : Int) := hl.trans hti
  have a6 := I.2.1.2.2.2.2.2.1
  have hT : TpC H (H.1 4) t := fun k hk => I.2.2.2.2.1.2.2.1 k (by omega)
  refine ⟨_, c_X10_text_0 (d := 17) (H := H) ok (b := b) (b1 := b1) (b2 := b2) (cn := (Inv_cn I (by omega))) (T := H.1 4) (f := H.1 5) (t := t) (ht4 := t4) (ht := ht) (htp := hT), fun r H1 ok1 p1 => ?_⟩
  have lo : Lo H H1 := by
    rcases p1 with ⟨_, _, x⟩ | ⟨_, x⟩
    · rw [x]; exact Lo_b _ H
    · exact Lo_T x.1
  refine ⟨_, c_X11_text_0 (d := 7) (H := H1) ok1 (b := b) (b1 := b1) (b2 := b2) (cm := (Lo_cm I (by omega) lo)) (th := (Lo_th I lo)) (ht0 := by rw [lo.1 0 (by omega)]; exact h06) (hT := by rw [lo.1 4 (by omega)]; exact a6), fun r2 H2 ok2 p2 => ?_⟩
  rw [lo.1 0 (by omega), lo.1 4 (by omega), lo.1 5 (by omega), hti] at p2
  rcases p1 with ⟨c1, v1, x1⟩ | ⟨c1, f, x1⟩ <;> rcases p2 with ⟨c2, v2, x2⟩ | ⟨c2, g, x2⟩
  · refine ⟨v2.trans v1.symm, ?_⟩; rw [x2, x1]; exact Inv_bump _ I
  · exact absurd c2 c1
  · exact absurd c1 c2
  · generalize scR (H.1 4) b.toNat 402 0 (plF (H.1 5)) = o at x1 x2
    rcases x1 with b1 | ⟨z1, r1, y2, y3, y25, y8, rs, wq, xl⟩ <;> rcases x2 with ⟨z2, r2', y16, y17, y1, yy⟩ | ⟨z2, r2', y16, y17, y1, yy⟩
    · refine ⟨r2'.trans b1.2.1.symm, ?_⟩
      exact Inv_tb I f b1 g y16 y17 y1 yy
    · exact absurd z2 b1.1
    · exact absurd z1 z2
    · refine ⟨r2'.trans r1.symm, ?_⟩
      exact Inv_ts I f g y2 y3 y25 y8 rs wq xl y16 y17 y1 yy

theorem b_text_1 {H : ZH} {n : Nat} (ok : okZ H) (I : Inv H n) (hn : n ≤ 511) {b : Int} (b1 : -2147483648 ≤ b) (b2 : b ≤ 2147483647) : BthI mX10_text mX11_text [.int (zN (1)), .int (zN (b))] H n := by
  have h06 := I.2.1.2.2.2.2.1
  have hl : H.1 20 1 = H.1 0 6 := I.2.2.2.2.1.2.1
  obtain ⟨t, hti⟩ : ∃ t : Nat, H.1 0 6 = (t : Int) := ⟨(H.1 0 6).toNat, by omega⟩
  have t4 : t ≤ 400 := by omega
  have ht : H.1 20 1 = (t : Int) := hl.trans hti
  have a6 := I.2.1.2.2.2.2.2.1
  have hT : TpC H (H.1 4) t := fun k hk => I.2.2.2.2.1.2.2.1 k (by omega)
  refine ⟨_, c_X10_text_1 (d := 17) (H := H) ok (b := b) (b1 := b1) (b2 := b2) (cn := (Inv_cn I (by omega))) (T := H.1 4) (f := H.1 5) (t := t) (ht4 := t4) (ht := ht) (htp := hT), fun r H1 ok1 p1 => ?_⟩
  have lo : Lo H H1 := by
    rcases p1 with ⟨_, _, x⟩ | ⟨_, x⟩
    · rw [x]; exact Lo_b _ H
    · exact Lo_T x.1
  refine ⟨_, c_X11_text_1 (d := 7) (H := H1) ok1 (b := b) (b1 := b1) (b2 := b2) (cm := (Lo_cm I (by omega) lo)) (th := (Lo_th I lo)) (ht0 := by rw [lo.1 0 (by omega)]; exact h06) (hT := by rw [lo.1 4 (by omega)]; exact a6), fun r2 H2 ok2 p2 => ?_⟩
  rw [lo.1 0 (by omega), lo.1 4 (by omega), lo.1 5 (by omega), hti] at p2
  rcases p1 with ⟨c1, v1, x1⟩ | ⟨c1, f, x1⟩ <;> rcases p2 with ⟨c2, v2, x2⟩ | ⟨c2, g, x2⟩
  · refine ⟨v2.trans v1.symm, ?_⟩; rw [x2, x1]; exact Inv_bump _ I
  · exact absurd c2 c1
  · exact absurd c1 c2
  · generalize lwR (H.1 4) b.toNat 402 0 (0, plF (H.1 5)) = o at x1 x2
    rcases x1 with b1 | ⟨z1, r1, y2, y3, y25, y8, rl, lz, wq, xs⟩ <;> rcases x2 with ⟨z2, r2', y16, y17, y1, yy⟩ | ⟨z2, r2', y16, y17, y1, yy⟩
    · refine ⟨r2'.trans b1.2.1.symm, ?_⟩
      exact Inv_tb I f b1 g y16 y17 y1 yy
    · exact absurd z2 b1.1
    · exact absurd z1 z2
    · refine ⟨r2'.trans r1.symm, ?_⟩
      exact Inv_tl I f g y2 y3 y25 y8 rl lz wq xs y16 y17 y1 yy

theorem b_text {H : ZH} {n : Nat} (ok : okZ H) (I : Inv H n) (hn : n ≤ 511) {a b : Int} (a1 : -2147483648 ≤ a) (a2 : a ≤ 2147483647) (b1 : -2147483648 ≤ b) (b2 : b ≤ 2147483647)  : BthI mX10_text mX11_text [.int (zN (a)), .int (zN (b))] H n := by
  by_cases z0 : a = 0
  · subst z0; exact b_text_0 ok I hn b1 b2
  · by_cases z1 : a = 1
    · subst z1; exact b_text_1 ok I hn b1 b2
    · have ha : ¬ (0 ≤ a ∧ a ≤ 1) := by omega
      refine ⟨_, c_X10_text_x (d := 17) (H := H) ok (a := a) (b := b) (a1 := a1) (a2 := a2) (b1 := b1) (b2 := b2) (cn := (Inv_cn I (by omega))) (ha := ha), fun r H1 ok1 p1 => ?_⟩
      obtain ⟨p1, q1⟩ := p1
      have lo : Lo H H1 := by rw [q1]; exact Lo_b _ H
      refine ⟨_, c_X11_text_x (d := 7) (H := H1) ok1 (a := a) (b := b) (a1 := a1) (a2 := a2) (b1 := b1) (b2 := b2) (cm := (Lo_cm I (by omega) lo)) (th := (Lo_th I lo)) (ha := ha), fun r2 H2 ok2 p2 => ?_⟩
      obtain ⟨p2, q2⟩ := p2
      refine ⟨p2.trans p1.symm, ?_⟩
      rw [q2, q1]; exact Inv_bump _ I
