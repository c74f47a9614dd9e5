/-! GROUP I1: what holds between two calls. -/
def StW (q : Nat → Int) : Prop := WFS q ∧ WFL q ∧ WFP q ∧ WFY q
def RepLwA (H : ZH) (s : Nat) (q : Nat → Int) : Prop := H.1 s 0 = q 40 ∧ ∀ l : Nat, (l : Int) < q 40 → H.1 (s + 1) l = q (41 + l) ∧ H.1 (s + 2) l = q (65 + l) ∧ ∀ i : Nat, (i : Int) < q (65 + l) → H.1 (s + 3) i = (wordOf (q (77 + 2 * i)) : Int) * 1000 + q (78 + 2 * i)
def RepPA (H : ZH) (s : Nat) (q : Nat → Int) : Prop := H.1 s 0 = q 477 ∧ (∀ p, p < 12 → H.1 (s + 1) p = q (478 + p) ∧ H.1 (s + 2) p = q (490 + p) ∧ H.1 (s + 3) p = q (502 + p) ∧ H.1 (s + 4) p = q (514 + p) ∧ H.1 (s + 5) p = q (526 + p) ∧ H.1 (s + 6) p = q (538 + p)) ∧ (∀ m, m < 4 → H.1 (s + 7) m = q (550 + m) ∧ H.1 (s + 8) m = q (554 + m))
def RepYA (H : ZH) (s : Nat) (q : Nat → Int) : Prop := ∀ i, i < 20 → H.1 s i = q (558 + i)
/-- a STATE of the class at these cells is told by q -/
def StR (H : ZH) (a b c s : Nat) (q : Nat → Int) : Prop := RepSc H a q ∧ (RepLwA H b q ∧ H.1 b 4 = lend q) ∧ RepPA H c q ∧ RepYA H s q
theorem StR_cg {H H1 : ZH} {a b c s : Nat} {q : Nat → Int} (h : ∀ cc k, (a ≤ cc ∧ cc ≤ a + 4) ∨ (b ≤ cc ∧ cc ≤ b + 3) ∨ (c ≤ cc ∧ cc ≤ c + 8) ∨ cc = s → H1.1 cc k = H.1 cc k) (r : StR H a b c s q) : StR H1 a b c s q := by
  obtain ⟨⟨r0, r1, rc, r6, r7, r8, r9, r10, r11⟩, ⟨⟨l0, l1⟩, l2⟩, ⟨p0, p1, p2⟩, y⟩ := r
  have ha : ∀ i k, i ≤ 4 → H1.1 (a + i) k = H.1 (a + i) k := fun i k hi => h _ k (by omega)
  have hb : ∀ i k, i ≤ 3 → H1.1 (b + i) k = H.1 (b + i) k := fun i k hi => h _ k (by omega)
  have hc : ∀ i k, i ≤ 8 → H1.1 (c + i) k = H.1 (c + i) k := fun i k hi => h _ k (by omega)
  have a0 : ∀ k, H1.1 a k = H.1 a k := fun k => h a k (by omega)
  have b0 : ∀ k, H1.1 b k = H.1 b k := fun k => h b k (by omega)
  have c0 : ∀ k, H1.1 c k = H.1 c k := fun k => h c k (by omega)
  refine ⟨⟨(a0 0).trans r0, (a0 1).trans r1, fun d hd => ?_, (a0 6).trans r6, (a0 7).trans r7, (a0 8).trans r8, (a0 9).trans r9, (a0 10).trans r10, (a0 11).trans r11⟩, ⟨⟨(b0 0).trans l0, fun l hl => ⟨?_, ?_, fun i hi => ?_⟩⟩, (b0 4).trans l2⟩, ⟨(c0 0).trans p0, fun p hp => ?_, fun m hm => ?_⟩, fun i hi => (h s i (by omega)).trans (y i hi)⟩
  · rw [ha 1 d (by omega), ha 2 d (by omega), ha 3 d (by omega), ha 4 d (by omega)]; exact rc d hd
  · rw [hb 1 l (by omega)]; exact (l1 l hl).1
  · rw [hb 2 l (by omega)]; exact (l1 l hl).2.1
  · rw [hb 3 i (by omega)]; exact (l1 l hl).2.2 i hi
  · rw [hc 1 p (by omega), hc 2 p (by omega), hc 3 p (by omega), hc 4 p (by omega), hc 5 p (by omega), hc 6 p (by omega)]; exact p1 p hp
  · rw [hc 7 m (by omega), hc 8 m (by omega)]; exact p2 m hm
/-- the reference's image i -/
def imq (H : ZH) (i j : Nat) : Int := H.1 2 (578 * (i + 1) + j)
/-- the reference's own cells -/
def J1 (H : ZH) : Prop := H.1 0 0 = 0 ∧ H.1 0 21 = -1 ∧ H.1 0 22 = -1 ∧ (∀ j, 42 ≤ j → H.1 6 j = 0) ∧ (0 ≤ H.1 0 6 ∧ H.1 0 6 ≤ 400) ∧ (∀ k, 0 ≤ H.1 4 k ∧ H.1 4 k ≤ 255) ∧ rmOK H
def J2 (H : ZH) : Prop := StW (H.1 2) ∧ ∀ i, i < 2 → (H.1 3 i = 0 ∨ H.1 3 i = 1) ∧ (H.1 3 i = 1 → StW (imq H i))
/-- the class's STATES -/
def J3 (H : ZH) : Prop := StR H 35 59 71 99 (H.1 2) ∧ (∀ i, i < 2 → H.1 22 i = H.1 3 i) ∧ (H.1 3 0 = 1 → StR H 40 63 80 101 (imq H 0)) ∧ (H.1 3 1 = 1 → StR H 45 67 89 103 (imq H 1)) ∧ (0 ≤ H.1 63 4 ∧ H.1 63 4 ≤ 400) ∧ (0 ≤ H.1 67 4 ∧ H.1 67 4 ≤ 400)
def J4 (H : ZH) : Prop := RepR H ∧ H.1 20 1 = H.1 0 6 ∧ TpC H (H.1 4) 400 ∧ H.1 28 2 = H.1 0 16 ∧ H.1 28 3 = H.1 0 17
/-- what the class keeps for later -/
def J5 (H : ZH) : Prop := (H.1 20 8 ≠ 0 → TrD H 113 (H.1 2) (-1)) ∧ SpK H (H.1 2)
/-- the counters of refused calls, behind n calls -/
def Cn (H : ZH) (n : Nat) : Prop := ∀ k, k < 6 → H.1 25 k = H.1 1 k ∧ 0 ≤ H.1 1 k ∧ H.1 1 k ≤ (n : Int)
def Inv (H : ZH) (n : Nat) : Prop := Cn H n ∧ J1 H ∧ J2 H ∧ J3 H ∧ J4 H ∧ J5 H
theorem Inv_cn {H : ZH} {n : Nat} (I : Inv H n) (hn : n ≤ 512) : cntOK H 25 := fun k hk => by
  have z := I.1 k hk
  omega
theorem Inv_cm {H : ZH} {n : Nat} (I : Inv H n) (hn : n ≤ 512) : cntOK H 1 := fun k hk => by
  have z := I.1 k hk
  omega
theorem Inv_rs {H : ZH} {n : Nat} (I : Inv H n) : RepSc H 35 (H.1 2) := I.2.2.2.1.1.1
theorem Inv_rl {H : ZH} {n : Nat} (I : Inv H n) : RepLw H (H.1 2) := I.2.2.2.1.1.2.1.1
theorem Inv_lz {H : ZH} {n : Nat} (I : Inv H n) : H.1 59 4 = lend (H.1 2) := I.2.2.2.1.1.2.1.2
theorem Inv_rp {H : ZH} {n : Nat} (I : Inv H n) : RepP H := I.2.2.2.1.1.2.2.1
theorem Inv_ry {H : ZH} {n : Nat} (I : Inv H n) : RepY H := I.2.2.2.1.1.2.2.2
theorem Inv_ws {H : ZH} {n : Nat} (I : Inv H n) : WFS (H.1 2) := I.2.2.1.1.1
theorem Inv_wl {H : ZH} {n : Nat} (I : Inv H n) : WFL (H.1 2) := I.2.2.1.1.2.1
theorem Inv_wp {H : ZH} {n : Nat} (I : Inv H n) : WFP (H.1 2) := I.2.2.1.1.2.2.1
theorem Inv_wy {H : ZH} {n : Nat} (I : Inv H n) : WFY (H.1 2) := I.2.2.1.1.2.2.2
theorem Inv_rm {H : ZH} {n : Nat} (I : Inv H n) : rmOK H := I.2.1.2.2.2.2.2.2
theorem Inv_rr {H : ZH} {n : Nat} (I : Inv H n) : RepR H := I.2.2.2.2.1.1
theorem Inv_tv {H : ZH} {n : Nat} (I : Inv H n) : H.1 20 8 ≠ 0 → TrD H 113 (H.1 2) (-1) := I.2.2.2.2.2.1
theorem Inv_sk {H : ZH} {n : Nat} (I : Inv H n) : SpK H (H.1 2) := I.2.2.2.2.2.2
theorem RepR_cg {H H1 : ZH} (h : ∀ cc k, cc = 17 ∨ cc = 18 ∨ (125 ≤ cc ∧ cc ≤ 132) → H1.1 cc k = H.1 cc k) (h2 : ∀ cc k, cc = 19 ∨ (125 ≤ cc ∧ cc ≤ 132) → H1.2 cc k = H.2 cc k) (r : RepR H) : RepR H1 := by
  intro j hj s hs
  obtain ⟨r1, r2, r3⟩ := r j hj s hs
  unfold rwOK
  rw [h s 0 (by omega), h s 1 (by omega), h s 2 (by omega), h 17 j (by omega), h 18 j (by omega)]
  refine ⟨r1, fun z => ?_, r3⟩
  obtain ⟨q1, q2, q3, q4⟩ := r2 z
  refine ⟨q1, q2, q3, fun k hk => ?_⟩
  rw [h2 (s + 1) k (by omega)]
  exact (q4 k hk).trans (h2 19 _ (by omega)).symm
theorem SpK_cg {H H1 : ZH} {q : Nat → Int} (h0 : H1.1 119 0 = H.1 119 0) (h2 : ∀ cc k, cc = 120 ∨ cc = 121 → H1.2 cc k = H.2 cc k) (s : SpK H q) : SpK H1 q := by
  obtain ⟨s1, s2⟩ := s
  refine ⟨by rw [h0]; exact s1, fun x hx => ?_⟩
  rw [h0] at hx
  rw [h2 120 x (by omega), h2 121 x (by omega)]
  exact s2 x hx
/-- all but the counters and what is kept for later, where these cells are the same -/
theorem J_cg {H H1 : ZH} (h1 : ∀ cc k, ¬ (cc = 0 ∧ ((7 ≤ k ∧ k ≤ 15) ∨ k = 23 ∨ k = 26)) → cc ≠ 1 → cc ≠ 5 → cc ≠ 6 → ¬ (7 ≤ cc ∧ cc ≤ 16) → ¬ (cc = 20 ∧ k = 8) → ¬ (23 ≤ cc ∧ cc ≤ 25) → ¬ (cc = 28 ∧ 4 ≤ k) → ¬ (29 ≤ cc ∧ cc ≤ 34) → ¬ (50 ≤ cc ∧ cc ≤ 58) → ¬ (104 ≤ cc ∧ cc ≤ 124) → H1.1 cc k = H.1 cc k) (h2 : ∀ cc k, cc = 19 ∨ (125 ≤ cc ∧ cc ≤ 132) → H1.2 cc k = H.2 cc k) (h6 : ∀ j, 42 ≤ j → H1.1 6 j = 0) (hj : J1 H ∧ J2 H ∧ J3 H ∧ J4 H) : J1 H1 ∧ J2 H1 ∧ J3 H1 ∧ J4 H1 := by
  obtain ⟨⟨a1, a2, a3, a4, a5, a6, a7⟩, ⟨b1, b2⟩, ⟨c1, c2, c3, c4, c5, c6⟩, d1, d2, d3, d4, d5⟩ := hj
  have e : ∀ cc, (cc = 2 ∨ cc = 3 ∨ cc = 4 ∨ cc = 17 ∨ cc = 18 ∨ cc = 21 ∨ cc = 22 ∨ (35 ≤ cc ∧ cc ≤ 49) ∨ (59 ≤ cc ∧ cc ≤ 103)) → ∀ k, H1.1 cc k = H.1 cc k := fun cc hc k => h1 cc k (by omega) (by omega) (by omega) (by omega) (by omega) (by omega) (by omega) (by omega) (by omega) (by omega) (by omega)
  have e0 : ∀ k, k = 0 ∨ k = 6 ∨ k = 16 ∨ k = 17 ∨ k = 21 ∨ k = 22 → H1.1 0 k = H.1 0 k := fun k hk => h1 0 k (by omega) (by omega) (by omega) (by omega) (by omega) (by omega) (by omega) (by omega) (by omega) (by omega) (by omega)
  have e2 : H1.1 2 = H.1 2 := funext (e 2 (by omega))
  have e4 : H1.1 4 = H.1 4 := funext (e 4 (by omega))
  have e21 : H1.1 21 = H.1 21 := funext (e 21 (by omega))
  have ei : ∀ i, imq H1 i = imq H i := fun i => by funext j; unfold imq; rw [e2]
  refine ⟨⟨(e0 0 (by omega)).trans a1, (e0 21 (by omega)).trans a2, (e0 22 (by omega)).trans a3, h6, by rw [e0 6 (by omega)]; exact a5, fun k => by rw [e4]; exact a6 k, fun r hr => by rw [e 17 (by omega) r, e 18 (by omega) r]; exact a7 r hr⟩, ⟨by rw [e2]; exact b1, fun i hi => by rw [e 3 (by omega) i, ei i]; exact b2 i hi⟩, ⟨?_, fun i hi => by rw [e 22 (by omega) i, e 3 (by omega) i]; exact c2 i hi, fun z => ?_, fun z => ?_, by rw [e 63 (by omega) 4]; exact c5, by rw [e 67 (by omega) 4]; exact c6⟩, RepR_cg (fun cc k hc => h1 cc k (by omega) (by omega) (by omega) (by omega) (by omega) (by omega) (by omega) (by omega) (by omega) (by omega) (by omega)) h2 d1, ?_, by rw [e4]; exact TpC_c e21 d3, ?_, ?_⟩
  · rw [e2]; exact StR_cg (fun cc k hc => e cc (by omega) k) c1
  · rw [ei 0]; rw [e 3 (by omega) 0] at z; exact StR_cg (fun cc k hc => e cc (by omega) k) (c3 z)
  · rw [ei 1]; rw [e 3 (by omega) 1] at z; exact StR_cg (fun cc k hc => e cc (by omega) k) (c4 z)
  · rw [h1 20 1 (by omega) (by omega) (by omega) (by omega) (by omega) (by omega) (by omega) (by omega) (by omega) (by omega) (by omega), e0 6 (by omega)]; exact d2
  · rw [h1 28 2 (by omega) (by omega) (by omega) (by omega) (by omega) (by omega) (by omega) (by omega) (by omega) (by omega) (by omega), e0 16 (by omega)]; exact d4
  · rw [h1 28 3 (by omega) (by omega) (by omega) (by omega) (by omega) (by omega) (by omega) (by omega) (by omega) (by omega) (by omega), e0 17 (by omega)]; exact d5
theorem bumpC_f (ix : Nat) (H : ZH) : (∀ cc k, cc ≠ 25 → (bumpC ix H).1 cc k = H.1 cc k) ∧ (bumpC ix H).2 = H.2 := by
  unfold bumpC
  split
  · exact ⟨fun cc k h => wI1c h, rfl⟩
  · exact ⟨fun _ _ _ => rfl, rfl⟩
theorem bumpM_f (ix : Nat) (H : ZH) : (∀ cc k, cc ≠ 1 → (bumpM ix H).1 cc k = H.1 cc k) ∧ (bumpM ix H).2 = H.2 := by
  unfold bumpM
  split
  · exact ⟨fun cc k h => wI1c h, rfl⟩
  · exact ⟨fun _ _ _ => rfl, rfl⟩
theorem Cn_bump {H : ZH} {n ix : Nat} {Ha : ZH} (e1 : ∀ k, Ha.1 25 k = H.1 25 k) (e2 : ∀ k, Ha.1 1 k = H.1 1 k) (c : Cn H n) : Cn (bumpM ix (bumpC ix Ha)) (n + 1) := by
  intro k hk
  obtain ⟨z1, z2, z3⟩ := c k hk
  have f1 := e1 k
  have f2 := e2 k
  by_cases h : ix < 6
  · have g1 := e1 ix
    have g2 := e2 ix
    have u1 : (bumpM ix (bumpC ix Ha)).1 25 k = if k = ix then Ha.1 25 ix + 1 else Ha.1 25 k := by
      rw [(bumpM_f ix _).1 25 k (by omega)]
      unfold bumpC
      rw [if_pos h, wIp]
    have u2 : (bumpM ix (bumpC ix Ha)).1 1 k = if k = ix then Ha.1 1 ix + 1 else Ha.1 1 k := by
      unfold bumpM
      rw [if_pos h, wIp, (bumpC_f ix _).1 1 ix (by omega), (bumpC_f ix _).1 1 k (by omega)]
    rw [u1, u2]
    by_cases q : k = ix
    · rw [if_pos q, if_pos q, ← q]; omega
    · rw [if_neg q, if_neg q]; omega
  · have u1 : bumpM ix (bumpC ix Ha) = Ha := by
      unfold bumpM bumpC
      rw [if_neg h, if_neg h]
    rw [u1]; omega
theorem Cn_s {H H1 : ZH} {n : Nat} (e1 : ∀ k, H1.1 25 k = H.1 25 k) (e2 : ∀ k, H1.1 1 k = H.1 1 k) (c : Cn H n) : Cn H1 (n + 1) := fun k hk => by
  have z := c k hk
  rw [e1 k, e2 k]
  omega
/-- both were refused, or only told -/
theorem Inv_bump {H : ZH} {n : Nat} (ix : Nat) (I : Inv H n) : Inv (bumpM ix (bumpC ix H)) (n + 1) := by
  have f : ∀ cc k, cc ≠ 1 → cc ≠ 25 → (bumpM ix (bumpC ix H)).1 cc k = H.1 cc k := fun cc k h1 h2 => by rw [(bumpM_f ix _).1 cc k h1, (bumpC_f ix _).1 cc k h2]
  have g : (bumpM ix (bumpC ix H)).2 = H.2 := (bumpM_f ix _).2.trans (bumpC_f ix _).2
  have e2 : (bumpM ix (bumpC ix H)).1 2 = H.1 2 := funext (fun k => f 2 k (by omega) (by omega))
  obtain ⟨j1, j2, j3, j4⟩ := J_cg (H1 := bumpM ix (bumpC ix H)) (fun cc k _ a _ _ _ _ b _ _ _ _ => f cc k a (by omega)) (fun cc k _ => by rw [g]) (fun j hj => by rw [f 6 j (by omega) (by omega)]; exact I.2.1.2.2.2.1 j hj) ⟨I.2.1, I.2.2.1, I.2.2.2.1, I.2.2.2.2.1⟩
  refine ⟨Cn_bump (fun _ => rfl) (fun _ => rfl) I.1, j1, j2, j3, j4, fun z => ?_, ?_⟩
  · rw [e2]
    rw [f 20 8 (by omega) (by omega)] at z
    exact TrS_cg (Inv_tv I z) (fun cc k _ _ => by rw [g]) (f 113 6 (by omega) (by omega))
  · rw [e2]
    exact SpK_cg (f 119 0 (by omega) (by omega)) (fun cc k _ => by rw [g]) (Inv_sk I)
theorem Inv_same {H : ZH} {n : Nat} (I : Inv H n) : Inv H (n + 1) := by
  have y := Inv_bump 6 I
  exact y
/-- the class's call and the reference's, one behind the other: the same answer, and what holds goes on holding -/
def BthI (i j : MI) (as : List Value) (H : ZH) (n : Nat) : Prop := ∃ P1 : Int → ZH → Prop, EvC zX 40 i (.ref 20 :: as) (eh H) (zPi P1) ∧ ∀ r H1, okZ H1 → P1 r H1 → ∃ P2 : Int → ZH → Prop, EvC zX 40 j (.ref 0 :: as) (eh H1) (zPi P2) ∧ ∀ r2 H2, okZ H2 → P2 r2 H2 → r2 = r ∧ Inv H2 (n + 1)
def BthL (i j : MI) (as : List Value) (H : ZH) (n : Nat) : Prop := ∃ P1 : Int → ZH → Prop, EvC zX 40 i (.ref 20 :: as) (eh H) (zPl P1) ∧ ∀ r H1, okZ H1 → P1 r H1 → ∃ P2 : Int → ZH → Prop, EvC zX 40 j (.ref 0 :: as) (eh H1) (zPl P2) ∧ ∀ r2 H2, okZ H2 → P2 r2 H2 → r2 = r ∧ Inv H2 (n + 1)
/-- what the reference needs behind the class's call: its own cells are the same -/
def Lo (H H1 : ZH) : Prop := (∀ cc, cc < 20 → H1.1 cc = H.1 cc) ∧ ∀ cc, cc < 20 → H1.2 cc = H.2 cc
theorem Lo_rf (H : ZH) : Lo H H := ⟨fun _ _ => rfl, fun _ _ => rfl⟩
theorem Lo_b (ix : Nat) (H : ZH) : Lo H (bumpC ix H) := ⟨fun cc h => funext (fun k => (bumpC_f ix H).1 cc k (by omega)), fun cc _ => by rw [(bumpC_f ix H).2]⟩
theorem Lo_cm {H H1 : ZH} {n : Nat} (I : Inv H n) (hn : n ≤ 512) (l : Lo H H1) : cntOK H1 1 := fun k hk => by
  have z := I.1 k hk
  rw [l.1 1 (by omega)]
  omega
theorem Lo_th {H H1 : ZH} {n : Nat} (I : Inv H n) (l : Lo H H1) : H1.1 0 0 = 0 := by rw [l.1 0 (by omega)]; exact I.2.1.1
theorem Lo_2 {H H1 : ZH} (l : Lo H H1) : H1.1 2 = H.1 2 := l.1 2 (by omega)
theorem Lo_ws {H H1 : ZH} {n : Nat} (I : Inv H n) (l : Lo H H1) : WFS (H1.1 2) := by rw [Lo_2 l]; exact Inv_ws I
theorem Lo_wl {H H1 : ZH} {n : Nat} (I : Inv H n) (l : Lo H H1) : WFL (H1.1 2) := by rw [Lo_2 l]; exact Inv_wl I
theorem Lo_wp {H H1 : ZH} {n : Nat} (I : Inv H n) (l : Lo H H1) : WFP (H1.1 2) := by rw [Lo_2 l]; exact Inv_wp I
theorem Lo_wy {H H1 : ZH} {n : Nat} (I : Inv H n) (l : Lo H H1) : WFY (H1.1 2) := by rw [Lo_2 l]; exact Inv_wy I
theorem Lo_rm {H H1 : ZH} {n : Nat} (I : Inv H n) (l : Lo H H1) : rmOK H1 := fun r hr => by rw [l.1 17 (by omega), l.1 18 (by omega)]; exact Inv_rm I r hr
theorem Lo_42 {H H1 : ZH} {n : Nat} (I : Inv H n) (l : Lo H H1) : ∀ j, 42 ≤ j → H1.1 6 j = 0 := fun j hj => by rw [l.1 6 (by omega)]; exact I.2.1.2.2.2.1 j hj
theorem Lo_21 {H H1 : ZH} {n : Nat} (I : Inv H n) (l : Lo H H1) : H1.1 0 21 = -1 := by rw [l.1 0 (by omega)]; exact I.2.1.2.1
theorem Lo_22 {H H1 : ZH} {n : Nat} (I : Inv H n) (l : Lo H H1) : H1.1 0 22 = -1 := by rw [l.1 0 (by omega)]; exact I.2.1.2.2.1
theorem rvM_cg {H H1 : ZH} (h : H1.2 19 = H.2 19) : rvM H1 = rvM H := by
  funext r k
  show H1.2 19 _ = H.2 19 _
  rw [h]

theorem b_car {H : ZH} {n : Nat} (ok : okZ H) (I : Inv H n) (hn : n ≤ 511) {c w : Int} (c1 : -2147483648 ≤ c) (c2 : c ≤ 2147483647) (w1 : -2147483648 ≤ w) (w2 : w ≤ 2147483647)  : BthI mX10_car mX11_car [.int (zN (c)), .int (zN (w))] H n := by
  refine ⟨_, c_X10_car (d := 38) (H := H) ok (c := c) (what := w) (c1 := c1) (c2 := c2) (what1 := w1) (what2 := w2) (cn := (Inv_cn I (by omega))) (ws := (Inv_ws I)) (rs := (Inv_rs I)), fun r H1 ok1 p1 => ?_⟩
  obtain ⟨p1, q1⟩ := p1
  have lo : Lo H H1 := by rw [q1]; exact Lo_b _ H
  refine ⟨_, c_X11_car (d := 37) (H := H1) ok1 (c := c) (what := w) (c1 := c1) (c2 := c2) (what1 := w1) (what2 := w2) (cm := (Lo_cm I (by omega) lo)) (th := (Lo_th I lo)) (ws := (Lo_ws I lo)), fun r2 H2 ok2 p2 => ?_⟩
  obtain ⟨p2, q2⟩ := p2
  try rw [Lo_2 lo] at p2 q2
  refine ⟨p2.trans p1.symm, ?_⟩
  rw [q2, q1]
  exact Inv_bump _ I

theorem b_at {H : ZH} {n : Nat} (ok : okZ H) (I : Inv H n) (hn : n ≤ 511) {a w : Int} (a1 : -2147483648 ≤ a) (a2 : a ≤ 2147483647) (w1 : -2147483648 ≤ w) (w2 : w ≤ 2147483647)  : BthI mX10_at mX11_at [.int (zN (a)), .int (zN (w))] H n := by
  refine ⟨_, c_X10_at (d := 38) (H := H) ok (p := a) (what := w) (p1 := a1) (p2 := a2) (what1 := w1) (what2 := w2) (cn := (Inv_cn I (by omega))) (wp := (Inv_wp I)) (rp := (Inv_rp I)), fun r H1 ok1 p1 => ?_⟩
  obtain ⟨p1, q1⟩ := p1
  have lo : Lo H H1 := by rw [q1]; exact Lo_b _ H
  refine ⟨_, c_X11_at (d := 37) (H := H1) ok1 (p := a) (what := w) (p1 := a1) (p2 := a2) (what1 := w1) (what2 := w2) (cm := (Lo_cm I (by omega) lo)) (th := (Lo_th I lo)) (wp := (Lo_wp I lo)), fun r2 H2 ok2 p2 => ?_⟩
  obtain ⟨p2, q2⟩ := p2
  try rw [Lo_2 lo] at p2 q2
  refine ⟨p2.trans p1.symm, ?_⟩
  rw [q2, q1]
  exact Inv_bump _ I

theorem b_rate {H : ZH} {n : Nat} (ok : okZ H) (I : Inv H n) (hn : n ≤ 511) {w v : Int} (v1 : -2147483648 ≤ v) (v2 : v ≤ 2147483647) (w01 : w = 0 ∨ w = 1) : BthI mX10_rate mX11_rate [.int (zN (w)), .int (zN (v))] H n := by
  refine ⟨_, c_X10_rate (d := 38) (H := H) ok (w := w) (what := v) (w01 := w01) (what1 := v1) (what2 := v2) (cn := (Inv_cn I (by omega))) (wp := (Inv_wp I)) (rp := (Inv_rp I)), fun r H1 ok1 p1 => ?_⟩
  obtain ⟨p1, q1⟩ := p1
  have lo : Lo H H1 := by rw [q1]; exact Lo_b _ H
  refine ⟨_, c_X11_rate (d := 38) (H := H1) ok1 (w := w) (what := v) (w01 := w01) (what1 := v1) (what2 := v2) (cm := (Lo_cm I (by omega) lo)) (th := (Lo_th I lo)) (wp := (Lo_wp I lo)), fun r2 H2 ok2 p2 => ?_⟩
  obtain ⟨p2, q2⟩ := p2
  try rw [Lo_2 lo] at p2 q2
  refine ⟨p2.trans p1.symm, ?_⟩
  rw [q2, q1]
  exact Inv_bump _ I

theorem b_parted {H : ZH} {n : Nat} (ok : okZ H) (I : Inv H n) (hn : n ≤ 511) : BthI mX10_parted mX11_parted [] H n := by
  refine ⟨_, c_X10_parted (d := 37) (H := H) ok (wp := (Inv_wp I)) (rp := (Inv_rp I)), fun r H1 ok1 p1 => ?_⟩
  obtain ⟨p1, q1⟩ := p1
  have lo : Lo H H1 := by rw [q1]; exact Lo_rf H
  refine ⟨_, c_X11_parted (d := 37) (H := H1) ok1 (th := (Lo_th I lo)) (wp := (Lo_wp I lo)), fun r2 H2 ok2 p2 => ?_⟩
  obtain ⟨p2, q2⟩ := p2
  rw [Lo_2 lo] at p2
  refine ⟨p2.trans p1.symm, ?_⟩
  rw [q2, q1]
  exact Inv_same I

theorem b_worst {H : ZH} {n : Nat} (ok : okZ H) (I : Inv H n) (hn : n ≤ 511) {k w : Int} (k1 : -2147483648 ≤ k) (k2 : k ≤ 2147483647) (w1 : -2147483648 ≤ w) (w2 : w ≤ 2147483647)  : BthI mX10_worst mX11_worst [.int (zN (k)), .int (zN (w))] H n := by
  refine ⟨_, c_X10_worst (d := 36) (H := H) ok (k := k) (what := w) (k1 := k1) (k2 := k2) (what1 := w1) (what2 := w2) (cn := (Inv_cn I (by omega))) (wp := (Inv_wp I)) (rp := (Inv_rp I)), fun r H1 ok1 p1 => ?_⟩
  obtain ⟨p1, q1⟩ := p1
  have lo : Lo H H1 := by rw [q1]; exact Lo_b _ H
  refine ⟨_, c_X11_worst (d := 37) (H := H1) ok1 (k := k) (what := w) (k1 := k1) (k2 := k2) (what1 := w1) (what2 := w2) (cm := (Lo_cm I (by omega) lo)) (th := (Lo_th I lo)) (wp := (Lo_wp I lo)), fun r2 H2 ok2 p2 => ?_⟩
  obtain ⟨p2, q2⟩ := p2
  try rw [Lo_2 lo] at p2 q2
  refine ⟨p2.trans p1.symm, ?_⟩
  rw [q2, q1]
  exact Inv_bump _ I

theorem b_ranked {H : ZH} {n : Nat} (ok : okZ H) (I : Inv H n) (hn : n ≤ 511) {k : Int} (k1 : -2147483648 ≤ k) (k2 : k ≤ 2147483647)  : BthI mX10_ranked mX11_ranked [.int (zN (k))] H n := by
  refine ⟨_, c_X10_ranked (d := 37) (H := H) ok (k := k) (k1 := k1) (k2 := k2) (wp := (Inv_wp I)) (rp := (Inv_rp I)), fun r H1 ok1 p1 => ?_⟩
  obtain ⟨p1, q1⟩ := p1
  have lo : Lo H H1 := by rw [q1]; exact Lo_rf H
  refine ⟨_, c_X11_ranked (d := 37) (H := H1) ok1 (k := k) (k1 := k1) (k2 := k2) (th := (Lo_th I lo)) (wp := (Lo_wp I lo)), fun r2 H2 ok2 p2 => ?_⟩
  obtain ⟨p2, q2⟩ := p2
  rw [Lo_2 lo] at p2
  refine ⟨p2.trans p1.symm, ?_⟩
  rw [q2, q1]
  exact Inv_same I

theorem b_fine {H : ZH} {n : Nat} (ok : okZ H) (I : Inv H n) (hn : n ≤ 511) {w b e m : Int} (w1 : -2147483648 ≤ w) (w2 : w ≤ 2147483647) (b1 : -2147483648 ≤ b) (b2 : b ≤ 2147483647) (e1 : -2147483648 ≤ e) (e2 : e ≤ 2147483647) (m1 : -2147483648 ≤ m) (m2 : m ≤ 2147483647)  : BthI mX10_fine mX11_fine [.int (zN (w)), .int (zN (b)), .int (zN (e)), .int (zN (m))] H n := by
  refine ⟨_, c_X10_fine (d := 37) (H := H) ok (w := w) (base := b) (dd := e) (mo := m) (w1 := w1) (w2 := w2) (base1 := b1) (base2 := b2) (dd1 := e1) (dd2 := e2) (mo1 := m1) (mo2 := m2) (cn := (Inv_cn I (by omega))), fun r H1 ok1 p1 => ?_⟩
  obtain ⟨p1, q1⟩ := p1
  have lo : Lo H H1 := by rw [q1]; exact Lo_b _ H
  refine ⟨_, c_X11_fine (d := 38) (H := H1) ok1 (w := w) (base := b) (dd := e) (mo := m) (w1 := w1) (w2 := w2) (base1 := b1) (base2 := b2) (dd1 := e1) (dd2 := e2) (mo1 := m1) (mo2 := m2) (cm := (Lo_cm I (by omega) lo)) (th := (Lo_th I lo)), fun r2 H2 ok2 p2 => ?_⟩
  obtain ⟨p2, q2⟩ := p2
  try rw [Lo_2 lo] at p2 q2
  refine ⟨p2.trans p1.symm, ?_⟩
  rw [q2, q1]
  exact Inv_bump _ I

theorem b_until {H : ZH} {n : Nat} (ok : okZ H) (I : Inv H n) (hn : n ≤ 511) {w b e m : Int} (w1 : -2147483648 ≤ w) (w2 : w ≤ 2147483647) (b1 : -2147483648 ≤ b) (b2 : b ≤ 2147483647) (e1 : -2147483648 ≤ e) (e2 : e ≤ 2147483647) (m1 : -2147483648 ≤ m) (m2 : m ≤ 2147483647)  : BthI mX10_until mX11_until [.int (zN (w)), .int (zN (b)), .int (zN (e)), .int (zN (m))] H n := by
  refine ⟨_, c_X10_until (d := 37) (H := H) ok (w := w) (base := b) (dd := e) (near := m) (w1 := w1) (w2 := w2) (base1 := b1) (base2 := b2) (dd1 := e1) (dd2 := e2) (near1 := m1) (near2 := m2) (cn := (Inv_cn I (by omega))), fun r H1 ok1 p1 => ?_⟩
  obtain ⟨p1, q1⟩ := p1
  have lo : Lo H H1 := by rw [q1]; exact Lo_b _ H
  refine ⟨_, c_X11_until (d := 38) (H := H1) ok1 (w := w) (base := b) (dd := e) (near := m) (w1 := w1) (w2 := w2) (base1 := b1) (base2 := b2) (dd1 := e1) (dd2 := e2) (near1 := m1) (near2 := m2) (cm := (Lo_cm I (by omega) lo)) (th := (Lo_th I lo)), fun r2 H2 ok2 p2 => ?_⟩
  obtain ⟨p2, q2⟩ := p2
  try rw [Lo_2 lo] at p2 q2
  refine ⟨p2.trans p1.symm, ?_⟩
  rw [q2, q1]
  exact Inv_bump _ I

theorem b_lot {H : ZH} {n : Nat} (ok : okZ H) (I : Inv H n) (hn : n ≤ 511) {a b : Int} (a1 : -2147483648 ≤ a) (a2 : a ≤ 2147483647) (b1 : -2147483648 ≤ b) (b2 : b ≤ 2147483647)  : BthI mX10_lot mX11_lot [.int (zN (a)), .int (zN (b))] H n := by
  refine ⟨_, c_X10_lot (d := 38) (H := H) ok (p := a) (q := b) (p1 := a1) (p2 := a2) (q1 := b1) (q2 := b2) (cn := (Inv_cn I (by omega))), fun r H1 ok1 p1 => ?_⟩
  obtain ⟨p1, q1⟩ := p1
  have lo : Lo H H1 := by rw [q1]; exact Lo_b _ H
  refine ⟨_, c_X11_lot (d := 38) (H := H1) ok1 (p := a) (q := b) (p1 := a1) (p2 := a2) (q1 := b1) (q2 := b2) (cm := (Lo_cm I (by omega) lo)) (th := (Lo_th I lo)), fun r2 H2 ok2 p2 => ?_⟩
  obtain ⟨p2, q2⟩ := p2
  try rw [Lo_2 lo] at p2 q2
  refine ⟨p2.trans p1.symm, ?_⟩
  rw [q2, q1]
  exact Inv_bump _ I

theorem b_shown {H : ZH} {n : Nat} (ok : okZ H) (I : Inv H n) (hn : n ≤ 511) {a x b m : Int} (a1 : -2147483648 ≤ a) (a2 : a ≤ 2147483647) (x1 : -2147483648 ≤ x) (x2 : x ≤ 2147483647) (b1 : -2147483648 ≤ b) (b2 : b ≤ 2147483647) (m1 : -2147483648 ≤ m) (m2 : m ≤ 2147483647)  : BthI mX10_shown mX11_shown [.int (zN (a)), .int (zN (x)), .int (zN (b)), .int (zN (m))] H n := by
  refine ⟨_, c_X10_shown (d := 38) (H := H) ok (a := a) (n := x) (b := b) (m := m) (a1 := a1) (a2 := a2) (n1 := x1) (n2 := x2) (b1 := b1) (b2 := b2) (m1 := m1) (m2 := m2) (cn := (Inv_cn I (by omega))), fun r H1 ok1 p1 => ?_⟩
  obtain ⟨p1, q1⟩ := p1
  have lo : Lo H H1 := by rw [q1]; exact Lo_b _ H
  refine ⟨_, c_X11_shown (d := 38) (H := H1) ok1 (a := a) (n := x) (b := b) (m := m) (a1 := a1) (a2 := a2) (n1 := x1) (n2 := x2) (b1 := b1) (b2 := b2) (m1 := m1) (m2 := m2) (cm := (Lo_cm I (by omega) lo)) (th := (Lo_th I lo)), fun r2 H2 ok2 p2 => ?_⟩
  obtain ⟨p2, q2⟩ := p2
  try rw [Lo_2 lo] at p2 q2
  refine ⟨p2.trans p1.symm, ?_⟩
  rw [q2, q1]
  exact Inv_bump _ I

theorem b_lamp {H : ZH} {n : Nat} (ok : okZ H) (I : Inv H n) (hn : n ≤ 511) {a b w : Int} (a1 : -2147483648 ≤ a) (a2 : a ≤ 2147483647) (b1 : -2147483648 ≤ b) (b2 : b ≤ 2147483647) (w1 : -2147483648 ≤ w) (w2 : w ≤ 2147483647)  : BthI mX10_lamp mX11_lamp [.int (zN (a)), .int (zN (b)), .int (zN (w))] H n := by
  refine ⟨_, c_X10_lamp (d := 38) (H := H) ok (ca := a) (wa := b) (what := w) (ca1 := a1) (ca2 := a2) (wa1 := b1) (wa2 := b2) (what1 := w1) (what2 := w2) (cn := (Inv_cn I (by omega))), fun r H1 ok1 p1 => ?_⟩
  obtain ⟨p1, q1⟩ := p1
  have lo : Lo H H1 := by rw [q1]; exact Lo_b _ H
  refine ⟨_, c_X11_lamp (d := 38) (H := H1) ok1 (ca := a) (wa := b) (what := w) (ca1 := a1) (ca2 := a2) (wa1 := b1) (wa2 := b2) (what1 := w1) (what2 := w2) (cm := (Lo_cm I (by omega) lo)) (th := (Lo_th I lo)), fun r2 H2 ok2 p2 => ?_⟩
  obtain ⟨p2, q2⟩ := p2
  try rw [Lo_2 lo] at p2 q2
  refine ⟨p2.trans p1.symm, ?_⟩
  rw [q2, q1]
  exact Inv_bump _ I

theorem b_rests {H : ZH} {n : Nat} (ok : okZ H) (I : Inv H n) (hn : n ≤ 511) {k m w : Int} (k1 : -2147483648 ≤ k) (k2 : k ≤ 2147483647) (m1 : -2147483648 ≤ m) (m2 : m ≤ 2147483647) (w1 : -2147483648 ≤ w) (w2 : w ≤ 2147483647)  : BthI mX10_rests mX11_rests [.int (zN (k)), .int (zN (m)), .int (zN (w))] H n := by
  refine ⟨_, c_X10_rests (d := 37) (H := H) ok (k := k) (m := m) (what := w) (k1 := k1) (k2 := k2) (m1 := m1) (m2 := m2) (what1 := w1) (what2 := w2) (cn := (Inv_cn I (by omega))) (wy := (Inv_wy I)) (ry := (Inv_ry I)), fun r H1 ok1 p1 => ?_⟩
  obtain ⟨p1, q1⟩ := p1
  have lo : Lo H H1 := by rw [q1]; exact Lo_b _ H
  refine ⟨_, c_X11_rests (d := 37) (H := H1) ok1 (k := k) (m := m) (what := w) (k1 := k1) (k2 := k2) (m1 := m1) (m2 := m2) (what1 := w1) (what2 := w2) (cm := (Lo_cm I (by omega) lo)) (th := (Lo_th I lo)) (wy := (Lo_wy I lo)), fun r2 H2 ok2 p2 => ?_⟩
  obtain ⟨p2, q2⟩ := p2
  try rw [Lo_2 lo] at p2 q2
  refine ⟨p2.trans p1.symm, ?_⟩
  rw [q2, q1]
  exact Inv_bump _ I

theorem b_thanks {H : ZH} {n : Nat} (ok : okZ H) (I : Inv H n) (hn : n ≤ 511) {s t a b m : Int} (s1 : -2147483648 ≤ s) (s2 : s ≤ 2147483647) (t1 : -2147483648 ≤ t) (t2 : t ≤ 2147483647) (a1 : -2147483648 ≤ a) (a2 : a ≤ 2147483647) (b1 : -2147483648 ≤ b) (b2 : b ≤ 2147483647) (m1 : -2147483648 ≤ m) (m2 : m ≤ 2147483647)  : BthI mX10_thanks mX11_thanks [.int (zN (s)), .int (zN (t)), .int (zN (a)), .int (zN (b)), .int (zN (m))] H n := by
  refine ⟨_, c_X10_thanks (d := 38) (H := H) ok (s := s) (t := t) (a := a) (b := b) (n := m) (s1 := s1) (s2 := s2) (t1 := t1) (t2 := t2) (a1 := a1) (a2 := a2) (b1 := b1) (b2 := b2) (n1 := m1) (n2 := m2) (cn := (Inv_cn I (by omega))), fun r H1 ok1 p1 => ?_⟩
  obtain ⟨p1, q1⟩ := p1
  have lo : Lo H H1 := by rw [q1]; exact Lo_b _ H
  refine ⟨_, c_X11_thanks (d := 38) (H := H1) ok1 (s := s) (t := t) (a := a) (b := b) (n := m) (s1 := s1) (s2 := s2) (t1 := t1) (t2 := t2) (a1 := a1) (a2 := a2) (b1 := b1) (b2 := b2) (n1 := m1) (n2 := m2) (cm := (Lo_cm I (by omega) lo)) (th := (Lo_th I lo)), fun r2 H2 ok2 p2 => ?_⟩
  obtain ⟨p2, q2⟩ := p2
  try rw [Lo_2 lo] at p2 q2
  refine ⟨p2.trans p1.symm, ?_⟩
  rw [q2, q1]
  exact Inv_bump _ I

theorem b_filled {H : ZH} {n : Nat} (ok : okZ H) (I : Inv H n) (hn : n ≤ 511) {w i : Int} (w1 : -2147483648 ≤ w) (w2 : w ≤ 2147483647) (i1 : -2147483648 ≤ i) (i2 : i ≤ 2147483647)  : BthI mX10_filled mX11_filled [.int (zN (w)), .int (zN (i))] H n := by
  refine ⟨_, c_X10_filled (d := 38) (H := H) ok (row := w) (i := i) (row1 := w1) (row2 := w2) (i1 := i1) (i2 := i2) (cn := (Inv_cn I (by omega))) (rr := (Inv_rr I)) (rm := (Inv_rm I)), fun r H1 ok1 p1 => ?_⟩
  obtain ⟨p1, q1⟩ := p1
  have lo : Lo H H1 := by rw [q1]; exact Lo_b _ H
  refine ⟨_, c_X11_filled (d := 38) (H := H1) ok1 (row := w) (i := i) (row1 := w1) (row2 := w2) (i1 := i1) (i2 := i2) (cm := (Lo_cm I (by omega) lo)) (th := (Lo_th I lo)) (rm := (Lo_rm I lo)), fun r2 H2 ok2 p2 => ?_⟩
  obtain ⟨p2, q2⟩ := p2
  have e17 := lo.1 17 (by omega)
  have e18 := lo.1 18 (by omega)
  have erv := rvM_cg (lo.2 19 (by omega))
  unfold S_filled at p1 q1 p2 q2
  rw [e17, e18, erv] at p2 q2
  refine ⟨p2.trans p1.symm, ?_⟩
  rw [q2, q1]
  exact Inv_bump _ I
