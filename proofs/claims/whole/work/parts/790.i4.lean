/-! GROUP I4: the rest of the calls. -/
theorem S_place_6 {A : Nat → Int} {a b c e : Int} (h : (S_place A a b c e).2 = 6) : A 477 ≠ 12 ∧ ((0 ≤ a ∧ a ≤ 300) ∧ (0 ≤ b ∧ b ≤ 300)) ∧ (0 ≤ c ∧ c ≤ a) ∧ (0 ≤ e ∧ e ≤ b) := by
  unfold S_place at h
  by_cases z : A 477 ≠ 12
  · rw [if_pos z] at h
    by_cases y : ((0 ≤ a ∧ a ≤ 300) ∧ (0 ≤ b ∧ b ≤ 300)) ∧ (0 ≤ c ∧ c ≤ a) ∧ (0 ≤ e ∧ e ≤ b)
    · exact ⟨z, y⟩
    · rw [if_neg y] at h; exact absurd h (by decide)
  · rw [if_neg z] at h; exact absurd h (by decide)
/-- all but the reference's own cells that a call of the class may not touch -/
theorem Inv_cs {H H2 : ZH} {n : Nat} (I : Inv H n) (h1 : ∀ cc k, ¬ (cc = 119 ∧ (k = 0 ∨ k = 4)) → cc ≠ 14 → cc ≠ 15 → cc ≠ 122 → cc ≠ 123 → H2.1 cc k = H.1 cc k) (h2 : ∀ cc k, cc ≠ 120 → cc ≠ 121 → cc ≠ 124 → H2.2 cc k = H.2 cc k) (sk : SpK H2 (H.1 2)) : Inv H2 (n + 1) := by
  have g : ∀ cc k, cc ≠ 119 → cc ≠ 14 → cc ≠ 15 → cc ≠ 122 → cc ≠ 123 → H2.1 cc k = H.1 cc k := fun cc k a b c d e => h1 cc k (by omega) b c d e
  have e2 : H2.1 2 = H.1 2 := funext (fun k => g 2 k (by omega) (by omega) (by omega) (by omega) (by omega))
  obtain ⟨j1, j2, j3, j4⟩ := J_cg (H1 := H2) (fun cc k a0 a1 a2 a3 a4 a5 a6 a7 a8 a9 a10 => h1 cc k (by omega) (by omega) (by omega) (by omega) (by omega)) (fun cc k hc => h2 cc k (by omega) (by omega) (by omega)) (fun j hj => by rw [g 6 j (by omega) (by omega) (by omega) (by omega) (by omega)]; exact I.2.1.2.2.2.1 j hj) ⟨I.2.1, I.2.2.1, I.2.2.2.1, I.2.2.2.2.1⟩
  refine ⟨Cn_s (fun k => g 25 k (by omega) (by omega) (by omega) (by omega) (by omega)) (fun k => g 1 k (by omega) (by omega) (by omega) (by omega) (by omega)) I.1, j1, j2, j3, j4, fun z => ?_, by rw [e2]; exact sk⟩
  rw [e2]
  rw [g 20 8 (by omega) (by omega) (by omega) (by omega) (by omega)] at z
  exact TrS_cg (Inv_tv I z) (fun cc k a b => h2 cc k (by omega) (by omega) (by omega)) (g 113 6 (by omega) (by omega) (by omega) (by omega) (by omega))
theorem S_feed_6 {t : Int} (h : (S_feed t).2 = 6) : t + 20 ≤ 400 := by
  unfold S_feed at h
  by_cases z : t + 20 ≤ 400
  · exact z
  · rw [if_neg z] at h; exact absurd h (by decide)
theorem bm_lo {x : Int} (h0 : 0 ≤ x) (h : x < 128) : x.bmod 256 = x := Int.bmod_eq_of_le (by omega) (by omega)
theorem bm_hi {x : Int} (h0 : 128 ≤ x) (h : x ≤ 255) : x.bmod 256 = x - 256 := by
  rw [Int.bmod_def]
  have e : x % 256 = x := Int.emod_eq_of_lt (by omega) (by omega)
  show (if x % 256 < (256 + 1) / 2 then x % 256 else x % 256 - 256) = _
  rw [e, if_neg (by omega)]
/-- only the tape and its length change, or the rows of numbers, or the faults told -/
theorem Inv_tp {H H2 : ZH} {n : Nat} (I : Inv H n) (h1 : ∀ cc k, ¬ (cc = 0 ∧ k = 6) → cc ≠ 4 → cc ≠ 17 → cc ≠ 18 → cc ≠ 21 → ¬ (cc = 20 ∧ k = 1) → ¬ (125 ≤ cc ∧ cc ≤ 132) → H2.1 cc k = H.1 cc k) (h2 : ∀ cc k, cc ≠ 19 → ¬ (125 ≤ cc ∧ cc ≤ 132) → H2.2 cc k = H.2 cc k) (ht : 0 ≤ H2.1 0 6 ∧ H2.1 0 6 ≤ 400) (h4 : ∀ k, 0 ≤ H2.1 4 k ∧ H2.1 4 k ≤ 255) (hm : rmOK H2) (hr : RepR H2) (hl : H2.1 20 1 = H2.1 0 6) (hT : TpC H2 (H2.1 4) 400) : Inv H2 (n + 1) := by
  obtain ⟨cn, ⟨a1, a2, a3, a4, a5, a6, a7⟩, ⟨b1, b2⟩, ⟨c1, c2, c3, c4, c5, c6⟩, ⟨d1, d2, d3, d4, d5⟩, e1, e3⟩ := I
  have e : ∀ cc, cc ≠ 0 → cc ≠ 4 → cc ≠ 17 → cc ≠ 18 → cc ≠ 21 → cc ≠ 20 → ¬ (125 ≤ cc ∧ cc ≤ 132) → ∀ k, H2.1 cc k = H.1 cc k := fun cc x1 x2 x3 x4 x5 x6 x7 k => h1 cc k (by omega) x2 x3 x4 x5 (by omega) x7
  have e' : ∀ cc, cc ≠ 0 → cc ≠ 4 → cc ≠ 17 → cc ≠ 18 → cc ≠ 21 → cc ≠ 20 → ¬ (125 ≤ cc ∧ cc ≤ 132) → H2.1 cc = H.1 cc := fun cc x1 x2 x3 x4 x5 x6 x7 => funext (e cc x1 x2 x3 x4 x5 x6 x7)
  have z0 : ∀ k, k ≠ 6 → H2.1 0 k = H.1 0 k := fun k hk => h1 0 k (by omega) (by omega) (by omega) (by omega) (by omega) (by omega) (by omega)
  have f2 : H2.1 2 = H.1 2 := e' 2 (by omega) (by omega) (by omega) (by omega) (by omega) (by omega) (by omega)
  have f3 : H2.1 3 = H.1 3 := e' 3 (by omega) (by omega) (by omega) (by omega) (by omega) (by omega) (by omega)
  have ei : ∀ i, imq H2 i = imq H i := fun i => by funext j; unfold imq; rw [f2]
  have ec : ∀ a b c s q, (5 ≤ a ∧ a ≤ 120 ∧ a ≠ 17 ∧ a ≠ 18 ∧ a ≠ 20 ∧ a ≠ 21) → 35 ≤ a → 35 ≤ b → 35 ≤ c → 35 ≤ s → a ≤ 110 → b ≤ 110 → c ≤ 110 → s ≤ 110 → StR H a b c s q → StR H2 a b c s q := fun a b c s q _ x1 x2 x3 x4 x5 x6 x7 x8 => StR_cg (fun cc k hc => e cc (by omega) (by omega) (by omega) (by omega) (by omega) (by omega) (by omega) k)
  refine ⟨Cn_s (e 25 (by omega) (by omega) (by omega) (by omega) (by omega) (by omega) (by omega)) (e 1 (by omega) (by omega) (by omega) (by omega) (by omega) (by omega) (by omega)) cn, ⟨(z0 0 (by omega)).trans a1, (z0 21 (by omega)).trans a2, (z0 22 (by omega)).trans a3, fun j hj => (e 6 (by omega) (by omega) (by omega) (by omega) (by omega) (by omega) (by omega) j).trans (a4 j hj), ht, h4, hm⟩, ⟨by rw [f2]; exact b1, fun i hi => by rw [f3, ei i]; exact b2 i hi⟩, ⟨by rw [f2]; exact ec _ _ _ _ _ (by omega) (by omega) (by omega) (by omega) (by omega) (by omega) (by omega) (by omega) (by omega) c1, fun i hi => ?_, fun z => ?_, fun z => ?_, ?_, ?_⟩, ⟨hr, hl, hT, ?_, ?_⟩, fun z => ?_, ?_⟩
  · rw [e 22 (by omega) (by omega) (by omega) (by omega) (by omega) (by omega) (by omega) i, f3]; exact c2 i hi
  · rw [ei 0]; rw [f3] at z
    exact ec _ _ _ _ _ (by omega) (by omega) (by omega) (by omega) (by omega) (by omega) (by omega) (by omega) (by omega) (c3 z)
  · rw [ei 1]; rw [f3] at z
    exact ec _ _ _ _ _ (by omega) (by omega) (by omega) (by omega) (by omega) (by omega) (by omega) (by omega) (by omega) (c4 z)
  · rw [e 63 (by omega) (by omega) (by omega) (by omega) (by omega) (by omega) (by omega) 4]; exact c5
  · rw [e 67 (by omega) (by omega) (by omega) (by omega) (by omega) (by omega) (by omega) 4]; exact c6
  · rw [e 28 (by omega) (by omega) (by omega) (by omega) (by omega) (by omega) (by omega) 2, z0 16 (by omega)]; exact d4
  · rw [e 28 (by omega) (by omega) (by omega) (by omega) (by omega) (by omega) (by omega) 3, z0 17 (by omega)]; exact d5
  · rw [f2]
    rw [h1 20 8 (by omega) (by omega) (by omega) (by omega) (by omega) (by omega) (by omega)] at z
    exact TrS_cg (e1 z) (fun cc k _ _ => h2 cc k (by omega) (by omega)) (e 113 (by omega) (by omega) (by omega) (by omega) (by omega) (by omega) (by omega) 6)
  · rw [f2]
    exact SpK_cg (e 119 (by omega) (by omega) (by omega) (by omega) (by omega) (by omega) (by omega) 0) (fun cc k hc => h2 cc k (by omega) (by omega)) e3
theorem S_numbers_6 {a b c : Int} (h : (S_numbers a b c).2 = 6) : ((0 ≤ a ∧ a ≤ 3) ∧ (0 ≤ b ∧ b ≤ 3)) ∧ (0 ≤ c ∧ c ≤ 40) := by
  unfold S_numbers at h
  by_cases z : (0 ≤ a ∧ a ≤ 3) ∧ (0 ≤ b ∧ b ≤ 3)
  · rw [if_pos z] at h
    by_cases y : 0 ≤ c ∧ c ≤ 40
    · exact ⟨z, y⟩
    · rw [if_neg y] at h; exact absurd h (by decide)
  · rw [if_neg z] at h; exact absurd h (by decide)
theorem S_write_6 {H : ZH} {a b c : Int} (h : (S_write H a b c).2 = 6) : (0 ≤ a ∧ a ≤ 3) ∧ H.1 17 a.toNat ≠ -1 ∧ (0 ≤ b ∧ b < H.1 18 a.toNat) := by
  unfold S_write at h
  by_cases z : 0 ≤ a ∧ a ≤ 3
  · rw [if_pos z] at h
    by_cases y : H.1 17 a.toNat ≠ -1
    · rw [if_pos y] at h
      by_cases x : 0 ≤ b ∧ b < H.1 18 a.toNat
      · exact ⟨z, y, x⟩
      · rw [if_neg x] at h; exact absurd h (by decide)
    · rw [if_neg y] at h; exact absurd h (by decide)
  · rw [if_neg z] at h; exact absurd h (by decide)

theorem b_place {H : ZH} {n : Nat} (ok : okZ H) (I : Inv H n) (hn : n ≤ 511) {pa old oth ho hu : Int} (old1 : -2147483648 ≤ old) (old2 : old ≤ 2147483647) (oth1 : -2147483648 ≤ oth) (oth2 : oth ≤ 2147483647) (ho1 : -2147483648 ≤ ho) (ho2 : ho ≤ 2147483647) (hu1 : -2147483648 ≤ hu) (hu2 : hu ≤ 2147483647) (pa01 : pa = 0 ∨ pa = 1) : BthI mX10_place mX11_place [.int (zN (pa)), .int (zN (old)), .int (zN (oth)), .int (zN (ho)), .int (zN (hu))] H n := by
  refine ⟨_, c_X10_place (d := 38) (H := H) ok (pa := pa) (old := old) (others := oth) (ho := ho) (hu := hu) (pa01 := pa01) (old1 := old1) (old2 := old2) (others1 := oth1) (others2 := oth2) (ho1 := ho1) (ho2 := ho2) (hu1 := hu1) (hu2 := hu2) (cn := (Inv_cn I (by omega))) (wp := (Inv_wp I)) (rp := (Inv_rp I)), fun r H1 ok1 p1 => ?_⟩
  obtain ⟨p1, q1⟩ := p1
  have lo : Lo H H1 := by
    rw [q1]
    split
    · exact ⟨fun cc h => funext (fun k => by rw [wI1c (by omega)]; rw [wI1c (by omega)]; rw [wI1c (by omega)]; rw [wI1c (by omega)]; rw [wI1c (by omega)]; rw [wI1c (by omega)]; rw [wI1c (by omega)]; rw [wI1c (by omega)]), fun _ _ => rfl⟩
    · exact Lo_b _ H
  refine ⟨_, c_X11_place (d := 38) (H := H1) ok1 (pa := pa) (old := old) (others := oth) (ho := ho) (hu := hu) (pa01 := pa01) (old1 := old1) (old2 := old2) (others1 := oth1) (others2 := oth2) (ho1 := ho1) (ho2 := ho2) (hu1 := hu1) (hu2 := hu2) (cm := (Lo_cm I (by omega) lo)) (th := (Lo_th I lo)) (wp := (Lo_wp I lo)), fun r2 H2 ok2 p2 => ?_⟩
  obtain ⟨p2, q2⟩ := p2
  rw [Lo_2 lo] at p2 q2
  refine ⟨p2.trans p1.symm, ?_⟩
  by_cases h6 : (S_place (H.1 2) old oth ho hu).2 = 6
  · rw [if_pos h6] at q1 q2
    have hc := S_place_6 h6
    have wp := Inv_wp I
    have st := I.2.2.2.1.1
    obtain ⟨N, hN⟩ : ∃ N : Nat, (H.1 2 477).toNat = N := ⟨_, rfl⟩
    have n12 := wp.1
    have hNi : H.1 2 477 = (N : Int) := by omega
    have hN12 : N < 12 := by omega
    rw [hN] at q1 q2
    have e2 : H2.1 2 = upA (upA (upA (upA (upA (upA (upA (H.1 2) (478 + N) pa) (490 + N) old) (502 + N) oth) (514 + N) ho) (526 + N) hu) (538 + N) 0) 477 (H.1 2 477 + 1) := by rw [q2]; simp only [wI_up]; rw [Lo_2 lo]
    have f : ∀ cc k, cc ≠ 2 → ¬ (71 ≤ cc ∧ cc ≤ 77) → cc ≠ 119 → H2.1 cc k = H.1 cc k := fun cc k x y z => by rw [q2, wI1c x, wI1c x, wI1c x, wI1c x, wI1c x, wI1c x, wI1c x, q1, wI1c (by omega), wI1c (by omega), wI1c (by omega), wI1c (by omega), wI1c (by omega), wI1c (by omega), wI1c (by omega), wI1c (by omega)]
    have f2 : H2.2 = H.2 := by rw [q2, q1]; rfl
    have hq : ∀ j, j < 477 ∨ 550 ≤ j → H2.1 2 j = H.1 2 j := fun j hj => by rw [e2, upA_ne (by omega), upA_ne (by omega), upA_ne (by omega), upA_ne (by omega), upA_ne (by omega), upA_ne (by omega), upA_ne (by omega)]
    have e477 : H2.1 2 477 = H.1 2 477 + 1 := by rw [e2, upA_at]
    have v0 : ∀ p, p < 12 → H2.1 2 (478 + p) = if p = N then pa else H.1 2 (478 + p) := fun p hp => by
      rw [e2]
      by_cases z : p = N
      · rw [if_pos z, z, upA_ne (by omega), upA_ne (by omega), upA_ne (by omega), upA_ne (by omega), upA_ne (by omega), upA_ne (by omega), upA_at]
      · rw [if_neg z, upA_ne (by omega), upA_ne (by omega), upA_ne (by omega), upA_ne (by omega), upA_ne (by omega), upA_ne (by omega), upA_ne (by omega)]
    have w0 : ∀ p, p < 12 → H2.1 72 p = if p = N then pa else H.1 72 p := fun p hp => by
      rw [q2, wI1c (by omega), wI1c (by omega), wI1c (by omega), wI1c (by omega), wI1c (by omega), wI1c (by omega), wI1c (by omega), q1]
      by_cases z : p = N
      · rw [if_pos z, z, wI1c (by omega), wI1c (by omega), wI1c (by omega), wI1c (by omega), wI1c (by omega), wI1c (by omega), wI1]
      · rw [if_neg z, wI1c (by omega), wI1c (by omega), wI1c (by omega), wI1c (by omega), wI1c (by omega), wI1c (by omega), wI1k z, wI1c (by omega)]
    have v1 : ∀ p, p < 12 → H2.1 2 (490 + p) = if p = N then old else H.1 2 (490 + p) := fun p hp => by
      rw [e2]
      by_cases z : p = N
      · rw [if_pos z, z, upA_ne (by omega), upA_ne (by omega), upA_ne (by omega), upA_ne (by omega), upA_ne (by omega), upA_at]
      · rw [if_neg z, upA_ne (by omega), upA_ne (by omega), upA_ne (by omega), upA_ne (by omega), upA_ne (by omega), upA_ne (by omega), upA_ne (by omega)]
    have w1 : ∀ p, p < 12 → H2.1 73 p = if p = N then old else H.1 73 p := fun p hp => by
      rw [q2, wI1c (by omega), wI1c (by omega), wI1c (by omega), wI1c (by omega), wI1c (by omega), wI1c (by omega), wI1c (by omega), q1]
      by_cases z : p = N
      · rw [if_pos z, z, wI1c (by omega), wI1c (by omega), wI1c (by omega), wI1c (by omega), wI1c (by omega), wI1]
      · rw [if_neg z, wI1c (by omega), wI1c (by omega), wI1c (by omega), wI1c (by omega), wI1c (by omega), wI1k z, wI1c (by omega), wI1c (by omega)]
    have v2 : ∀ p, p < 12 → H2.1 2 (502 + p) = if p = N then oth else H.1 2 (502 + p) := fun p hp => by
      rw [e2]
      by_cases z : p = N
      · rw [if_pos z, z, upA_ne (by omega), upA_ne (by omega), upA_ne (by omega), upA_ne (by omega), upA_at]
      · rw [if_neg z, upA_ne (by omega), upA_ne (by omega), upA_ne (by omega), upA_ne (by omega), upA_ne (by omega), upA_ne (by omega), upA_ne (by omega)]
    have w2 : ∀ p, p < 12 → H2.1 74 p = if p = N then oth else H.1 74 p := fun p hp => by
      rw [q2, wI1c (by omega), wI1c (by omega), wI1c (by omega), wI1c (by omega), wI1c (by omega), wI1c (by omega), wI1c (by omega), q1]
      by_cases z : p = N
      · rw [if_pos z, z, wI1c (by omega), wI1c (by omega), wI1c (by omega), wI1c (by omega), wI1]
      · rw [if_neg z, wI1c (by omega), wI1c (by omega), wI1c (by omega), wI1c (by omega), wI1k z, wI1c (by omega), wI1c (by omega), wI1c (by omega)]
    have v3 : ∀ p, p < 12 → H2.1 2 (514 + p) = if p = N then ho else H.1 2 (514 + p) := fun p hp => by
      rw [e2]
      by_cases z : p = N
      · rw [if_pos z, z, upA_ne (by omega), upA_ne (by omega), upA_ne (by omega), upA_at]
      · rw [if_neg z, upA_ne (by omega), upA_ne (by omega), upA_ne (by omega), upA_ne (by omega), upA_ne (by omega), upA_ne (by omega), upA_ne (by omega)]
    have w3 : ∀ p, p < 12 → H2.1 75 p = if p = N then ho else H.1 75 p := fun p hp => by
      rw [q2, wI1c (by omega), wI1c (by omega), wI1c (by omega), wI1c (by omega), wI1c (by omega), wI1c (by omega), wI1c (by omega), q1]
      by_cases z : p = N
      · rw [if_pos z, z, wI1c (by omega), wI1c (by omega), wI1c (by omega), wI1]
      · rw [if_neg z, wI1c (by omega), wI1c (by omega), wI1c (by omega), wI1k z, wI1c (by omega), wI1c (by omega), wI1c (by omega), wI1c (by omega)]
    have v4 : ∀ p, p < 12 → H2.1 2 (526 + p) = if p = N then hu else H.1 2 (526 + p) := fun p hp => by
      rw [e2]
      by_cases z : p = N
      · rw [if_pos z, z, upA_ne (by omega), upA_ne (by omega), upA_at]
      · rw [if_neg z, upA_ne (by omega), upA_ne (by omega), upA_ne (by omega), upA_ne (by omega), upA_ne (by omega), upA_ne (by omega), upA_ne (by omega)]
    have w4 : ∀ p, p < 12 → H2.1 76 p = if p = N then hu else H.1 76 p := fun p hp => by
      rw [q2, wI1c (by omega), wI1c (by omega), wI1c (by omega), wI1c (by omega), wI1c (by omega), wI1c (by omega), wI1c (by omega), q1]
      by_cases z : p = N
      · rw [if_pos z, z, wI1c (by omega), wI1c (by omega), wI1]
      · rw [if_neg z, wI1c (by omega), wI1c (by omega), wI1k z, wI1c (by omega), wI1c (by omega), wI1c (by omega), wI1c (by omega), wI1c (by omega)]
    have v5 : ∀ p, p < 12 → H2.1 2 (538 + p) = if p = N then 0 else H.1 2 (538 + p) := fun p hp => by
      rw [e2]
      by_cases z : p = N
      · rw [if_pos z, z, upA_ne (by omega), upA_at]
      · rw [if_neg z, upA_ne (by omega), upA_ne (by omega), upA_ne (by omega), upA_ne (by omega), upA_ne (by omega), upA_ne (by omega), upA_ne (by omega)]
    have w5 : ∀ p, p < 12 → H2.1 77 p = if p = N then 0 else H.1 77 p := fun p hp => by
      rw [q2, wI1c (by omega), wI1c (by omega), wI1c (by omega), wI1c (by omega), wI1c (by omega), wI1c (by omega), wI1c (by omega), q1]
      by_cases z : p = N
      · rw [if_pos z, z, wI1c (by omega), wI1]
      · rw [if_neg z, wI1c (by omega), wI1k z, wI1c (by omega), wI1c (by omega), wI1c (by omega), wI1c (by omega), wI1c (by omega), wI1c (by omega)]
    have w6 : H2.1 71 0 = H.1 2 477 + 1 := by rw [q2, wI1c (by omega), wI1c (by omega), wI1c (by omega), wI1c (by omega), wI1c (by omega), wI1c (by omega), wI1c (by omega), q1, wI1]
    have e119 : H2.1 119 0 = -1 := by rw [q2, wI1c (by omega), wI1c (by omega), wI1c (by omega), wI1c (by omega), wI1c (by omega), wI1c (by omega), wI1c (by omega), q1, wI1c (by omega), wI1c (by omega), wI1c (by omega), wI1c (by omega), wI1c (by omega), wI1c (by omega), wI1c (by omega), wI1]
    have ff : ∀ cc k, cc ≠ 2 → ¬ (71 ≤ cc ∧ cc ≤ 79) → cc ≠ 99 → ¬ (cc = 119 ∧ k = 0) → H2.1 cc k = H.1 cc k := fun cc k x y z u => by rw [q2, wI1c x, wI1c x, wI1c x, wI1c x, wI1c x, wI1c x, wI1c x, q1, wI1c (by omega), wI1c (by omega), wI1c (by omega), wI1c (by omega), wI1c (by omega), wI1c (by omega), wI1c (by omega), wIg, if_neg u]
    refine Inv_bk I ff f2 (fun j hj => hq j (by omega)) ⟨by rw [e477]; omega, fun p hp => ?_, fun m hm => ?_⟩ (WFY_q (fun j h _ => hq j (by omega)) (Inv_wy I)) ⟨?_, fun p hp => ?_, fun m hm => ?_⟩ (RepY_q (fun k => f 99 k (by omega) (by omega) (by omega)) (fun j h _ => hq j (by omega)) st.2.2.2) (SpK_no e119)
    · have w := wp.2.1 p hp
      rw [v0 p hp, v1 p hp, v2 p hp, v3 p hp, v4 p hp, v5 p hp]
      by_cases z : p = N
      · simp only [if_pos z]; omega
      · simp only [if_neg z]; exact w
    · rw [hq (550 + m) (by omega), hq (554 + m) (by omega)]; exact wp.2.2 m hm
    · rw [w6, e477]
    · have w := st.2.2.1.2.1 p hp
      show H2.1 72 p = _ ∧ H2.1 73 p = _ ∧ H2.1 74 p = _ ∧ H2.1 75 p = _ ∧ H2.1 76 p = _ ∧ H2.1 77 p = _
      rw [v0 p hp, v1 p hp, v2 p hp, v3 p hp, v4 p hp, v5 p hp, w0 p hp, w1 p hp, w2 p hp, w3 p hp, w4 p hp, w5 p hp]
      by_cases z : p = N
      · simp only [if_pos z]; exact ⟨trivial, trivial, trivial, trivial, trivial, trivial⟩
      · simp only [if_neg z]; exact w
    · rw [f 78 m (by omega) (by omega) (by omega), f 79 m (by omega) (by omega) (by omega), hq (550 + m) (by omega), hq (554 + m) (by omega)]; exact st.2.2.1.2.2 m hm
  · rw [if_neg h6] at q1 q2
    rw [q2, q1]; exact Inv_bump _ I

theorem b_spent {H : ZH} {n : Nat} (ok : okZ H) (I : Inv H n) (hn : n ≤ 511) {c w : Int} (c1 : -2147483648 ≤ c) (c2 : c ≤ 2147483647) (w1 : -2147483648 ≤ w) (w2 : w ≤ 2147483647)  : BthI mX10_spent mX11_spent [.int (zN (c)), .int (zN (w))] H n := by
  refine ⟨_, c_X10_spent (d := 35) (H := H) ok (c := c) (w := w) (c1 := c1) (c2 := c2) (w1 := w1) (w2 := w2) (cn := (Inv_cn I (by omega))) (wp := (Inv_wp I)) (rp := (Inv_rp I)) (sk := (Inv_sk I)), fun r H1 ok1 p1 => ?_⟩
  have lo : Lo H H1 := by
    rcases p1 with ⟨_, _, x⟩ | ⟨_, _, _, x⟩ | ⟨_, _, _, _, x⟩
    · rw [x]; exact Lo_b _ H
    · rw [x]; exact Lo_b _ H
    · exact ⟨fun cc h => funext (fun k => x.1 cc k (by omega) (by omega) (by omega)), fun cc h => funext (fun k => x.2 cc k (by omega) (by omega) (by omega))⟩
  refine ⟨_, c_X11_spent (d := 36) (H := H1) ok1 (c := c) (w := w) (c1 := c1) (c2 := c2) (w1 := w1) (w2 := w2) (cm := (Lo_cm I (by omega) lo)) (th := (Lo_th I lo)) (wp := (Lo_wp I lo)), fun r2 H2 ok2 p2 => ?_⟩
  rw [Lo_2 lo] at p2
  rcases p1 with ⟨c1, v1, x1⟩ | ⟨c1, d1, v1, x1⟩ | ⟨c1, d1, v1, s1, x1⟩ <;> rcases p2 with ⟨c2, v2, x2⟩ | ⟨c2, d2, v2, x2⟩ | ⟨c2, d2, v2, x2⟩
  · refine ⟨v2.trans v1.symm, ?_⟩; rw [x2, x1]; exact Inv_bump _ I
  · exact absurd c2 c1
  · exact absurd c2 c1
  · exact absurd c1 c2
  · refine ⟨v2.trans v1.symm, ?_⟩; rw [x2, x1]; exact Inv_bump _ I
  · exact absurd d2 d1
  · exact absurd c1 c2
  · exact absurd d1 d2
  · refine ⟨v2.trans v1.symm, ?_⟩
    refine Inv_cs I (fun cc k a0 a1 a2 a3 a4 => (x2.1 cc k a1 a2).trans (x1.1 cc k a3 a4 a0)) (fun cc k a b c => by rw [x2.2]; exact x1.2 cc k a b c) ?_
    exact SpK_cg (x2.1 119 0 (by omega) (by omega)) (fun cc k _ => by rw [x2.2]) s1

theorem b_feed {H : ZH} {n : Nat} (ok : okZ H) (I : Inv H n) (hn : n ≤ 511) {a b c g f : Int} (a1 : -2147483648 ≤ a) (a2 : a ≤ 2147483647) (b1 : -2147483648 ≤ b) (b2 : b ≤ 2147483647) (c1 : -2147483648 ≤ c) (c2 : c ≤ 2147483647) (g1 : -2147483648 ≤ g) (g2 : g ≤ 2147483647) (f1 : -2147483648 ≤ f) (f2 : f ≤ 2147483647)  : BthI mX10_feed mX11_feed [.int (zN (a)), .int (zN (b)), .int (zN (c)), .int (zN (g)), .int (zN (f))] H n := by
  have h06 := I.2.1.2.2.2.2.1
  have hl : H.1 20 1 = H.1 0 6 := I.2.2.2.2.1.2.1
  obtain ⟨t, hti⟩ : ∃ t : Nat, H.1 0 6 = (t : Int) := ⟨(H.1 0 6).toNat, by omega⟩
  have t4 : t ≤ 400 := by omega
  have ht : H.1 20 1 = (t : Int) := hl.trans hti
  refine ⟨_, c_X10_feed (d := 38) (H := H) ok (a := a) (b := b) (c := c) (g := g) (f := f) (a1 := a1) (a2 := a2) (b1 := b1) (b2 := b2) (c1 := c1) (c2 := c2) (g1 := g1) (g2 := g2) (f1 := f1) (f2 := f2) (cn := (Inv_cn I (by omega))) (t := t) (ht := ht) (t4 := t4), fun r H1 ok1 p1 => ?_⟩
  obtain ⟨p1, q1⟩ := p1
  rw [ht] at p1 q1
  have lo : Lo H H1 := by
    rw [q1]
    split
    · exact ⟨fun cc h => funext (fun k => by rw [feedC_at, if_neg (by omega), if_neg (by omega)]), fun _ _ => rfl⟩
    · exact Lo_b _ H
  have ht2 : H1.1 0 6 = (t : Int) := by rw [lo.1 0 (by omega)]; exact hti
  refine ⟨_, c_X11_feed (d := 38) (H := H1) ok1 (a := a) (b := b) (c := c) (g := g) (f := f) (a1 := a1) (a2 := a2) (b1 := b1) (b2 := b2) (c1 := c1) (c2 := c2) (g1 := g1) (g2 := g2) (f1 := f1) (f2 := f2) (cm := (Lo_cm I (by omega) lo)) (th := (Lo_th I lo)) (t := t) (ht := ht2) (t4 := t4), fun r2 H2 ok2 p2 => ?_⟩
  obtain ⟨p2, q2⟩ := p2
  rw [ht2] at p2 q2
  refine ⟨p2.trans p1.symm, ?_⟩
  by_cases h6 : (S_feed (t : Int)).2 = 6
  · rw [if_pos h6] at q1 q2
    have hc := S_feed_6 h6
    have e06 : H2.1 0 6 = ((t + 20 : Nat) : Int) := by rw [q2]; exact wI1 _ _ _ _
    have e4 : ∀ k, H2.1 4 k = if t ≤ k ∧ k < t + 20 then fby a b c g f (k - t) else H.1 4 k := fun k => by
      rw [q2]
      show (wI _ 0 6 _).1 4 k = _
      rw [wI1c (by omega), wA1, lo.1 4 (by omega)]
    have e21 : ∀ k, H2.1 21 k = if t ≤ k ∧ k < t + 20 then (fby a b c g f (k - t)).bmod 256 else H.1 21 k := fun k => by
      rw [q2]
      show (wI _ 0 6 _).1 21 k = _
      rw [wI1c (by omega), wA1c (by omega), q1, feedC_at, if_neg (by omega), if_pos rfl]
    have fo : ∀ cc k, ¬ (cc = 0 ∧ k = 6) → cc ≠ 4 → cc ≠ 21 → ¬ (cc = 20 ∧ k = 1) → H2.1 cc k = H.1 cc k := fun cc k x1 x2 x3 x4 => by
      rw [q2]
      show (wI _ 0 6 _).1 cc k = _
      rw [wIg, if_neg x1, wA1c x2, q1, feedC_at, if_neg x4, if_neg x3]
    have f2 : H2.2 = H.2 := by rw [q2, q1]; rfl
    have e201 : H2.1 20 1 = ((t + 20 : Nat) : Int) := by
      rw [q2]
      show (wI _ 0 6 _).1 20 1 = _
      rw [wI1c (by omega), wA1c (by omega), q1, feedC_at, if_pos ⟨rfl, rfl⟩]
    have a6 := I.2.1.2.2.2.2.2.1
    have hT := I.2.2.2.2.1.2.2.1
    refine Inv_tp I (fun cc k x1 x2 x3 x4 x5 x6 x7 => fo cc k x1 x2 x5 x6) (fun cc k _ _ => by rw [f2]) (by rw [e06]; omega) (fun k => ?_) (fun r hr => ?_) (RepR_cg (fun cc k hcc => fo cc k (by omega) (by omega) (by omega) (by omega)) (fun cc k _ => by rw [f2]) (Inv_rr I)) (e201.trans e06.symm) (fun k hk => ?_)
    · rw [e4]
      split
      · exact fby_rng _ _ _ _ _ _
      · exact a6 k
    · rw [fo 17 r (by omega) (by omega) (by omega) (by omega), fo 18 r (by omega) (by omega) (by omega) (by omega)]; exact Inv_rm I r hr
    · rw [e4, e21]
      by_cases z : t ≤ k ∧ k < t + 20
      · rw [if_pos z, if_pos z]
        have y := fby_rng a b c g f (k - t)
        exact ⟨y, fun u => bm_lo y.1 u, fun u => bm_hi u y.2⟩
      · rw [if_neg z, if_neg z]; exact hT k hk
  · rw [if_neg h6] at q1 q2
    rw [q2, q1]; exact Inv_bump _ I
