/-! GROUP G36: the sums without a car. -/
theorem drw1_nr {A N : Nat → Int} {wo : Int} {k : Nat} (wl : WFL A) (e : N 41 = (k : Int)) (hk : k < 8) (h : rnd A wo N = false) : drw1 A wo N (16 + k) = (if ask A N k = true then (if shr A N wo k = 0 then 1 else 2) else N (16 + k)) := by
  have b := shr_bd (N := N) (wo := wo) (c := k) wl
  by_cases ha : ask A N k = true
  · rw [if_pos ha]
    obtain ⟨z1, _⟩ := drw1_ask (wo := wo) wl e hk ha
    rw [z1]
    unfold dvF
    by_cases z : shr A N wo k = 0
    · rw [if_pos z, if_pos z]
    · have z2 : shr A N wo k = 100 := by
        unfold rnd at h
        rw [e, Int.toNat_natCast, ha, Bool.true_and] at h
        have y := of_decide_eq_false h
        omega
      rw [if_neg z, if_pos z2, if_neg z]
  · rw [if_neg ha]
    exact drw1_no e (Bool.eq_false_iff.mpr ha) (by omega)
def RLn (A : Nat → Int) (c : Nat) (N N1 : Nat → Int) : Prop := RLo A c N N1 ∧ N1 41 = if N 41 ≤ (c : Int) then N 41 else N 41 - 1
theorem rl_skip {A N N1 : Nat → Int} {wo : Int} {c : Nat} (h : RLn A c N N1) (h8 : A 1 ≤ 8) (hc : (c : Int) < A 1) (e : N 41 = (c : Int)) : RLn A c (drw1 A wo N) N1 ∧ rnd A wo N = false := by
  obtain ⟨⟨h1, h2, h3⟩, h4⟩ := h
  have ha : ask A N c = false := decide_eq_false (by have := h2.1; omega)
  have o : ∀ j, j ≠ 41 → drw1 A wo N j = N j := fun j hj => drw1_no e ha hj
  refine ⟨⟨⟨fun j hj => ?_, by rw [o c (by omega), o (16 + c) (by omega), o (24 + c) (by omega)]; exact h2, fun j a b => by rw [o j (by omega)]; exact h3 j a b⟩, ?_⟩, rnd_na e ha⟩
  · have s := sg_lt (c := c) (j := j) (n := (A 1).toNat) (by omega) (by omega)
    rw [o _ (by omega), o _ (by omega), o _ (by omega), o _ (by omega)]
    exact h1 j hj
  · have e41 : drw1 A wo N 41 = N 41 + 1 := rfl
    rw [e41, h4, if_pos (by omega), if_neg (by omega)]
    omega
theorem rl_next {A N N1 : Nat → Int} {c : Nat} (h : RLn A c N N1) (h0 : 0 ≤ N 41) (hk : N 41 < A 1) (hne : N 41 ≠ (c : Int)) : ∃ i : Nat, N1 41 = (i : Int) ∧ N 41 = ((sg c i : Nat) : Int) ∧ ((c : Int) < A 1 → (i : Int) < A 1 - 1) := by
  obtain ⟨_, h4⟩ := h
  by_cases z : N 41 ≤ (c : Int)
  · rw [if_pos z] at h4
    refine ⟨(N 41).toNat, by omega, ?_, fun _ => by omega⟩
    unfold sg
    rw [if_pos (by omega)]
    omega
  · rw [if_neg z] at h4
    refine ⟨(N 41).toNat - 1, by omega, ?_, fun _ => by omega⟩
    unfold sg
    rw [if_neg (by omega)]
    omega
theorem rl_up {A N N1 P P1 : Nat → Int} {c i : Nat} (h : RLo A c N N1) (h8 : A 1 ≤ 8) (hc : (c : Int) < A 1) (hi : (i : Int) < A 1 - 1) (hv : P1 (16 + i) = P (16 + sg c i)) (ho : ∀ j, j < 39 → j ≠ 16 + sg c i → P j = N j) (ho1 : ∀ j, j < 39 → j ≠ 16 + i → P1 j = N1 j) : RLo A c P P1 := by
  obtain ⟨h1, h2, h3⟩ := h
  have si := sg_lt (c := c) (j := i) (n := (A 1).toNat) (by omega) (by omega)
  have ne := sg_ne c i
  refine ⟨fun j hj => ?_, by rw [ho c (by omega) (by omega), ho (16 + c) (by omega) (by omega), ho (24 + c) (by omega) (by omega)]; exact h2, fun j a b => by rw [ho j (by omega) (by omega), ho1 j (by omega) (by omega)]; exact h3 j a b⟩
  have s := sg_lt (c := c) (j := j) (n := (A 1).toNat) (by omega) (by omega)
  obtain ⟨e1, e2, e3, e4⟩ := h1 j hj
  refine ⟨?_, ?_, ?_, ?_⟩
  · rw [ho1 j (by omega) (by omega), ho _ (by omega) (by omega)]; exact e1
  · rw [ho1 (8 + j) (by omega) (by omega), ho _ (by omega) (by omega)]; exact e2
  · by_cases z : j = i
    · rw [z]; exact hv
    · have z2 : sg c j ≠ sg c i := fun y => z (sg_inj y)
      rw [ho1 (16 + j) (by omega) (by omega), ho _ (by omega) (by omega)]; exact e3
  · rw [ho1 (24 + j) (by omega) (by omega), ho _ (by omega) (by omega)]; exact e4
theorem und_lv {A N1 : Nat → Int} {c : Nat} (hc : (c : Int) < A 1) : und (lvo A c) N1 ≤ (A 1).toNat - 1 := by
  have z := und_le (lvo A c) N1
  rw [lvo_1] at z
  omega
/-- the sums: a car at DIST 0 against a car left out -/
theorem tsf_lv {A : Nat → Int} {wo : Int} {c : Nat} (ws : WFS A) (wl : WFL A) (hc : (c : Int) < A 1) (f : Nat) : ∀ (f1 : Nat) (N N1 : Nat → Int) (w1 : Int), rkN A N < f → rkN (lvo A c) N1 < f1 → RLn A c N N1 → WFT A N → WFT (lvo A c) N1 → (∃ u, w1 = u * 100 ^ und (lvo A c) N1) → tsf A wo (gK 1) f N (100 * w1) = 100 * tsf (lvo A c) wo (gK 1) f1 N1 w1 := by
  have ws1 := ws.2.1
  have h8 := ws1.2
  have wsl := lvo_ws ws hc
  have wll : WFL (lvo A c) := lvo_wl wl
  have e1A := lvo_1 A c
  induction f with
  | zero => intro f1 N N1 w1 hr; exact absurd hr (Nat.not_lt_zero _)
  | succ f ih =>
    intro f1 N N1 w1 hr hr1 hRL hw hw1 hD
    have e37 : N1 37 = N 37 := hRL.1.2.2 37 (by omega) (by omega)
    cases f1 with
    | zero => exact absurd hr1 (Nat.not_lt_zero _)
    | succ f1 =>
      show (if N 37 ≠ 0 then gK 1 N (100 * w1) else if N 41 < A 1 then (if rnd A wo N = true then tsf A wo (gK 1) f (frc N true) (100 * w1 / 100 * shr A N wo (N 41).toNat) + tsf A wo (gK 1) f (frc N false) (100 * w1 / 100 * (100 - shr A N wo (N 41).toNat)) else tsf A wo (gK 1) f (drw1 A wo N) (100 * w1)) else tsf A wo (gK 1) f (tickF A N) (100 * w1)) = 100 * tsf (lvo A c) wo (gK 1) (f1 + 1) N1 w1
      have er : tsf (lvo A c) wo (gK 1) (f1 + 1) N1 w1 = (if N1 37 ≠ 0 then gK 1 N1 w1 else if N1 41 < lvo A c 1 then (if rnd (lvo A c) wo N1 = true then tsf (lvo A c) wo (gK 1) f1 (frc N1 true) (w1 / 100 * shr (lvo A c) N1 wo (N1 41).toNat) + tsf (lvo A c) wo (gK 1) f1 (frc N1 false) (w1 / 100 * (100 - shr (lvo A c) N1 wo (N1 41).toNat)) else tsf (lvo A c) wo (gK 1) f1 (drw1 (lvo A c) wo N1) w1) else tsf (lvo A c) wo (gK 1) f1 (tickF (lvo A c) N1) w1) := rfl
      by_cases h37 : N 37 = 0
      · rw [if_neg (show ¬ N 37 ≠ 0 from fun z => z h37)]
        by_cases hk : N 41 < A 1
        · rw [if_pos hk]
          by_cases hkc : N 41 = (c : Int)
          · obtain ⟨s1, s2⟩ := rl_skip (wo := wo) hRL h8 hc hkc
            rw [if_neg (by rw [s2]; decide)]
            have k := rk_drw (wo := wo) h8 hw h37 hk
            exact ih (f1 + 1) _ N1 w1 (by omega) hr1 s1 (drw1_s (wo := wo) h8 hw hk).1 hw1 hD
          · obtain ⟨i, i1, i2, i3⟩ := rl_next hRL hw.2.2.1 hk hkc
            have hi := i3 hc
            have si := sg_lt (c := c) (j := i) (n := (A 1).toNat) (by omega) (by omega)
            obtain ⟨q1, q2⟩ := shr_lv (wo := wo) hRL.1 h8 hc hi
            have hk1 : N1 41 < lvo A c 1 := by omega
            have ernd : rnd (lvo A c) wo N1 = rnd A wo N := by
              unfold rnd
              rw [i1, i2, Int.toNat_natCast, Int.toNat_natCast, q1, q2]
            rw [er, if_neg (show ¬ N1 37 ≠ 0 from fun z => z (e37.trans h37)), if_pos hk1, ernd, i1, i2, Int.toNat_natCast, Int.toNat_natCast, q1]
            have n41 : ∀ x : Int, (if N 41 + x ≤ (c : Int) then N 41 + x else N 41 + x - 1) = (if N 41 + x ≤ (c : Int) then N 41 + x else N 41 + x - 1) := fun _ => rfl
            by_cases hrn : rnd A wo N = true
            · rw [if_pos hrn, if_pos hrn]
              have hrn1 : rnd (lvo A c) wo N1 = true := ernd.trans hrn
              obtain ⟨r0, r1, r2, _⟩ := rnd_t hrn
              have r01 := (rnd_t hrn1).1
              obtain ⟨u, hu⟩ := hD
              have go : ∀ (b : Bool) (s : Int), tsf A wo (gK 1) f (frc N b) (100 * w1 / 100 * s) = 100 * tsf (lvo A c) wo (gK 1) f1 (frc N1 b) (w1 / 100 * s) := by
                intro b s
                obtain ⟨a1, a2, a3⟩ := frc_s h8 hw hk r0 b
                obtain ⟨b1, b2, b3⟩ := frc_s (by omega) hw1 hk1 r01 b
                have k := rk_frc (wo := wo) h8 hw h37 hk hrn b
                have k1 := rk_frc (wo := wo) (by omega) hw1 (e37.trans h37) hk1 hrn1 b
                have ed : w1 / 100 = u * 100 ^ und (lvo A c) (frc N1 b) := by
                  rw [hu, ← b2, Int.pow_succ, ← Int.mul_assoc, Int.mul_ediv_cancel _ (by decide)]
                have ew : 100 * w1 / 100 * s = 100 * (w1 / 100 * s) := by
                  have x : w1 = w1 / 100 * 100 := by
                    rw [ed, hu, ← b2, Int.pow_succ, Int.mul_assoc]
                  rw [Int.mul_ediv_cancel_left _ (by decide), ← Int.mul_assoc, Int.mul_comm 100 (w1 / 100), ← x]
                rw [ew]
                refine ih f1 _ _ _ (by omega) (by omega) ⟨rl_up hRL.1 h8 hc hi ?_ (fun j hj hne => frc_at (by omega)) (fun j hj hne => frc_at (by omega)), ?_⟩ a1 b1 ⟨u * s, by rw [ed, Int.mul_right_comm]⟩
                · have x1 : frc N1 b (16 + i) = if b = true then 2 else 1 := if_pos (by omega)
                  have x2 : frc N b (16 + sg c i) = if b = true then 2 else 1 := if_pos (by omega)
                  rw [x1, x2]
                · rw [a3 41 (by omega), b3 41 (by omega)]
                  exact hRL.2
              rw [go true, go false, Int.mul_add]
            · have hrf : rnd A wo N = false := Bool.eq_false_iff.mpr hrn
              have hrf1 : rnd (lvo A c) wo N1 = false := ernd.trans hrf
              rw [if_neg hrn, if_neg hrn]
              have k := rk_drw (wo := wo) h8 hw h37 hk
              have k1 := rk_drw (wo := wo) (by omega) hw1 (e37.trans h37) hk1
              obtain ⟨u, hu⟩ := hD
              refine ih f1 _ _ w1 (by omega) (by omega) ⟨rl_up hRL.1 h8 hc hi ?_ (fun j hj hne => drw1_at i2 hne (by omega) (by omega)) (fun j hj hne => drw1_at i1 hne (by omega) (by omega)), ?_⟩ (drw1_s (wo := wo) h8 hw hk).1 (drw1_s (wo := wo) (by omega) hw1 hk1).1 ⟨u * 100 ^ (und (lvo A c) N1 - und (lvo A c) (drw1 (lvo A c) wo N1)), ?_⟩
              · rw [drw1_nr wll i1 (by omega) hrf1, drw1_nr wl i2 (by omega) hrf, q1, q2, (hRL.1.1 i hi).2.2.1]
              · have x1 : drw1 A wo N 41 = N 41 + 1 := rfl
                have x2 : drw1 (lvo A c) wo N1 41 = N1 41 + 1 := rfl
                have x3 := hRL.2
                rw [x1, x2]
                by_cases y : N 41 ≤ (c : Int)
                · rw [if_pos y] at x3
                  rw [if_pos (by omega), x3]
                · rw [if_neg y] at x3
                  rw [if_neg (by omega), x3]
                  omega
              · rw [Int.mul_assoc, ← Int.pow_add, show und (lvo A c) N1 - und (lvo A c) (drw1 (lvo A c) wo N1) + und (lvo A c) (drw1 (lvo A c) wo N1) = und (lvo A c) N1 by omega]
                exact hu
        · have hn1 : ¬ N1 41 < lvo A c 1 := by
            have x3 := hRL.2
            rw [if_neg (by omega)] at x3
            omega
          rw [if_neg hk, er, if_neg (show ¬ N1 37 ≠ 0 from fun z => z (e37.trans h37)), if_neg hn1]
          have x41 : N 41 = A 1 := by have := hw.2.2.2; omega
          have y41 : N1 41 = lvo A c 1 := by have := hw1.2.2.2; omega
          rcases tick_s ws1 ws.1 hw h37 with ⟨t1, t2, t3⟩ | ⟨_, _, t3⟩
          · rcases tick_s wsl.2.1 wsl.1 hw1 (e37.trans h37) with ⟨v1, v2, v3⟩ | ⟨_, _, v3⟩
            · refine ih f1 _ _ w1 (by omega) (by omega) ⟨tick_lv hRL.1 ws1 hc, ?_⟩ t1 v1 (by rw [v2]; exact hD)
              rw [tickF_41, tickF_41, if_pos (by omega)]
            · exact absurd y41 v3
          · exact absurd x41 t3
      · rw [if_pos h37, er, if_pos (by rw [e37]; exact h37)]
        have gk : ∀ (P : Nat → Int) (w : Int), gK 1 P w = if P 37 = 2 then w else 0 := fun _ _ => rfl
        rw [gk, gk, e37]
        split <;> omega
theorem bgn_lv {A : Nat → Int} {c : Nat} (ws : WFS A) (hc : (c : Int) < A 1) : RLn A c (bgn A Z0 (c : Int) 0) (bgn (lvo A c) Z0 (-1) 0) := by
  have ws1 := ws.2.1
  have wsl := lvo_ws ws hc
  have b := fun j hj => bgn_at (A := A) (o := Z0) (wc := (c : Int)) (sd := 0) ws1 (c := j) hj
  have b1 := fun j hj => bgn_at (A := lvo A c) (o := Z0) (wc := -1) (sd := 0) wsl.2.1 (c := j) hj
  have z := (bgn_f (A := A) (o := Z0) (wc := (c : Int)) (sd := 0) ws1).2.2
  have z1 := (bgn_f (A := lvo A c) (o := Z0) (wc := -1) (sd := 0) wsl.2.1).2.2
  have e1 := lvo_1 A c
  refine ⟨⟨fun j hj => ?_, ?_, fun j h1 h2 => by rw [z j h1 h2, z1 j h1 h2]⟩, ?_⟩
  · have s := sg_lt (c := c) (j := j) (n := (A 1).toNat) (by omega) (by omega)
    have ne := sg_ne c j
    obtain ⟨a1, a2, a3, a4⟩ := b (sg c j) (by omega)
    obtain ⟨d1, d2, d3, d4⟩ := b1 j (by omega)
    rw [a1, a2, a3, a4, d1, d2, d3, d4, if_neg (by omega), if_neg (by omega), lvo_at (b := 10) (by omega) (by omega)]
    refine ⟨rfl, ?_, rfl, rfl⟩
    unfold bsp
    rw [lvo_at (b := 18) (by omega) (by omega), lvo_o (j := 34) (by omega)]
  · obtain ⟨a1, a2, a3, a4⟩ := b c hc
    rw [a1, a3, a4, if_pos rfl]
    exact ⟨rfl, rfl, rfl⟩
  · rw [(bgn_rn (o := Z0) (wc := (c : Int)) (sd := 0) ws).2.2.1, (bgn_rn (o := Z0) (wc := -1) (sd := 0) wsl).2.2.1, if_pos (by omega)]
/-- absent: the reference's sum is the class's times 100 -/
theorem TS_absent {A : Nat → Int} {wo : Int} {c : Nat} (ws : WFS A) (wl : WFL A) (hc : (c : Int) < A 1) : TS A wo (c : Int) (gK 1) = 100 * TS (lvo A c) wo (-1) (gK 1) := by
  have wsl := lvo_ws ws hc
  have e1 := lvo_1 A c
  have en : (A 1).toNat = (lvo A c 1).toNat + 1 := by have := ws.2.1; omega
  have ul := und_le (lvo A c) (bgn (lvo A c) Z0 (-1) 0)
  have ew : (100 : Int) ^ (A 1).toNat = 100 * 100 ^ (lvo A c 1).toNat := by rw [en, Int.pow_succ, Int.mul_comm]
  unfold TS
  rw [ew]
  exact tsf_lv ws wl hc 5000 5000 _ _ _ (rk_bgn ws) (rk_bgn wsl) (bgn_lv ws hc) (WFT_rn (bgn_rn ws) ws.2.1.1) (WFT_rn (bgn_rn wsl) wsl.2.1.1) ⟨100 ^ ((lvo A c 1).toNat - und (lvo A c) (bgn (lvo A c) Z0 (-1) 0)), by rw [← Int.pow_add]; congr 1; omega⟩
