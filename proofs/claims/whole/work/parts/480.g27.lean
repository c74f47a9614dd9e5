/-! GROUP G27: the class's tree. -/
theorem snoc_of {l : List Bool} (h : l ≠ []) : ∃ m b, l = m ++ [b] := by
  induction l with
  | nil => exact absurd rfl h
  | cons c l ih =>
    cases l with
    | nil => exact ⟨[], c, rfl⟩
    | cons d l =>
      obtain ⟨m, b, e⟩ := ih (by simp)
      exact ⟨c :: m, b, by rw [e]; rfl⟩
theorem wJ_wJ (H : ZH) (c k : Nat) (a b : Int) : wJ (wJ H c k a) c k b = wJ H c k b := by
  unfold wJ
  refine Prod.ext rfl ?_
  funext c' k'
  show (if c' = c ∧ k' = k then b else if c' = c ∧ k' = k then a else H.2 c' k') = if c' = c ∧ k' = k then b else H.2 c' k'
  split <;> rfl
theorem wJ_id {H : ZH} {c k : Nat} {v : Int} (h : H.2 c k = v) : wJ H c k v = H := by
  unfold wJ
  refine Prod.ext rfl ?_
  funext c' k'
  show (if c' = c ∧ k' = k then v else H.2 c' k') = H.2 c' k'
  split
  · next q => rw [q.1, q.2, h]
  · rfl
def FrW (H H1 : ZH) : Prop := (∀ cc, cc ≠ 111 → cc ≠ 112 → H1.1 cc = H.1 cc) ∧ (∀ k, k ≠ 3 → H1.1 111 k = H.1 111 k) ∧ H1.2 = H.2
/-- one leaf, and those that she stood longer at -/
def g1 (_ : Nat → Int) (_ : Int) : Int := 1
def gL (v : Int) (N : Nat → Int) (_ : Int) : Int := if N 35 ≤ v then 0 else 1
theorem tsf_cnt {A : Nat → Int} {wo : Int} (ws1 : 0 ≤ A 1 ∧ A 1 ≤ 8) (ws0 : 1 ≤ A 0 ∧ A 0 ≤ 4) (f : Nat) : ∀ N w, WFT A N → 1 ≤ tsf A wo g1 f N w ∧ tsf A wo g1 f N w ≤ ((2 ^ und A N : Nat) : Int) := by
  induction f with
  | zero =>
    intro N w h
    have z := Nat.two_pow_pos (und A N)
    show (1 : Int) ≤ 1 ∧ (1 : Int) ≤ _
    omega
  | succ f ih =>
    intro N w h
    have z := Nat.two_pow_pos (und A N)
    show 1 ≤ (if N 37 ≠ 0 then g1 N w else if N 41 < A 1 then (if rnd A wo N = true then tsf A wo g1 f (frc N true) (w / 100 * shr A N wo (N 41).toNat) + tsf A wo g1 f (frc N false) (w / 100 * (100 - shr A N wo (N 41).toNat)) else tsf A wo g1 f (drw1 A wo N) w) else tsf A wo g1 f (tickF A N) w) ∧ (if N 37 ≠ 0 then g1 N w else if N 41 < A 1 then (if rnd A wo N = true then tsf A wo g1 f (frc N true) (w / 100 * shr A N wo (N 41).toNat) + tsf A wo g1 f (frc N false) (w / 100 * (100 - shr A N wo (N 41).toNat)) else tsf A wo g1 f (drw1 A wo N) w) else tsf A wo g1 f (tickF A N) w) ≤ ((2 ^ und A N : Nat) : Int)
    by_cases h37 : N 37 = 0
    · rw [if_neg (fun z => z h37)]
      by_cases hk : N 41 < A 1
      · rw [if_pos hk]
        by_cases hr : rnd A wo N = true
        · rw [if_pos hr]
          obtain ⟨r0, r1, r2, _⟩ := rnd_t hr
          obtain ⟨w1, u1, _⟩ := frc_s ws1.2 h hk r0 true
          obtain ⟨w2, u2, _⟩ := frc_s ws1.2 h hk r0 false
          have a := ih (frc N true) (w / 100 * shr A N wo (N 41).toNat) w1
          have b := ih (frc N false) (w / 100 * (100 - shr A N wo (N 41).toNat)) w2
          have e : 2 ^ und A N = 2 ^ und A (frc N true) + 2 ^ und A (frc N true) := by
            rw [← u1, Nat.pow_succ]; omega
          have e2 : 2 ^ und A (frc N false) = 2 ^ und A (frc N true) := by rw [show und A (frc N false) = und A (frc N true) by omega]
          omega
        · rw [if_neg hr]
          have a := ih _ w (drw1_s (wo := wo) ws1.2 h hk).1
          have e : 2 ^ und A (drw1 A wo N) ≤ 2 ^ und A N := Nat.pow_le_pow_right (by decide) (rk_drw (wo := wo) ws1.2 h h37 hk).1
          omega
      · rw [if_neg hk]
        rcases tick_s ws1 ws0 h h37 with ⟨t, u, _⟩ | ⟨t, u, _⟩
        · have a := ih _ w t
          rw [u] at a
          exact a
        · have a := ih _ w t
          rw [u] at a
          exact a
    · rw [if_pos h37]
      show (1 : Int) ≤ 1 ∧ (1 : Int) ≤ _
      omega
theorem rmf_ge {A : Nat → Int} {wo : Int} {g : (Nat → Int) → Int → Int} {c : Int} (ws1 : 0 ≤ A 1 ∧ A 1 ≤ 8) (ws0 : 1 ≤ A 0 ∧ A 0 ≤ 4) (hc : 0 ≤ c) (hg : ∀ M w, WFT A M → 0 ≤ w → c ≤ g M w) (ht : ∀ f N w, WFT A N → 0 ≤ w → c ≤ tsf A wo g f N w) (f : Nat) : ∀ N w p, WFT A N → 0 ≤ w → c ≤ rmf A wo g f N w p := by
  induction f with
  | zero => exact fun N w p h hw => hg N w h hw
  | succ f ih =>
    intro N w p h hw
    show c ≤ (if N 37 ≠ 0 then g N w else if N 41 < A 1 then (if rnd A wo N = true then (match p with
      | [] => tsf A wo g f (frc N true) (w / 100 * shr A N wo (N 41).toNat) + tsf A wo g f (frc N false) (w / 100 * (100 - shr A N wo (N 41).toNat))
      | true :: p' => rmf A wo g f (frc N true) (w / 100 * shr A N wo (N 41).toNat) p' + tsf A wo g f (frc N false) (w / 100 * (100 - shr A N wo (N 41).toNat))
      | false :: p' => rmf A wo g f (frc N false) (w / 100 * (100 - shr A N wo (N 41).toNat)) p') else rmf A wo g f (drw1 A wo N) w p) else rmf A wo g f (tickF A N) w p)
    by_cases h37 : N 37 = 0
    · rw [if_neg (fun z => z h37)]
      by_cases hk : N 41 < A 1
      · rw [if_pos hk]
        by_cases hr : rnd A wo N = true
        · rw [if_pos hr]
          obtain ⟨r0, r1, r2, _⟩ := rnd_t hr
          obtain ⟨s1, s2, _⟩ := sh_split hw ⟨r1, r2⟩
          have w1 := (frc_s ws1.2 h hk r0 true).1
          have w2 := (frc_s ws1.2 h hk r0 false).1
          have b := ht f _ _ w2 s2
          match p with
          | [] =>
            have a := ht f _ _ w1 s1
            show c ≤ tsf A wo g f (frc N true) (w / 100 * shr A N wo (N 41).toNat) + tsf A wo g f (frc N false) (w / 100 * (100 - shr A N wo (N 41).toNat))
            omega
          | true :: p' =>
            have a := ih _ _ p' w1 s1
            show c ≤ rmf A wo g f (frc N true) (w / 100 * shr A N wo (N 41).toNat) p' + tsf A wo g f (frc N false) (w / 100 * (100 - shr A N wo (N 41).toNat))
            omega
          | false :: p' => exact ih _ _ p' w2 s2
        · rw [if_neg hr]
          exact ih _ w p (drw1_s ws1.2 h hk).1 hw
      · rw [if_neg hk]
        rcases tick_s ws1 ws0 h h37 with ⟨t, _⟩ | ⟨t, _⟩
        · exact ih _ w p t hw
        · exact ih _ w p t hw
    · rw [if_pos h37]
      exact hg N w h hw
/-- the tree's sums so far, R what is to come -/
def TrS (H : ZH) (s : Nat) (q : Nat → Int) (T R : ((Nat → Int) → Int → Int) → Int) : Prop := (∀ k, k < 5 → 0 ≤ H.2 s (1 + k) ∧ H.2 s (1 + k) + R (gK k) = T (gK k)) ∧ (∀ c : Nat, (c : Int) < q 1 → 0 ≤ H.2 (s + 1) c ∧ H.2 (s + 1) c + R (gB c) = T (gB c)) ∧ (∀ c : Nat, (c : Int) < q 1 → 0 ≤ H.2 (s + 2) c ∧ H.2 (s + 2) c + R (gS c) = T (gS c)) ∧ (0 ≤ H.1 s 6 ∧ H.1 s 6 ≤ 99) ∧ (∀ v : Int, H.1 s 6 ≤ v → R (gL v) = T (gL v)) ∧ H.2 s 0 = 100 ^ (q 1).toNat
/-- only the tree at s and the road have changed -/
def FrTr (H H1 : ZH) (s : Nat) : Prop := (∀ cc k, ¬ (104 ≤ cc ∧ cc ≤ 112) → ¬ (cc = s ∧ k = 6) → H1.1 cc k = H.1 cc k) ∧ ∀ cc k, ¬ (cc = 111 ∧ k = 5) → cc ≠ s → cc ≠ s + 1 → cc ≠ s + 2 → H1.2 cc k = H.2 cc k
/-- a leaf is put to the tree -/
def AddT (H H1 : ZH) (s : Nat) (q N : Nat → Int) (w : Int) : Prop := (∀ k, k < 5 → H1.2 s (1 + k) = H.2 s (1 + k) + gK k N w) ∧ (∀ c : Nat, (c : Int) < q 1 → H1.2 (s + 1) c = H.2 (s + 1) c + gB c N w) ∧ (∀ c : Nat, (c : Int) < q 1 → H1.2 (s + 2) c = H.2 (s + 2) c + gS c N w) ∧ H1.1 s 6 = (if H.1 s 6 < N 35 then N 35 else H.1 s 6) ∧ H1.2 s 0 = H.2 s 0 ∧ (∀ cc k, ¬ (cc = s ∧ k = 6) → H1.1 cc k = H.1 cc k) ∧ ∀ cc k, cc ≠ s → cc ≠ s + 1 → cc ≠ s + 2 → H1.2 cc k = H.2 cc k
theorem TrS_add {H H1 : ZH} {s : Nat} {q N : Nat → Int} {w : Int} {T R R1 : ((Nat → Int) → Int → Int) → Int} (h : TrS H s q T R) (ha : AddT H H1 s q N w) (hR : ∀ g, R g = g N w + R1 g) (wt : WFT q N) (hw : 0 ≤ w) : TrS H1 s q T R1 := by
  obtain ⟨a1, a2, a3, a4, a5, _⟩ := ha
  obtain ⟨b1, b2, b3, b4, b5, b6⟩ := h
  have n35 := wt.1.2.2.2.2.1
  refine ⟨fun k hk => ?_, fun c hc => ?_, fun c hc => ?_, ?_, fun v hv => ?_, a5.trans b6⟩
  · have := b1 k hk
    have g := gK_ok q k N w wt hw
    rw [hR] at this
    rw [a1 k hk]
    omega
  · have := b2 c hc
    have g := gB_ok q c N w wt hw
    rw [hR] at this
    rw [a2 c hc]
    omega
  · have := b3 c hc
    have g := gS_ok q c N w wt hw
    rw [hR] at this
    rw [a3 c hc]
    omega
  · rw [a4]; split <;> omega
  · rw [a4] at hv
    have := b5 v (by revert hv; split <;> omega)
    rw [hR] at this
    have e : gL v N w = 0 := if_pos (by revert hv; split <;> omega)
    omega

theorem c_X0_turn {d : Nat} {H : ZH} (ok : okZ H) {l : List Bool} (hm0 : H.1 111 3 = ((l.length : Nat) : Int)) (he : EncF (H.1 112) 0 l) (h8 : l.length ≤ 8) : EvC zX (d + 1) mX0_turn [.ref 111] (eh H) (zPi (fun (r : Int) (H1 : ZH) => FrW H H1 ∧ ((trn l = none ∧ r = 0) ∨ ∃ m, trn l = some m ∧ r = 1 ∧ H1.1 111 3 = ((m.length : Nat) : Int) ∧ EncF (H1.1 112) 0 m ∧ m.length ≤ 8))) := by
  show _ ∧ Ev zX mX0_turn (EvC zX d) (zPi (fun (r : Int) (H1 : ZH) => FrW H H1 ∧ ((trn l = none ∧ r = 0) ∨ ∃ m, trn l = some m ∧ r = 1 ∧ H1.1 111 3 = ((m.length : Nat) : Int) ∧ EncF (H1.1 112) 0 m ∧ m.length ≤ 8))) 0 [(0, .ref 111)] [] (eh H)
  refine ⟨Nat.le_of_ble_eq_true rfl, ?_⟩
  have lp0 : ∀ (nF : Nat) (l1 : List Bool), okZ (wI H 111 3 (((l1.length : Nat) : Int))) → (trn l1 = trn l) → (EncF (H.1 112) 0 l1) → (l1.length ≤ 8) → l1.length < nF → Ev zX mX0_turn (EvC zX d) (zPi (fun (r : Int) (H1 : ZH) => FrW H H1 ∧ ((trn l = none ∧ r = 0) ∨ ∃ m, trn l = some m ∧ r = 1 ∧ H1.1 111 3 = ((m.length : Nat) : Int) ∧ EncF (H1.1 112) 0 m ∧ m.length ≤ 8))) 0 [(0, .ref 111)] [] (eh (wI H 111 3 (((l1.length : Nat) : Int)))) := by
    intro nF
    induction nF with
    | zero => intro l1 okl0 ht el hl8 hm; exact absurd hm (Nat.not_lt_zero _)
    | succ nF ih0 =>
      intro l1 okl0 ht el hl8 hm
      refine x_aload_n (pc := 0) dX0_turn_0 (List.Mem.head _) ?_
      refine z_getI (pc := 1) (k := 3) (v := ((l1.length : Nat) : Int)) dX0_turn_1 lf_X0_27 sh_111 rfl (by rw [wI1]) ?_
      refine z_if_le (pc := 4) (tgt := 34) dX0_turn_4 (by decide) (by omega) (by omega) (fun hb1 => ?_) (fun hb1 => ?_)
      · skip
        have hnil : l1 = [] := List.length_eq_zero_iff.mp (by omega)
        refine x_aload_n (pc := 34) dX0_turn_34 (List.Mem.head _) ?_
        refine z_getI (pc := 35) (k := 3) (v := ((l1.length : Nat) : Int)) dX0_turn_35 lf_X0_27 sh_111 rfl (by rw [wI1]) ?_
        refine z_if_ne (pc := 38) (tgt := 43) dX0_turn_38 (by decide) (by omega) (by omega) (fun hb2 => ?_) (fun hb2 => ?_)
        · skip
          refine x_aload_n (pc := 43) dX0_turn_43 (List.Mem.head _) ?_
          refine z_getR (pc := 44) (k := 2) (r := 112) dX0_turn_44 lf_X0_9 sh_111 rfl rf_111_2 ?_
          refine x_aload_n (pc := 47) dX0_turn_47 (List.Mem.head _) ?_
          refine z_getI (pc := 48) (k := 3) (v := ((l1.length : Nat) : Int)) dX0_turn_48 lf_X0_27 sh_111 rfl (by rw [wI1]) ?_
          refine z_iconst (pc := 51) dX0_turn_51 ?_
          refine z_isub (pc := 52) dX0_turn_52 ?_
          refine z_iconst (pc := 53) dX0_turn_53 ?_
          refine z_zast (pc := 54) (j := l1.length - 1) (v := 0) dX0_turn_54 sh_112 (by omega) (by omega) (by decide) (by omega) ?_
          have ok3 := okI okl0 112 (l1.length - 1) (v := 0) (by decide) (by decide)
          refine z_iconst (pc := 55) dX0_turn_55 ?_
          refine z_ireturn (pc := 56) dX0_turn_56 rfl (Or.inr ⟨rfl, by omega⟩) ok3 (by decide) (by decide) ?_
          first
            | (exfalso; omega)
            | (refine ⟨⟨fun cc a b => funext (fun j => by (repeat rw [wI1c (by omega)])), fun k a => by (repeat first | rw [wI1c (by omega)] | rw [wI1k (by omega)]), rfl⟩, Or.inr ⟨l2 ++ [false], by rw [← ht, hl2, hbt, trn_t], rfl, ?_, ?_, by simp; omega⟩⟩
               · rw [wI1c (by omega), wI1, hlen]; simp
               · rw [EncF_app]
                 refine ⟨EncF_cg l2 0 (fun i _ hi => ?_) el2, ?_, trivial⟩
                 · rw [wI1k (by omega), wI1c (by omega)]
                 · rw [show 0 + l2.length = l1.length - 1 by omega, wI1]; rfl)
        · skip
          refine z_iconst (pc := 41) dX0_turn_41 ?_
          refine z_ireturn (pc := 42) dX0_turn_42 rfl (Or.inr ⟨rfl, by omega⟩) okl0 (by decide) (by decide) ?_
          first | exact ⟨⟨fun cc a b => funext (fun j => by (repeat rw [wI1c (by omega)])), fun k a => by (repeat first | rw [wI1c (by omega)] | rw [wI1k (by omega)]), rfl⟩, Or.inl ⟨by rw [← ht, hnil]; rfl, rfl⟩⟩ | (exfalso; omega)
      · skip
        have hb1_ : 0 < ((l1.length : Nat) : Int) := hb1
        obtain ⟨l2, b, hl2⟩ := snoc_of (l := l1) (fun z => by rw [z] at hb1_; exact absurd hb1_ (by decide))
        have hlen : l1.length = l2.length + 1 := by rw [hl2]; simp
        have ea := (EncF_app l2 [b] 0).mp (by rw [← hl2]; exact el)
        have el2 : EncF (H.1 112) 0 l2 := ea.1
        have eb0 : H.1 112 (0 + l2.length) = (if b = true then 1 else 0) := ea.2.1
        have eb : H.1 112 (l1.length - 1) = (if b = true then 1 else 0) := by rw [show l1.length - 1 = 0 + l2.length by omega]; exact eb0
        have ob := b01 b
        have rdz := eb
        refine x_aload_n (pc := 7) dX0_turn_7 (List.Mem.head _) ?_
        refine z_getR (pc := 8) (k := 2) (r := 112) dX0_turn_8 lf_X0_9 sh_111 rfl rf_111_2 ?_
        refine x_aload_n (pc := 11) dX0_turn_11 (List.Mem.head _) ?_
        refine z_getI (pc := 12) (k := 3) (v := ((l1.length : Nat) : Int)) dX0_turn_12 lf_X0_27 sh_111 rfl (by rw [wI1]) ?_
        refine z_iconst (pc := 15) dX0_turn_15 ?_
        refine z_isub (pc := 16) dX0_turn_16 ?_
        refine z_zald (pc := 17) (j := l1.length - 1) (v := (H.1 112 (l1.length - 1))) dX0_turn_17 sh_112 (by omega) (by omega) (by decide) (by rw [wI1c (by omega)]) ?_
        refine z_if_ne (pc := 18) (tgt := 34) dX0_turn_18 (by decide) (by omega) (by omega) (fun hb4 => ?_) (fun hb4 => ?_)
        · skip
          rw [eb] at hb4
          have hbt : b = true := ite01_1 hb4
          refine x_aload_n (pc := 34) dX0_turn_34 (List.Mem.head _) ?_
          refine z_getI (pc := 35) (k := 3) (v := ((l1.length : Nat) : Int)) dX0_turn_35 lf_X0_27 sh_111 rfl (by rw [wI1]) ?_
          refine z_if_ne (pc := 38) (tgt := 43) dX0_turn_38 (by decide) (by omega) (by omega) (fun hb5 => ?_) (fun hb5 => ?_)
          · skip
            refine x_aload_n (pc := 43) dX0_turn_43 (List.Mem.head _) ?_
            refine z_getR (pc := 44) (k := 2) (r := 112) dX0_turn_44 lf_X0_9 sh_111 rfl rf_111_2 ?_
            refine x_aload_n (pc := 47) dX0_turn_47 (List.Mem.head _) ?_
            refine z_getI (pc := 48) (k := 3) (v := ((l1.length : Nat) : Int)) dX0_turn_48 lf_X0_27 sh_111 rfl (by rw [wI1]) ?_
            refine z_iconst (pc := 51) dX0_turn_51 ?_
            refine z_isub (pc := 52) dX0_turn_52 ?_
            refine z_iconst (pc := 53) dX0_turn_53 ?_
            refine z_zast (pc := 54) (j := l1.length - 1) (v := 0) dX0_turn_54 sh_112 (by omega) (by omega) (by decide) (by omega) ?_
            have ok6 := okI okl0 112 (l1.length - 1) (v := 0) (by decide) (by decide)
            refine z_iconst (pc := 55) dX0_turn_55 ?_
            refine z_ireturn (pc := 56) dX0_turn_56 rfl (Or.inr ⟨rfl, by omega⟩) ok6 (by decide) (by decide) ?_
            first
              | (exfalso; omega)
              | (refine ⟨⟨fun cc a b => funext (fun j => by (repeat rw [wI1c (by omega)])), fun k a => by (repeat first | rw [wI1c (by omega)] | rw [wI1k (by omega)]), rfl⟩, Or.inr ⟨l2 ++ [false], by rw [← ht, hl2, hbt, trn_t], rfl, ?_, ?_, by simp; omega⟩⟩
                 · rw [wI1c (by omega), wI1, hlen]; simp
                 · rw [EncF_app]
                   refine ⟨EncF_cg l2 0 (fun i _ hi => ?_) el2, ?_, trivial⟩
                   · rw [wI1k (by omega), wI1c (by omega)]
                   · rw [show 0 + l2.length = l1.length - 1 by omega, wI1]; rfl)
          · skip
            refine z_iconst (pc := 41) dX0_turn_41 ?_
            refine z_ireturn (pc := 42) dX0_turn_42 rfl (Or.inr ⟨rfl, by omega⟩) okl0 (by decide) (by decide) ?_
            first | exact ⟨⟨fun cc a b => funext (fun j => by (repeat rw [wI1c (by omega)])), fun k a => by (repeat first | rw [wI1c (by omega)] | rw [wI1k (by omega)]), rfl⟩, Or.inl ⟨by rw [← ht, hnil]; rfl, rfl⟩⟩ | (exfalso; omega)
        · skip
          rw [eb] at hb4
          have hbf : b = false := ite01_0 hb4
          have ht2 : trn l2 = trn l := by rw [← ht, hl2, hbf, trn_f]
          refine x_aload_n (pc := 21) dX0_turn_21 (List.Mem.head _) ?_
          refine x_dup (pc := 22) dX0_turn_22 rfl ?_
          refine z_getI (pc := 23) (k := 3) (v := ((l1.length : Nat) : Int)) dX0_turn_23 lf_X0_27 sh_111 rfl (by rw [wI1]) ?_
          refine z_iconst (pc := 26) dX0_turn_26 ?_
          refine z_isub (pc := 27) dX0_turn_27 ?_
          refine z_putI (pc := 28) (k := 3) dX0_turn_28 lp_X0_27 sh_111 rfl ?_
          have ok7 := okI okl0 111 3 (v := ((((l1.length : Nat) : Int)) - 1)) (by omega) (by omega)
          refine x_goto (pc := 31) (tgt := 0) dX0_turn_31 (by decide) ?_
          refine x_weaken (L1 := [(0, .ref 111)]) (List.forall_mem_cons.mpr ⟨(List.Mem.head _), (fun _ h => absurd h List.not_mem_nil)⟩) ?_
          have he8 : (wI (wI H 111 3 (((l1.length : Nat) : Int))) 111 3 (((((l1.length : Nat) : Int)) - 1))) = (wI H 111 3 (((l2.length : Nat) : Int))) := by rw [wI_wI, show ((l1.length : Nat) : Int) - 1 = ((l2.length : Nat) : Int) by omega]
          refine Ev_heq he8 ?_
          have ok9 : okZ (wI H 111 3 (((l2.length : Nat) : Int))) := by rw [← he8]; exact ok7
          exact ih0 (l2) ok9 (ht2) (el2) (by omega) (by omega)
  refine x_weaken (L1 := [(0, .ref 111)]) (List.forall_mem_cons.mpr ⟨(List.Mem.head _), (fun _ h => absurd h List.not_mem_nil)⟩) ?_
  have he10 : H = (wI H 111 3 (((l.length : Nat) : Int))) := (wI_id hm0).symm
  refine Ev_heq he10 ?_
  have ok11 : okZ (wI H 111 3 (((l.length : Nat) : Int))) := by rw [← he10]; exact ok
  exact lp0 (l.length + 1) (l) ok11 (rfl) (he) (h8) (Nat.lt_succ_self _)

theorem c_X9_clear {d : Nat} {H : ZH} (ok : okZ H) {t : Nat} {n : Int} (hn : 0 ≤ n ∧ n ≤ 8) (ht : isTr t) : EvC zX (d + 2) mX9_clear [.ref t, .int (zN (n))] (eh H) (zPv (fun (H1 : ZH) => (∀ k, 1 ≤ k → k ≤ 5 → H1.2 t k = 0) ∧ H1.2 t 0 = 100 ^ n.toNat ∧ H1.1 t 6 = 0 ∧ (∀ c, c < 8 → H1.2 (t + 1) c = 0 ∧ H1.2 (t + 2) c = 0) ∧ (∀ cc k, ¬ (cc = t ∧ k = 6) → H1.1 cc k = H.1 cc k) ∧ ∀ cc k, cc ≠ t → cc ≠ t + 1 → cc ≠ t + 2 → H1.2 cc k = H.2 cc k)) := by
  show _ ∧ Ev zX mX9_clear (EvC zX (d + 1)) (zPv (fun (H1 : ZH) => (∀ k, 1 ≤ k → k ≤ 5 → H1.2 t k = 0) ∧ H1.2 t 0 = 100 ^ n.toNat ∧ H1.1 t 6 = 0 ∧ (∀ c, c < 8 → H1.2 (t + 1) c = 0 ∧ H1.2 (t + 2) c = 0) ∧ (∀ cc k, ¬ (cc = t ∧ k = 6) → H1.1 cc k = H.1 cc k) ∧ ∀ cc k, cc ≠ t → cc ≠ t + 1 → cc ≠ t + 2 → H1.2 cc k = H.2 cc k)) 0 [(0, .ref t), (1, .int (zN (n)))] [] (eh H)
  refine ⟨Nat.le_of_ble_eq_true rfl, ?_⟩
  have htr := isTr_r ht
  refine x_aload_n (pc := 0) dX9_clear_0 (List.Mem.head _) ?_
  refine z_lconst (pc := 1) 1 dX9_clear_1 rfl ?_
  refine z_putJ (pc := 2) (k := 0) dX9_clear_2 lp_X9_57 (sh_Tr0 ht) rfl ?_
  have ok1 := okJ ok t 0 (v := 1) (by decide) (by decide)
  refine z_iconst (pc := 5) dX9_clear_5 ?_
  refine x_istore_n (pc := 6) dX9_clear_6 (Nat.le_of_ble_eq_true rfl) ?_
  show Ev _ _ _ _ _ [(2, .int (zN (0))), (0, .ref t), (1, .int (zN (n)))] _ _
  have lp7 : ∀ (nF : Nat) (k : Nat), okZ (wJ H t 0 (((100 : Int) ^ k))) → ((k : Int) ≤ n) → n.toNat - k < nF → Ev zX mX9_clear (EvC zX (d + 1)) (zPv (fun (H1 : ZH) => (∀ k, 1 ≤ k → k ≤ 5 → H1.2 t k = 0) ∧ H1.2 t 0 = 100 ^ n.toNat ∧ H1.1 t 6 = 0 ∧ (∀ c, c < 8 → H1.2 (t + 1) c = 0 ∧ H1.2 (t + 2) c = 0) ∧ (∀ cc k, ¬ (cc = t ∧ k = 6) → H1.1 cc k = H.1 cc k) ∧ ∀ cc k, cc ≠ t → cc ≠ t + 1 → cc ≠ t + 2 → H1.2 cc k = H.2 cc k)) 7 [(0, .ref t), (1, .int (zN (n))), (2, .int (zN ((k : Int))))] [] (eh (wJ H t 0 (((100 : Int) ^ k)))) := by
    intro nF
    induction nF with
    | zero => intro k okl7 hk hm; exact absurd hm (Nat.not_lt_zero _)
    | succ nF ih7 =>
      intro k okl7 hk hm
      have pk := p100_bd (n := k) (by omega)
      refine x_iload_n (pc := 7) dX9_clear_7 (List.Mem.tail _ (List.Mem.tail _ (List.Mem.head _))) ?_
      refine x_iload_n (pc := 8) dX9_clear_8 (List.Mem.tail _ (List.Mem.head _)) ?_
      refine z_icmp_ge (pc := 9) (tgt := 30) dX9_clear_9 (by decide) (by omega) (by omega) (by omega) (by omega) (fun hb2 => ?_) (fun hb2 => ?_)
      · skip
        refine x_aload_n (pc := 30) dX9_clear_30 (List.Mem.head _) ?_
        refine z_lconst (pc := 31) 0 dX9_clear_31 rfl ?_
        refine z_putJ (pc := 32) (k := 1) dX9_clear_32 lp_X9_63 (sh_Tr0 ht) rfl ?_
        have ok3 := okJ okl7 t 1 (v := 0) (by decide) (by decide)
        refine x_aload_n (pc := 35) dX9_clear_35 (List.Mem.head _) ?_
        refine z_lconst (pc := 36) 0 dX9_clear_36 rfl ?_
        refine z_putJ (pc := 37) (k := 2) dX9_clear_37 lp_X9_66 (sh_Tr0 ht) rfl ?_
        have ok4 := okJ ok3 t 2 (v := 0) (by decide) (by decide)
        refine x_aload_n (pc := 40) dX9_clear_40 (List.Mem.head _) ?_
        refine z_lconst (pc := 41) 0 dX9_clear_41 rfl ?_
        refine z_putJ (pc := 42) (k := 3) dX9_clear_42 lp_X9_69 (sh_Tr0 ht) rfl ?_
        have ok5 := okJ ok4 t 3 (v := 0) (by decide) (by decide)
        refine x_aload_n (pc := 45) dX9_clear_45 (List.Mem.head _) ?_
        refine z_lconst (pc := 46) 0 dX9_clear_46 rfl ?_
        refine z_putJ (pc := 47) (k := 4) dX9_clear_47 lp_X9_72 (sh_Tr0 ht) rfl ?_
        have ok6 := okJ ok5 t 4 (v := 0) (by decide) (by decide)
        refine x_aload_n (pc := 50) dX9_clear_50 (List.Mem.head _) ?_
        refine z_lconst (pc := 51) 0 dX9_clear_51 rfl ?_
        refine z_putJ (pc := 52) (k := 5) dX9_clear_52 lp_X9_75 (sh_Tr0 ht) rfl ?_
        have ok7 := okJ ok6 t 5 (v := 0) (by decide) (by decide)
        refine x_aload_n (pc := 55) dX9_clear_55 (List.Mem.head _) ?_
        refine z_iconst (pc := 56) dX9_clear_56 ?_
        refine z_putI (pc := 57) (k := 6) dX9_clear_57 lp_X9_78 (sh_Tr0 ht) rfl ?_
        have ok8 := okI ok7 t 6 (v := 0) (by decide) (by decide)
        refine x_aload_n (pc := 60) dX9_clear_60 (List.Mem.head _) ?_
        refine z_getR (pc := 61) (k := 7) (r := (t + 1)) dX9_clear_61 lf_X9_9 (sh_Tr0 ht) rfl (rf_Tr_7 ht) ?_
        refine z_lconst (pc := 64) 0 dX9_clear_64 rfl ?_
        refine z_callSvp (pc := 65) (i := mJ7_fill_d0a16) (S := []) [.ref (t + 1), .long (zL (0))] dX9_clear_65 ml_X9_81 ok_J7_fill_d0a16 rfl rfl (Nat.le_of_ble_eq_true rfl) (c_J7_fill_d0a16 (d := d) (c := (t + 1)) (n := 8) (hn := (by omega)) (v := 0) (v1 := (by omega)) (v2 := (by omega)) (ok := ok8) (sh := (sh_Tr1 ht))) (fun ok10 => ?_)
        refine x_aload_n (pc := 68) dX9_clear_68 (List.Mem.head _) ?_
        refine z_getR (pc := 69) (k := 8) (r := (t + 2)) dX9_clear_69 lf_X9_15 (sh_Tr0 ht) rfl (rf_Tr_8 ht) ?_
        refine z_lconst (pc := 72) 0 dX9_clear_72 rfl ?_
        refine z_callSvp (pc := 73) (i := mJ7_fill_d0a16) (S := []) [.ref (t + 2), .long (zL (0))] dX9_clear_73 ml_X9_81 ok_J7_fill_d0a16 rfl rfl (Nat.le_of_ble_eq_true rfl) (c_J7_fill_d0a16 (d := d) (c := (t + 2)) (n := 8) (hn := (by omega)) (v := 0) (v1 := (by omega)) (v2 := (by omega)) (ok := ok10) (sh := (sh_Tr2 ht))) (fun ok12 => ?_)
        refine z_vreturn (pc := 76) dX9_clear_76 rfl ok12 ?_
        refine ⟨fun k a b => ?_, ?_, ?_, fun c hc => ⟨?_, ?_⟩, fun cc k h => ?_, fun cc k a b c => ?_⟩
        · rcases (show k = 1 ∨ k = 2 ∨ k = 3 ∨ k = 4 ∨ k = 5 by omega) with z | z | z | z | z <;> subst z <;> (repeat first | rw [wB1c (by omega)] | rw [wB1] | rw [wI2] | rw [wJ1k (by omega)] | rw [wJ1] | rw [wJ1c (by omega)])
        · (repeat first | rw [wB1c (by omega)] | rw [wB1] | rw [wI2] | rw [wJ1k (by omega)] | rw [wJ1] | rw [wJ1c (by omega)]); rw [show n.toNat = k by omega]
        · (repeat first | rw [wB2] | rw [wI1] | rw [wJ2])
        · (repeat first | rw [wB1c (by omega)] | rw [wB1] | rw [wI2] | rw [wJ1k (by omega)] | rw [wJ1] | rw [wJ1c (by omega)]); exact if_pos hc
        · (repeat first | rw [wB1c (by omega)] | rw [wB1] | rw [wI2] | rw [wJ1k (by omega)] | rw [wJ1] | rw [wJ1c (by omega)]); exact if_pos hc
        · (repeat first | rw [wB2] | rw [wJ2]); rw [wIg, if_neg h]; (repeat rw [wJ2])
        · (repeat first | rw [wB1c (by omega)] | rw [wB1] | rw [wI2] | rw [wJ1k (by omega)] | rw [wJ1] | rw [wJ1c (by omega)])
      · skip
        refine x_aload_n (pc := 12) dX9_clear_12 (List.Mem.head _) ?_
        refine x_dup (pc := 13) dX9_clear_13 rfl ?_
        refine z_getJ (pc := 14) (k := 0) (v := ((100 : Int) ^ k)) dX9_clear_14 lf_X9_57 (sh_Tr0 ht) rfl (by rw [wJ1]) ?_
        refine z_ldc2_w (pc := 17) 100 dX9_clear_17 cl_X9_61 (by decide) ?_
        refine z_lmul (pc := 20) dX9_clear_20 ?_
        refine z_putJ (pc := 21) (k := 0) dX9_clear_21 lp_X9_57 (sh_Tr0 ht) rfl ?_
        have ok13 := okJ okl7 t 0 (v := ((((100 : Int) ^ k)) * 100)) (by omega) (by omega)
        refine z_iinc (pc := 24) dX9_clear_24 (List.Mem.tail _ (List.Mem.tail _ (List.Mem.head _))) (Nat.le_of_ble_eq_true rfl) ?_
        show Ev _ _ _ _ _ [(2, .int (zN ((k : Int) + 1))), (0, .ref t), (1, .int (zN (n)))] _ _
        refine x_goto (pc := 27) (tgt := 7) dX9_clear_27 (by decide) ?_
        refine x_weaken (L1 := [(0, .ref t), (1, .int (zN (n))), (2, .int (zN ((((k + 1) : Nat) : Int))))]) (List.forall_mem_cons.mpr ⟨(List.Mem.tail _ (List.Mem.head _)), (List.forall_mem_cons.mpr ⟨(List.Mem.tail _ (List.Mem.tail _ (List.Mem.head _))), (List.forall_mem_cons.mpr ⟨(mem_ci (by omega) (List.Mem.head _)), (fun _ h => absurd h List.not_mem_nil)⟩)⟩)⟩) ?_
        have he14 : (wJ (wJ H t 0 (((100 : Int) ^ k))) t 0 (((((100 : Int) ^ k)) * 100))) = (wJ H t 0 (((100 : Int) ^ (k + 1)))) := by rw [wJ_wJ, Int.pow_succ]
        refine Ev_heq he14 ?_
        have ok15 : okZ (wJ H t 0 (((100 : Int) ^ (k + 1)))) := by rw [← he14]; exact ok13
        exact ih7 ((k + 1)) ok15 (by first | assumption | omega) (by omega)
  refine x_weaken (L1 := [(0, .ref t), (1, .int (zN (n))), (2, .int (zN (((0 : Nat) : Int))))]) (List.forall_mem_cons.mpr ⟨(List.Mem.tail _ (List.Mem.head _)), (List.forall_mem_cons.mpr ⟨(List.Mem.tail _ (List.Mem.tail _ (List.Mem.head _))), (List.forall_mem_cons.mpr ⟨(mem_ci (by omega) (List.Mem.head _)), (fun _ h => absurd h List.not_mem_nil)⟩)⟩)⟩) ?_
  have he16 : (wJ H t 0 (1)) = (wJ H t 0 (((100 : Int) ^ 0))) := rfl
  refine Ev_heq he16 ?_
  have ok17 : okZ (wJ H t 0 (((100 : Int) ^ 0))) := by rw [← he16]; exact ok1
  exact lp7 (n.toNat - 0 + 1) (0) ok17 (by first | assumption | omega) (Nat.lt_succ_self _)

theorem c_X9_add {d : Nat} {H : ZH} (ok : okZ H) {t : Nat} {s : Nat} {q N : Nat → Int} {w : Int} (ht : isTr t) (hs : isSc s) (hsc : H.1 104 1 = (s : Int)) (ws : WFS q) (rs : RepSc H s q) (wn : WFN q N) (rd : RepRd H q N) (he : 1 ≤ N 37 ∧ N 37 ≤ 3) (hak : 0 ≤ H.1 111 4 ∧ H.1 111 4 ≤ q 1) (hw : w = H.2 111 5 * 100 ^ ((q 1).toNat - (H.1 111 4).toNat)) (hwb : 0 ≤ w ∧ w ≤ 10000000000000000) (acc : (∀ k, k < 6 → 0 ≤ H.2 t k ∧ H.2 t k ≤ 4000000000000000000) ∧ ∀ c : Nat, (c : Int) < q 1 → (0 ≤ H.2 (t + 1) c ∧ H.2 (t + 1) c ≤ 4000000000000000000) ∧ 0 ≤ H.2 (t + 2) c ∧ H.2 (t + 2) c ≤ 4000000000000000000) (hlg : 0 ≤ H.1 t 6 ∧ H.1 t 6 ≤ 99) : EvC zX (d + 1) mX9_add [.ref t, .ref 104] (eh H) (zPv (fun (H1 : ZH) => AddT H H1 t q N w)) := by
  show _ ∧ Ev zX mX9_add (EvC zX d) (zPv (fun (H1 : ZH) => AddT H H1 t q N w)) 0 [(0, .ref t), (1, .ref 104)] [] (eh H)
  refine ⟨Nat.le_of_ble_eq_true rfl, ?_⟩
  have hsr := isSc_r hs
  have wsx := ws
  obtain ⟨ws0, ws1, wsC, ws34, ws35, ws36, ws37, ws38, ws39⟩ := wsx
  have rsx := rs
  obtain ⟨rs0, rs1, rsC, rs34, rs35, rs36, rs37, rs38, rs39⟩ := rsx
  have wnx := wn
  obtain ⟨wnC, wn32, wn33, wn34, wn35, wn36, wn37, wn38, wn39⟩ := wnx
  have rdx := rd
  obtain ⟨rdC, rd10, rd11, rd12, rd13, rd14, rd15, rd16, rd17⟩ := rdx
  have q13 := rd13
  have q14 := rd14
  have q15 := rd15
  have q16 := rd16
  have q17 := rd17
  have htr := isTr_r ht
  have ac1 := acc.1 1 (by omega)
  have ac2 := acc.1 2 (by omega)
  have ac3 := acc.1 3 (by omega)
  have ac4 := acc.1 4 (by omega)
  have ac5 := acc.1 5 (by omega)
  have m36 := nn2 (x := w) (y := N 36) (A := w) (B := 99) hwb.1 (Int.le_refl _) wn36.1 wn36.2
  have m38 := nn2 (x := w) (y := N 38) (A := w) (B := 162) hwb.1 (Int.le_refl _) wn38.1 wn38.2
  have jn41 : Ev zX mX9_add (EvC zX d) (zPv (fun (H1 : ZH) => AddT H H1 t q N w)) 41 [(0, .ref t), (1, .ref 104), (2, .long (zL (w)))] [] (eh H) := by
    have jn140 : ∀  (Hj : ZH), okZ Hj → (∀ cc k, Hj.1 cc k = if cc = t ∧ k = 6 then (if H.1 t 6 < N 35 then N 35 else H.1 t 6) else H.1 cc k) → (∀ k, k < 5 → Hj.2 t (1 + k) = H.2 t (1 + k) + gK k N w) → (Hj.2 t 0 = H.2 t 0) → (∀ cc k, cc ≠ t → Hj.2 cc k = H.2 cc k) → Ev zX mX9_add (EvC zX d) (zPv (fun (H1 : ZH) => AddT H H1 t q N w)) 140 [(0, .ref t), (1, .ref 104), (2, .long (zL (w)))] [] (eh Hj) := by
      intro Hj okj140 i6 i5 i0 io
      refine z_iconst (pc := 140) dX9_add_140 ?_
      refine x_istore (pc := 141) dX9_add_141 (Nat.le_of_ble_eq_true rfl) ?_
      show Ev _ _ _ _ _ [(4, .int (zN (0))), (0, .ref t), (1, .ref 104), (2, .long (zL (w)))] _ _
      have lp143 : ∀ (nF : Nat) (k : Nat) (Hl : ZH), okZ Hl → ((k : Int) ≤ q 1) → (Hl.1 = Hj.1) → (∀ j, j < k → Hl.2 (t + 1) j = H.2 (t + 1) j + gB j N w ∧ Hl.2 (t + 2) j = H.2 (t + 2) j + gS j N w) → (∀ j, k ≤ j → Hl.2 (t + 1) j = H.2 (t + 1) j ∧ Hl.2 (t + 2) j = H.2 (t + 2) j) → (∀ cc k, cc ≠ t + 1 → cc ≠ t + 2 → Hl.2 cc k = Hj.2 cc k) → (q 1).toNat - k < nF → Ev zX mX9_add (EvC zX d) (zPv (fun (H1 : ZH) => AddT H H1 t q N w)) 143 [(0, .ref t), (1, .ref 104), (2, .long (zL (w))), (4, .int (zN ((k : Int))))] [] (eh Hl) := by
        intro nF
        induction nF with
        | zero => intro k Hl okl143 hk l1 lb lk lo hm; exact absurd hm (Nat.not_lt_zero _)
        | succ nF ih143 =>
          intro k Hl okl143 hk l1 lb lk lo hm
          have l1f : ∀ cc k, ¬ (cc = t ∧ k = 6) → Hl.1 cc k = H.1 cc k := fun cc k h => by rw [l1, i6, if_neg h]
          have hsm : Hl.1 104 1 = (s : Int) := (l1f 104 1 (by omega)).trans hsc
          refine x_iload (pc := 143) dX9_add_143 (List.Mem.tail _ (List.Mem.tail _ (List.Mem.tail _ (List.Mem.head _)))) ?_
          refine x_aload_n (pc := 145) dX9_add_145 (List.Mem.tail _ (List.Mem.head _)) ?_
          refine z_getY (pc := 146) (k := 1) (r := s) dX9_add_146 lf_X9_93 sh_104 rfl (by rw [hsm]) (by omega) ?_
          refine z_getI (pc := 149) (k := 1) (v := (q 1)) dX9_add_149 lf_X9_18 (sh_Sc0 hs) rfl (by rw [l1f s 1 (by omega)]; exact rs1) ?_
          refine z_icmp_ge (pc := 152) (tgt := 211) dX9_add_152 (by decide) (by omega) (by omega) (by omega) (by omega) (fun hb1 => ?_) (fun hb1 => ?_)
          · skip
            refine z_vreturn (pc := 211) dX9_add_211 rfl okl143 ?_
            refine ⟨fun k hk5 => ?_, fun c hc => (lb c (by omega)).1, fun c hc => (lb c (by omega)).2, ?_, ?_, fun cc k h => l1f cc k h, fun cc k a b c => ?_⟩
            · rw [lo _ _ (by omega) (by omega)]; exact i5 k hk5
            · rw [l1, i6, if_pos ⟨rfl, rfl⟩]
            · rw [lo _ _ (by omega) (by omega)]; exact i0
            · rw [lo _ _ b c]; exact io cc k a
          · skip
            have ack := acc.2 k (by omega)
            have vkk := wnC k (by omega)
            refine x_aload_n (pc := 155) dX9_add_155 (List.Mem.head _) ?_
            refine z_getR (pc := 156) (k := 7) (r := (t + 1)) dX9_add_156 lf_X9_9 (sh_Tr0 ht) rfl (rf_Tr_7 ht) ?_
            refine x_iload (pc := 159) dX9_add_159 (List.Mem.tail _ (List.Mem.tail _ (List.Mem.tail _ (List.Mem.head _)))) ?_
            refine x_dup2 (pc := 161) dX9_add_161 rfl rfl ?_
            refine z_lald (pc := 162) (j := k) (v := (H.2 (t + 1) k)) dX9_add_162 (sh_Tr1 ht) rfl (by omega) (by decide) (lk k (Nat.le_refl _)).1 ?_
            refine x_aload_n (pc := 163) dX9_add_163 (List.Mem.tail _ (List.Mem.head _)) ?_
            refine z_getI (pc := 164) (k := 17) (v := (N 39)) dX9_add_164 lf_X9_110 sh_104 rfl (by rw [l1f 104 17 (by omega)]; exact q17) ?_
            refine x_iload (pc := 167) dX9_add_167 (List.Mem.tail _ (List.Mem.tail _ (List.Mem.tail _ (List.Mem.head _)))) ?_
            refine z_icmp_ne (pc := 169) (tgt := 176) dX9_add_169 (by decide) (by omega) (by omega) (by omega) (by omega) (fun hb2 => ?_) (fun hb2 => ?_)
            · skip
              have hgb : H.2 (t + 1) k + 0 = H.2 (t + 1) k + gB k N w := by unfold gB; rw [if_neg (by omega)]
              refine z_lconst (pc := 176) 0 dX9_add_176 rfl ?_
              refine z_ladd (pc := 177) dX9_add_177 ?_
              refine z_last (pc := 178) (j := k) (v := (((H.2 (t + 1) k)) + 0)) dX9_add_178 (sh_Tr1 ht) rfl (by omega) (by decide) ?_
              have ok3 := okJ okl143 (t + 1) k (v := (((H.2 (t + 1) k)) + 0)) (by omega) (by omega)
              refine x_aload_n (pc := 179) dX9_add_179 (List.Mem.head _) ?_
              refine z_getR (pc := 180) (k := 8) (r := (t + 2)) dX9_add_180 lf_X9_15 (sh_Tr0 ht) rfl (rf_Tr_8 ht) ?_
              refine x_iload (pc := 183) dX9_add_183 (List.Mem.tail _ (List.Mem.tail _ (List.Mem.tail _ (List.Mem.head _)))) ?_
              refine x_dup2 (pc := 185) dX9_add_185 rfl rfl ?_
              refine z_lald (pc := 186) (j := k) (v := (H.2 (t + 2) k)) dX9_add_186 (sh_Tr2 ht) rfl (by omega) (by decide) (by rw [wJ1c (by omega)]; exact (lk k (Nat.le_refl _)).2) ?_
              refine x_aload_n (pc := 187) dX9_add_187 (List.Mem.tail _ (List.Mem.head _)) ?_
              refine z_getR (pc := 188) (k := 6) (r := 107) dX9_add_188 lf_X9_113 sh_104 rfl rf_104_6 ?_
              refine x_iload (pc := 191) dX9_add_191 (List.Mem.tail _ (List.Mem.tail _ (List.Mem.tail _ (List.Mem.head _)))) ?_
              refine z_iald (pc := 193) (j := k) (v := (N (16 + k))) dX9_add_193 sh_107 rfl (by omega) (by decide) (by rw [wJ2, l1f 107 k (by omega)]; exact (rdC k (by omega)).2.2.1) ?_
              refine z_iconst (pc := 194) dX9_add_194 ?_
              refine z_icmp_ne (pc := 195) (tgt := 202) dX9_add_195 (by decide) (by omega) (by omega) (by decide) (by decide) (fun hb4 => ?_) (fun hb4 => ?_)
              · skip
                have hgs : H.2 (t + 2) k + 0 = H.2 (t + 2) k + gS k N w := by unfold gS; rw [if_neg (by omega)]
                refine z_lconst (pc := 202) 0 dX9_add_202 rfl ?_
                refine z_ladd (pc := 203) dX9_add_203 ?_
                refine z_last (pc := 204) (j := k) (v := (((H.2 (t + 2) k)) + 0)) dX9_add_204 (sh_Tr2 ht) rfl (by omega) (by decide) ?_
                have ok5 := okJ ok3 (t + 2) k (v := (((H.2 (t + 2) k)) + 0)) (by omega) (by omega)
                refine z_iinc (pc := 205) dX9_add_205 (List.Mem.tail _ (List.Mem.tail _ (List.Mem.tail _ (List.Mem.head _)))) (Nat.le_of_ble_eq_true rfl) ?_
                show Ev _ _ _ _ _ [(4, .int (zN ((k : Int) + 1))), (0, .ref t), (1, .ref 104), (2, .long (zL (w)))] _ _
                refine x_goto (pc := 208) (tgt := 143) dX9_add_208 (by decide) ?_
                refine x_weaken (L1 := [(0, .ref t), (1, .ref 104), (2, .long (zL (w))), (4, .int (zN ((((k + 1) : Nat) : Int))))]) (List.forall_mem_cons.mpr ⟨(List.Mem.tail _ (List.Mem.head _)), (List.forall_mem_cons.mpr ⟨(List.Mem.tail _ (List.Mem.tail _ (List.Mem.head _))), (List.forall_mem_cons.mpr ⟨(List.Mem.tail _ (List.Mem.tail _ (List.Mem.tail _ (List.Mem.head _)))), (List.forall_mem_cons.mpr ⟨(mem_ci (by omega) (List.Mem.head _)), (fun _ h => absurd h List.not_mem_nil)⟩)⟩)⟩)⟩) ?_
                exact ih143 ((k + 1)) (wJ (wJ Hl (t + 1) k ((((H.2 (t + 1) k)) + 0))) (t + 2) k ((((H.2 (t + 2) k)) + 0))) ok5 (by omega) (l1) (fun j h => by
      by_cases z : j = k
      · subst z
        rw [wJ1c (by omega), wJ1, wJ1]
        exact ⟨hgb, hgs⟩
      · rw [wJ1c (by omega), wJ1k z, wJ1k z, wJ1c (by omega)]
        exact lb j (by omega)) (fun j h => by rw [wJ1c (by omega), wJ1k (by omega), wJ1k (by omega), wJ1c (by omega)]; exact lk j (by omega)) (fun cc k a b => by rw [wJ1c b, wJ1c a]; exact lo cc k a b) (by omega)
              · skip
                have hgs : H.2 (t + 2) k + w = H.2 (t + 2) k + gS k N w := by unfold gS; rw [if_pos (by omega)]
                refine x_lload_n (pc := 198) dX9_add_198 (List.Mem.tail _ (List.Mem.tail _ (List.Mem.head _))) ?_
                refine x_goto (pc := 199) (tgt := 203) dX9_add_199 (by decide) ?_
                refine z_ladd (pc := 203) dX9_add_203 ?_
                refine z_last (pc := 204) (j := k) (v := (((H.2 (t + 2) k)) + w)) dX9_add_204 (sh_Tr2 ht) rfl (by omega) (by decide) ?_
                have ok6 := okJ ok3 (t + 2) k (v := (((H.2 (t + 2) k)) + w)) (by omega) (by omega)
                refine z_iinc (pc := 205) dX9_add_205 (List.Mem.tail _ (List.Mem.tail _ (List.Mem.tail _ (List.Mem.head _)))) (Nat.le_of_ble_eq_true rfl) ?_
                show Ev _ _ _ _ _ [(4, .int (zN ((k : Int) + 1))), (0, .ref t), (1, .ref 104), (2, .long (zL (w)))] _ _
                refine x_goto (pc := 208) (tgt := 143) dX9_add_208 (by decide) ?_
                refine x_weaken (L1 := [(0, .ref t), (1, .ref 104), (2, .long (zL (w))), (4, .int (zN ((((k + 1) : Nat) : Int))))]) (List.forall_mem_cons.mpr ⟨(List.Mem.tail _ (List.Mem.head _)), (List.forall_mem_cons.mpr ⟨(List.Mem.tail _ (List.Mem.tail _ (List.Mem.head _))), (List.forall_mem_cons.mpr ⟨(List.Mem.tail _ (List.Mem.tail _ (List.Mem.tail _ (List.Mem.head _)))), (List.forall_mem_cons.mpr ⟨(mem_ci (by omega) (List.Mem.head _)), (fun _ h => absurd h List.not_mem_nil)⟩)⟩)⟩)⟩) ?_
                exact ih143 ((k + 1)) (wJ (wJ Hl (t + 1) k ((((H.2 (t + 1) k)) + 0))) (t + 2) k ((((H.2 (t + 2) k)) + w))) ok6 (by omega) (l1) (fun j h => by
      by_cases z : j = k
      · subst z
        rw [wJ1c (by omega), wJ1, wJ1]
        exact ⟨hgb, hgs⟩
      · rw [wJ1c (by omega), wJ1k z, wJ1k z, wJ1c (by omega)]
        exact lb j (by omega)) (fun j h => by rw [wJ1c (by omega), wJ1k (by omega), wJ1k (by omega), wJ1c (by omega)]; exact lk j (by omega)) (fun cc k a b => by rw [wJ1c b, wJ1c a]; exact lo cc k a b) (by omega)
            · skip
              have hgb : H.2 (t + 1) k + w = H.2 (t + 1) k + gB k N w := by unfold gB; rw [if_pos (by omega)]
              refine x_lload_n (pc := 172) dX9_add_172 (List.Mem.tail _ (List.Mem.tail _ (List.Mem.head _))) ?_
              refine x_goto (pc := 173) (tgt := 177) dX9_add_173 (by decide) ?_
              refine z_ladd (pc := 177) dX9_add_177 ?_
              refine z_last (pc := 178) (j := k) (v := (((H.2 (t + 1) k)) + w)) dX9_add_178 (sh_Tr1 ht) rfl (by omega) (by decide) ?_
              have ok7 := okJ okl143 (t + 1) k (v := (((H.2 (t + 1) k)) + w)) (by omega) (by omega)
              refine x_aload_n (pc := 179) dX9_add_179 (List.Mem.head _) ?_
              refine z_getR (pc := 180) (k := 8) (r := (t + 2)) dX9_add_180 lf_X9_15 (sh_Tr0 ht) rfl (rf_Tr_8 ht) ?_
              refine x_iload (pc := 183) dX9_add_183 (List.Mem.tail _ (List.Mem.tail _ (List.Mem.tail _ (List.Mem.head _)))) ?_
              refine x_dup2 (pc := 185) dX9_add_185 rfl rfl ?_
              refine z_lald (pc := 186) (j := k) (v := (H.2 (t + 2) k)) dX9_add_186 (sh_Tr2 ht) rfl (by omega) (by decide) (by rw [wJ1c (by omega)]; exact (lk k (Nat.le_refl _)).2) ?_
              refine x_aload_n (pc := 187) dX9_add_187 (List.Mem.tail _ (List.Mem.head _)) ?_
              refine z_getR (pc := 188) (k := 6) (r := 107) dX9_add_188 lf_X9_113 sh_104 rfl rf_104_6 ?_
              refine x_iload (pc := 191) dX9_add_191 (List.Mem.tail _ (List.Mem.tail _ (List.Mem.tail _ (List.Mem.head _)))) ?_
              refine z_iald (pc := 193) (j := k) (v := (N (16 + k))) dX9_add_193 sh_107 rfl (by omega) (by decide) (by rw [wJ2, l1f 107 k (by omega)]; exact (rdC k (by omega)).2.2.1) ?_
              refine z_iconst (pc := 194) dX9_add_194 ?_
              refine z_icmp_ne (pc := 195) (tgt := 202) dX9_add_195 (by decide) (by omega) (by omega) (by decide) (by decide) (fun hb8 => ?_) (fun hb8 => ?_)
              · skip
                have hgs : H.2 (t + 2) k + 0 = H.2 (t + 2) k + gS k N w := by unfold gS; rw [if_neg (by omega)]
                refine z_lconst (pc := 202) 0 dX9_add_202 rfl ?_
                refine z_ladd (pc := 203) dX9_add_203 ?_
                refine z_last (pc := 204) (j := k) (v := (((H.2 (t + 2) k)) + 0)) dX9_add_204 (sh_Tr2 ht) rfl (by omega) (by decide) ?_
                have ok9 := okJ ok7 (t + 2) k (v := (((H.2 (t + 2) k)) + 0)) (by omega) (by omega)
                refine z_iinc (pc := 205) dX9_add_205 (List.Mem.tail _ (List.Mem.tail _ (List.Mem.tail _ (List.Mem.head _)))) (Nat.le_of_ble_eq_true rfl) ?_
                show Ev _ _ _ _ _ [(4, .int (zN ((k : Int) + 1))), (0, .ref t), (1, .ref 104), (2, .long (zL (w)))] _ _
                refine x_goto (pc := 208) (tgt := 143) dX9_add_208 (by decide) ?_
                refine x_weaken (L1 := [(0, .ref t), (1, .ref 104), (2, .long (zL (w))), (4, .int (zN ((((k + 1) : Nat) : Int))))]) (List.forall_mem_cons.mpr ⟨(List.Mem.tail _ (List.Mem.head _)), (List.forall_mem_cons.mpr ⟨(List.Mem.tail _ (List.Mem.tail _ (List.Mem.head _))), (List.forall_mem_cons.mpr ⟨(List.Mem.tail _ (List.Mem.tail _ (List.Mem.tail _ (List.Mem.head _)))), (List.forall_mem_cons.mpr ⟨(mem_ci (by omega) (List.Mem.head _)), (fun _ h => absurd h List.not_mem_nil)⟩)⟩)⟩)⟩) ?_
                exact ih143 ((k + 1)) (wJ (wJ Hl (t + 1) k ((((H.2 (t + 1) k)) + w))) (t + 2) k ((((H.2 (t + 2) k)) + 0))) ok9 (by omega) (l1) (fun j h => by
      by_cases z : j = k
      · subst z
        rw [wJ1c (by omega), wJ1, wJ1]
        exact ⟨hgb, hgs⟩
      · rw [wJ1c (by omega), wJ1k z, wJ1k z, wJ1c (by omega)]
        exact lb j (by omega)) (fun j h => by rw [wJ1c (by omega), wJ1k (by omega), wJ1k (by omega), wJ1c (by omega)]; exact lk j (by omega)) (fun cc k a b => by rw [wJ1c b, wJ1c a]; exact lo cc k a b) (by omega)
              · skip
                have hgs : H.2 (t + 2) k + w = H.2 (t + 2) k + gS k N w := by unfold gS; rw [if_pos (by omega)]
                refine x_lload_n (pc := 198) dX9_add_198 (List.Mem.tail _ (List.Mem.tail _ (List.Mem.head _))) ?_
                refine x_goto (pc := 199) (tgt := 203) dX9_add_199 (by decide) ?_
                refine z_ladd (pc := 203) dX9_add_203 ?_
                refine z_last (pc := 204) (j := k) (v := (((H.2 (t + 2) k)) + w)) dX9_add_204 (sh_Tr2 ht) rfl (by omega) (by decide) ?_
                have ok10 := okJ ok7 (t + 2) k (v := (((H.2 (t + 2) k)) + w)) (by omega) (by omega)
                refine z_iinc (pc := 205) dX9_add_205 (List.Mem.tail _ (List.Mem.tail _ (List.Mem.tail _ (List.Mem.head _)))) (Nat.le_of_ble_eq_true rfl) ?_
                show Ev _ _ _ _ _ [(4, .int (zN ((k : Int) + 1))), (0, .ref t), (1, .ref 104), (2, .long (zL (w)))] _ _
                refine x_goto (pc := 208) (tgt := 143) dX9_add_208 (by decide) ?_
                refine x_weaken (L1 := [(0, .ref t), (1, .ref 104), (2, .long (zL (w))), (4, .int (zN ((((k + 1) : Nat) : Int))))]) (List.forall_mem_cons.mpr ⟨(List.Mem.tail _ (List.Mem.head _)), (List.forall_mem_cons.mpr ⟨(List.Mem.tail _ (List.Mem.tail _ (List.Mem.head _))), (List.forall_mem_cons.mpr ⟨(List.Mem.tail _ (List.Mem.tail _ (List.Mem.tail _ (List.Mem.head _)))), (List.forall_mem_cons.mpr ⟨(mem_ci (by omega) (List.Mem.head _)), (fun _ h => absurd h List.not_mem_nil)⟩)⟩)⟩)⟩) ?_
                exact ih143 ((k + 1)) (wJ (wJ Hl (t + 1) k ((((H.2 (t + 1) k)) + w))) (t + 2) k ((((H.2 (t + 2) k)) + w))) ok10 (by omega) (l1) (fun j h => by
      by_cases z : j = k
      · subst z
        rw [wJ1c (by omega), wJ1, wJ1]
        exact ⟨hgb, hgs⟩
      · rw [wJ1c (by omega), wJ1k z, wJ1k z, wJ1c (by omega)]
        exact lb j (by omega)) (fun j h => by rw [wJ1c (by omega), wJ1k (by omega), wJ1k (by omega), wJ1c (by omega)]; exact lk j (by omega)) (fun cc k a b => by rw [wJ1c b, wJ1c a]; exact lo cc k a b) (by omega)
      refine x_weaken (L1 := [(0, .ref t), (1, .ref 104), (2, .long (zL (w))), (4, .int (zN (((0 : Nat) : Int))))]) (List.forall_mem_cons.mpr ⟨(List.Mem.tail _ (List.Mem.head _)), (List.forall_mem_cons.mpr ⟨(List.Mem.tail _ (List.Mem.tail _ (List.Mem.head _))), (List.forall_mem_cons.mpr ⟨(List.Mem.tail _ (List.Mem.tail _ (List.Mem.tail _ (List.Mem.head _)))), (List.forall_mem_cons.mpr ⟨(mem_ci (by omega) (List.Mem.head _)), (fun _ h => absurd h List.not_mem_nil)⟩)⟩)⟩)⟩) ?_
      exact lp143 ((q 1).toNat - 0 + 1) (0) Hj okj140 (by omega) (rfl) (fun j h => absurd h (Nat.not_lt_zero _)) (fun j _ => ⟨io _ _ (by omega), io _ _ (by omega)⟩) (fun _ _ _ _ => rfl) (Nat.lt_succ_self _)
    refine x_aload_n (pc := 41) dX9_add_41 (List.Mem.tail _ (List.Mem.head _)) ?_
    refine z_getI (pc := 42) (k := 15) (v := (N 37)) dX9_add_42 lf_X9_43 sh_104 rfl (by rw [q15]) ?_
    refine z_iconst (pc := 45) dX9_add_45 ?_
    refine z_icmp_ne (pc := 46) (tgt := 62) dX9_add_46 (by decide) (by omega) (by omega) (by decide) (by decide) (fun hb11 => ?_) (fun hb11 => ?_)
    · skip
      refine x_aload_n (pc := 62) dX9_add_62 (List.Mem.tail _ (List.Mem.head _)) ?_
      refine z_getI (pc := 63) (k := 15) (v := (N 37)) dX9_add_63 lf_X9_43 sh_104 rfl (by rw [q15]) ?_
      refine z_iconst (pc := 66) dX9_add_66 ?_
      refine z_icmp_ne (pc := 67) (tgt := 83) dX9_add_67 (by decide) (by omega) (by omega) (by decide) (by decide) (fun hb12 => ?_) (fun hb12 => ?_)
      · skip
        refine x_aload_n (pc := 83) dX9_add_83 (List.Mem.head _) ?_
        refine x_dup (pc := 84) dX9_add_84 rfl ?_
        have rd13 := ok.2 t 3
        refine z_getJ (pc := 85) (k := 3) (v := H.2 t 3) dX9_add_85 lf_X9_69 (sh_Tr0 ht) rfl rfl ?_
        refine x_lload_n (pc := 88) dX9_add_88 (List.Mem.tail _ (List.Mem.tail _ (List.Mem.head _))) ?_
        refine z_ladd (pc := 89) dX9_add_89 ?_
        refine z_putJ (pc := 90) (k := 3) dX9_add_90 lp_X9_69 (sh_Tr0 ht) rfl ?_
        have ok14 := okJ ok t 3 (v := ((H.2 t 3) + w)) (by omega) (by omega)
        refine x_aload_n (pc := 93) dX9_add_93 (List.Mem.head _) ?_
        refine x_dup (pc := 94) dX9_add_94 rfl ?_
        have rd15 := ok.2 t 4
        refine z_getJ (pc := 95) (k := 4) (v := H.2 t 4) dX9_add_95 lf_X9_72 (sh_Tr0 ht) rfl (by rw [wJ1k (by omega)]) ?_
        refine x_lload_n (pc := 98) dX9_add_98 (List.Mem.tail _ (List.Mem.tail _ (List.Mem.head _))) ?_
        refine x_aload_n (pc := 99) dX9_add_99 (List.Mem.tail _ (List.Mem.head _)) ?_
        refine z_getI (pc := 100) (k := 14) (v := (N 36)) dX9_add_100 lf_X9_97 sh_104 rfl (by rw [wJ2, q14]) ?_
        refine z_i2l (pc := 103) dX9_add_103 (by omega) (by omega) ?_
        refine z_lmul (pc := 104) dX9_add_104 ?_
        refine z_ladd (pc := 105) dX9_add_105 ?_
        refine z_putJ (pc := 106) (k := 4) dX9_add_106 lp_X9_72 (sh_Tr0 ht) rfl ?_
        have ok16 := okJ ok14 t 4 (v := ((H.2 t 4) + (w * ((N 36))))) (by omega) (by omega)
        refine x_aload_n (pc := 109) dX9_add_109 (List.Mem.head _) ?_
        refine x_dup (pc := 110) dX9_add_110 rfl ?_
        have rd17 := ok.2 t 5
        refine z_getJ (pc := 111) (k := 5) (v := H.2 t 5) dX9_add_111 lf_X9_75 (sh_Tr0 ht) rfl (by rw [wJ1k (by omega), wJ1k (by omega)]) ?_
        refine x_lload_n (pc := 114) dX9_add_114 (List.Mem.tail _ (List.Mem.tail _ (List.Mem.head _))) ?_
        refine x_aload_n (pc := 115) dX9_add_115 (List.Mem.tail _ (List.Mem.head _)) ?_
        refine z_getI (pc := 116) (k := 16) (v := (N 38)) dX9_add_116 lf_X9_99 sh_104 rfl (by rw [wJ2, wJ2, q16]) ?_
        refine z_i2l (pc := 119) dX9_add_119 (by omega) (by omega) ?_
        refine z_lmul (pc := 120) dX9_add_120 ?_
        refine z_ladd (pc := 121) dX9_add_121 ?_
        refine z_putJ (pc := 122) (k := 5) dX9_add_122 lp_X9_75 (sh_Tr0 ht) rfl ?_
        have ok18 := okJ ok16 t 5 (v := ((H.2 t 5) + (w * ((N 38))))) (by omega) (by omega)
        refine x_aload_n (pc := 125) dX9_add_125 (List.Mem.head _) ?_
        refine x_aload_n (pc := 126) dX9_add_126 (List.Mem.head _) ?_
        have rd19 := ok.1 t 6
        refine z_getI (pc := 127) (k := 6) (v := H.1 t 6) dX9_add_127 lf_X9_78 (sh_Tr0 ht) rfl (by rw [wJ2, wJ2, wJ2]) ?_
        refine x_aload_n (pc := 130) dX9_add_130 (List.Mem.tail _ (List.Mem.head _)) ?_
        refine z_getI (pc := 131) (k := 13) (v := (N 35)) dX9_add_131 lf_X9_101 sh_104 rfl (by rw [wJ2, wJ2, wJ2, q13]) ?_
        refine z_mmax (pc := 134) dX9_add_134 ml_X9_104 (Nat.le_of_ble_eq_true rfl) (by omega) (by omega) (by omega) (by omega) ?_
        refine z_putI (pc := 137) (k := 6) dX9_add_137 lp_X9_78 (sh_Tr0 ht) rfl ?_
        have ok20 := okI ok18 t 6 (v := (if (H.1 t 6) < ((N 35)) then ((N 35)) else (H.1 t 6))) (by omega) (by omega)
        have x5 : ∀ k, k < 5 → (wI (wJ (wJ (wJ H t 3 (((H.2 t 3) + w))) t 4 (((H.2 t 4) + (w * ((N 36)))))) t 5 (((H.2 t 5) + (w * ((N 38)))))) t 6 ((if (H.1 t 6) < ((N 35)) then ((N 35)) else (H.1 t 6)))).2 t (1 + k) = H.2 t (1 + k) + gK k N w := fun k hk5 => by
          rcases (show k = 0 ∨ k = 1 ∨ k = 2 ∨ k = 3 ∨ k = 4 by omega) with z | z | z | z | z <;> subst z <;> (repeat first | rw [wI2] | rw [wJ1k (by omega)] | rw [wJ1]) <;> unfold gK <;> (first | rfl | (rw [if_neg (by omega), if_neg (by omega), if_pos (by omega)]; done) | (rw [if_neg (by omega), if_neg (by omega), if_neg (by omega), Int.add_zero]; done))
        refine x_weaken (L1 := [(0, .ref t), (1, .ref 104), (2, .long (zL (w)))]) (List.forall_mem_cons.mpr ⟨(List.Mem.head _), (List.forall_mem_cons.mpr ⟨(List.Mem.tail _ (List.Mem.head _)), (List.forall_mem_cons.mpr ⟨(List.Mem.tail _ (List.Mem.tail _ (List.Mem.head _))), (fun _ h => absurd h List.not_mem_nil)⟩)⟩)⟩) ?_
        exact jn140  (wI (wJ (wJ (wJ H t 3 (((H.2 t 3) + w))) t 4 (((H.2 t 4) + (w * ((N 36)))))) t 5 (((H.2 t 5) + (w * ((N 38)))))) t 6 ((if (H.1 t 6) < ((N 35)) then ((N 35)) else (H.1 t 6)))) ok20 (fun cc k => rfl) (x5) (by (repeat first | rw [wI2] | rw [wJ1k (by omega)] | rw [wJ1])) (fun cc k h => by (repeat first | rw [wI2] | rw [wJ1c h]))
      · skip
        refine x_aload_n (pc := 70) dX9_add_70 (List.Mem.head _) ?_
        refine x_dup (pc := 71) dX9_add_71 rfl ?_
        have rd21 := ok.2 t 2
        refine z_getJ (pc := 72) (k := 2) (v := H.2 t 2) dX9_add_72 lf_X9_66 (sh_Tr0 ht) rfl rfl ?_
        refine x_lload_n (pc := 75) dX9_add_75 (List.Mem.tail _ (List.Mem.tail _ (List.Mem.head _))) ?_
        refine z_ladd (pc := 76) dX9_add_76 ?_
        refine z_putJ (pc := 77) (k := 2) dX9_add_77 lp_X9_66 (sh_Tr0 ht) rfl ?_
        have ok22 := okJ ok t 2 (v := ((H.2 t 2) + w)) (by omega) (by omega)
        refine x_goto (pc := 80) (tgt := 93) dX9_add_80 (by decide) ?_
        refine x_aload_n (pc := 93) dX9_add_93 (List.Mem.head _) ?_
        refine x_dup (pc := 94) dX9_add_94 rfl ?_
        have rd23 := ok.2 t 4
        refine z_getJ (pc := 95) (k := 4) (v := H.2 t 4) dX9_add_95 lf_X9_72 (sh_Tr0 ht) rfl (by rw [wJ1k (by omega)]) ?_
        refine x_lload_n (pc := 98) dX9_add_98 (List.Mem.tail _ (List.Mem.tail _ (List.Mem.head _))) ?_
        refine x_aload_n (pc := 99) dX9_add_99 (List.Mem.tail _ (List.Mem.head _)) ?_
        refine z_getI (pc := 100) (k := 14) (v := (N 36)) dX9_add_100 lf_X9_97 sh_104 rfl (by rw [wJ2, q14]) ?_
        refine z_i2l (pc := 103) dX9_add_103 (by omega) (by omega) ?_
        refine z_lmul (pc := 104) dX9_add_104 ?_
        refine z_ladd (pc := 105) dX9_add_105 ?_
        refine z_putJ (pc := 106) (k := 4) dX9_add_106 lp_X9_72 (sh_Tr0 ht) rfl ?_
        have ok24 := okJ ok22 t 4 (v := ((H.2 t 4) + (w * ((N 36))))) (by omega) (by omega)
        refine x_aload_n (pc := 109) dX9_add_109 (List.Mem.head _) ?_
        refine x_dup (pc := 110) dX9_add_110 rfl ?_
        have rd25 := ok.2 t 5
        refine z_getJ (pc := 111) (k := 5) (v := H.2 t 5) dX9_add_111 lf_X9_75 (sh_Tr0 ht) rfl (by rw [wJ1k (by omega), wJ1k (by omega)]) ?_
        refine x_lload_n (pc := 114) dX9_add_114 (List.Mem.tail _ (List.Mem.tail _ (List.Mem.head _))) ?_
        refine x_aload_n (pc := 115) dX9_add_115 (List.Mem.tail _ (List.Mem.head _)) ?_
        refine z_getI (pc := 116) (k := 16) (v := (N 38)) dX9_add_116 lf_X9_99 sh_104 rfl (by rw [wJ2, wJ2, q16]) ?_
        refine z_i2l (pc := 119) dX9_add_119 (by omega) (by omega) ?_
        refine z_lmul (pc := 120) dX9_add_120 ?_
        refine z_ladd (pc := 121) dX9_add_121 ?_
        refine z_putJ (pc := 122) (k := 5) dX9_add_122 lp_X9_75 (sh_Tr0 ht) rfl ?_
        have ok26 := okJ ok24 t 5 (v := ((H.2 t 5) + (w * ((N 38))))) (by omega) (by omega)
        refine x_aload_n (pc := 125) dX9_add_125 (List.Mem.head _) ?_
        refine x_aload_n (pc := 126) dX9_add_126 (List.Mem.head _) ?_
        have rd27 := ok.1 t 6
        refine z_getI (pc := 127) (k := 6) (v := H.1 t 6) dX9_add_127 lf_X9_78 (sh_Tr0 ht) rfl (by rw [wJ2, wJ2, wJ2]) ?_
        refine x_aload_n (pc := 130) dX9_add_130 (List.Mem.tail _ (List.Mem.head _)) ?_
        refine z_getI (pc := 131) (k := 13) (v := (N 35)) dX9_add_131 lf_X9_101 sh_104 rfl (by rw [wJ2, wJ2, wJ2, q13]) ?_
        refine z_mmax (pc := 134) dX9_add_134 ml_X9_104 (Nat.le_of_ble_eq_true rfl) (by omega) (by omega) (by omega) (by omega) ?_
        refine z_putI (pc := 137) (k := 6) dX9_add_137 lp_X9_78 (sh_Tr0 ht) rfl ?_
        have ok28 := okI ok26 t 6 (v := (if (H.1 t 6) < ((N 35)) then ((N 35)) else (H.1 t 6))) (by omega) (by omega)
        have x5 : ∀ k, k < 5 → (wI (wJ (wJ (wJ H t 2 (((H.2 t 2) + w))) t 4 (((H.2 t 4) + (w * ((N 36)))))) t 5 (((H.2 t 5) + (w * ((N 38)))))) t 6 ((if (H.1 t 6) < ((N 35)) then ((N 35)) else (H.1 t 6)))).2 t (1 + k) = H.2 t (1 + k) + gK k N w := fun k hk5 => by
          rcases (show k = 0 ∨ k = 1 ∨ k = 2 ∨ k = 3 ∨ k = 4 by omega) with z | z | z | z | z <;> subst z <;> (repeat first | rw [wI2] | rw [wJ1k (by omega)] | rw [wJ1]) <;> unfold gK <;> (first | rfl | (rw [if_neg (by omega), if_neg (by omega), if_pos (by omega)]; done) | (rw [if_neg (by omega), if_neg (by omega), if_neg (by omega), Int.add_zero]; done))
        refine x_weaken (L1 := [(0, .ref t), (1, .ref 104), (2, .long (zL (w)))]) (List.forall_mem_cons.mpr ⟨(List.Mem.head _), (List.forall_mem_cons.mpr ⟨(List.Mem.tail _ (List.Mem.head _)), (List.forall_mem_cons.mpr ⟨(List.Mem.tail _ (List.Mem.tail _ (List.Mem.head _))), (fun _ h => absurd h List.not_mem_nil)⟩)⟩)⟩) ?_
        exact jn140  (wI (wJ (wJ (wJ H t 2 (((H.2 t 2) + w))) t 4 (((H.2 t 4) + (w * ((N 36)))))) t 5 (((H.2 t 5) + (w * ((N 38)))))) t 6 ((if (H.1 t 6) < ((N 35)) then ((N 35)) else (H.1 t 6)))) ok28 (fun cc k => rfl) (x5) (by (repeat first | rw [wI2] | rw [wJ1k (by omega)] | rw [wJ1])) (fun cc k h => by (repeat first | rw [wI2] | rw [wJ1c h]))
    · skip
      refine x_aload_n (pc := 49) dX9_add_49 (List.Mem.head _) ?_
      refine x_dup (pc := 50) dX9_add_50 rfl ?_
      have rd29 := ok.2 t 1
      refine z_getJ (pc := 51) (k := 1) (v := H.2 t 1) dX9_add_51 lf_X9_63 (sh_Tr0 ht) rfl rfl ?_
      refine x_lload_n (pc := 54) dX9_add_54 (List.Mem.tail _ (List.Mem.tail _ (List.Mem.head _))) ?_
      refine z_ladd (pc := 55) dX9_add_55 ?_
      refine z_putJ (pc := 56) (k := 1) dX9_add_56 lp_X9_63 (sh_Tr0 ht) rfl ?_
      have ok30 := okJ ok t 1 (v := ((H.2 t 1) + w)) (by omega) (by omega)
      refine x_goto (pc := 59) (tgt := 93) dX9_add_59 (by decide) ?_
      refine x_aload_n (pc := 93) dX9_add_93 (List.Mem.head _) ?_
      refine x_dup (pc := 94) dX9_add_94 rfl ?_
      have rd31 := ok.2 t 4
      refine z_getJ (pc := 95) (k := 4) (v := H.2 t 4) dX9_add_95 lf_X9_72 (sh_Tr0 ht) rfl (by rw [wJ1k (by omega)]) ?_
      refine x_lload_n (pc := 98) dX9_add_98 (List.Mem.tail _ (List.Mem.tail _ (List.Mem.head _))) ?_
      refine x_aload_n (pc := 99) dX9_add_99 (List.Mem.tail _ (List.Mem.head _)) ?_
      refine z_getI (pc := 100) (k := 14) (v := (N 36)) dX9_add_100 lf_X9_97 sh_104 rfl (by rw [wJ2, q14]) ?_
      refine z_i2l (pc := 103) dX9_add_103 (by omega) (by omega) ?_
      refine z_lmul (pc := 104) dX9_add_104 ?_
      refine z_ladd (pc := 105) dX9_add_105 ?_
      refine z_putJ (pc := 106) (k := 4) dX9_add_106 lp_X9_72 (sh_Tr0 ht) rfl ?_
      have ok32 := okJ ok30 t 4 (v := ((H.2 t 4) + (w * ((N 36))))) (by omega) (by omega)
      refine x_aload_n (pc := 109) dX9_add_109 (List.Mem.head _) ?_
      refine x_dup (pc := 110) dX9_add_110 rfl ?_
      have rd33 := ok.2 t 5
      refine z_getJ (pc := 111) (k := 5) (v := H.2 t 5) dX9_add_111 lf_X9_75 (sh_Tr0 ht) rfl (by rw [wJ1k (by omega), wJ1k (by omega)]) ?_
      refine x_lload_n (pc := 114) dX9_add_114 (List.Mem.tail _ (List.Mem.tail _ (List.Mem.head _))) ?_
      refine x_aload_n (pc := 115) dX9_add_115 (List.Mem.tail _ (List.Mem.head _)) ?_
      refine z_getI (pc := 116) (k := 16) (v := (N 38)) dX9_add_116 lf_X9_99 sh_104 rfl (by rw [wJ2, wJ2, q16]) ?_
      refine z_i2l (pc := 119) dX9_add_119 (by omega) (by omega) ?_
      refine z_lmul (pc := 120) dX9_add_120 ?_
      refine z_ladd (pc := 121) dX9_add_121 ?_
      refine z_putJ (pc := 122) (k := 5) dX9_add_122 lp_X9_75 (sh_Tr0 ht) rfl ?_
      have ok34 := okJ ok32 t 5 (v := ((H.2 t 5) + (w * ((N 38))))) (by omega) (by omega)
      refine x_aload_n (pc := 125) dX9_add_125 (List.Mem.head _) ?_
      refine x_aload_n (pc := 126) dX9_add_126 (List.Mem.head _) ?_
      have rd35 := ok.1 t 6
      refine z_getI (pc := 127) (k := 6) (v := H.1 t 6) dX9_add_127 lf_X9_78 (sh_Tr0 ht) rfl (by rw [wJ2, wJ2, wJ2]) ?_
      refine x_aload_n (pc := 130) dX9_add_130 (List.Mem.tail _ (List.Mem.head _)) ?_
      refine z_getI (pc := 131) (k := 13) (v := (N 35)) dX9_add_131 lf_X9_101 sh_104 rfl (by rw [wJ2, wJ2, wJ2, q13]) ?_
      refine z_mmax (pc := 134) dX9_add_134 ml_X9_104 (Nat.le_of_ble_eq_true rfl) (by omega) (by omega) (by omega) (by omega) ?_
      refine z_putI (pc := 137) (k := 6) dX9_add_137 lp_X9_78 (sh_Tr0 ht) rfl ?_
      have ok36 := okI ok34 t 6 (v := (if (H.1 t 6) < ((N 35)) then ((N 35)) else (H.1 t 6))) (by omega) (by omega)
      have x5 : ∀ k, k < 5 → (wI (wJ (wJ (wJ H t 1 (((H.2 t 1) + w))) t 4 (((H.2 t 4) + (w * ((N 36)))))) t 5 (((H.2 t 5) + (w * ((N 38)))))) t 6 ((if (H.1 t 6) < ((N 35)) then ((N 35)) else (H.1 t 6)))).2 t (1 + k) = H.2 t (1 + k) + gK k N w := fun k hk5 => by
        rcases (show k = 0 ∨ k = 1 ∨ k = 2 ∨ k = 3 ∨ k = 4 by omega) with z | z | z | z | z <;> subst z <;> (repeat first | rw [wI2] | rw [wJ1k (by omega)] | rw [wJ1]) <;> unfold gK <;> (first | rfl | (rw [if_neg (by omega), if_neg (by omega), if_pos (by omega)]; done) | (rw [if_neg (by omega), if_neg (by omega), if_neg (by omega), Int.add_zero]; done))
      refine x_weaken (L1 := [(0, .ref t), (1, .ref 104), (2, .long (zL (w)))]) (List.forall_mem_cons.mpr ⟨(List.Mem.head _), (List.forall_mem_cons.mpr ⟨(List.Mem.tail _ (List.Mem.head _)), (List.forall_mem_cons.mpr ⟨(List.Mem.tail _ (List.Mem.tail _ (List.Mem.head _))), (fun _ h => absurd h List.not_mem_nil)⟩)⟩)⟩) ?_
      exact jn140  (wI (wJ (wJ (wJ H t 1 (((H.2 t 1) + w))) t 4 (((H.2 t 4) + (w * ((N 36)))))) t 5 (((H.2 t 5) + (w * ((N 38)))))) t 6 ((if (H.1 t 6) < ((N 35)) then ((N 35)) else (H.1 t 6)))) ok36 (fun cc k => rfl) (x5) (by (repeat first | rw [wI2] | rw [wJ1k (by omega)] | rw [wJ1])) (fun cc k h => by (repeat first | rw [wI2] | rw [wJ1c h]))
  refine x_aload_n (pc := 0) dX9_add_0 (List.Mem.tail _ (List.Mem.head _)) ?_
  refine z_getR (pc := 1) (k := 0) (r := 111) dX9_add_1 lf_X9_28 sh_104 rfl rf_104_0 ?_
  have rd37 := ok.2 111 5
  refine z_getJ (pc := 4) (k := 5) (v := H.2 111 5) dX9_add_4 lf_X9_87 sh_111 rfl rfl ?_
  refine x_lstore_n (pc := 7) dX9_add_7 (Nat.le_of_ble_eq_true rfl) ?_
  show Ev _ _ _ _ _ [(2, .long (zL ((H.2 111 5)))), (0, .ref t), (1, .ref 104)] _ _
  refine x_aload_n (pc := 8) dX9_add_8 (List.Mem.tail _ (List.Mem.tail _ (List.Mem.head _))) ?_
  refine z_getR (pc := 9) (k := 0) (r := 111) dX9_add_9 lf_X9_28 sh_104 rfl rf_104_0 ?_
  have rd38 := ok.1 111 4
  refine z_getI (pc := 12) (k := 4) (v := H.1 111 4) dX9_add_12 lf_X9_90 sh_111 rfl rfl ?_
  refine x_istore (pc := 15) dX9_add_15 (Nat.le_of_ble_eq_true rfl) ?_
  show Ev _ _ _ _ _ [(4, .int (zN ((H.1 111 4)))), (2, .long (zL ((H.2 111 5)))), (0, .ref t), (1, .ref 104)] _ _
  have lp17 : ∀ (nF : Nat) (j : Nat), (H.1 111 4 + (j : Int) ≤ q 1) → (q 1).toNat - j < nF → Ev zX mX9_add (EvC zX d) (zPv (fun (H1 : ZH) => AddT H H1 t q N w)) 17 [(0, .ref t), (1, .ref 104), (2, .long (zL ((H.2 111 5 * 100 ^ j)))), (4, .int (zN ((H.1 111 4 + (j : Int)))))] [] (eh H) := by
    intro nF
    induction nF with
    | zero => intro j hj hm; exact absurd hm (Nat.not_lt_zero _)
    | succ nF ih17 =>
      intro j hj hm
      have hsm := hsc
      refine x_iload (pc := 17) dX9_add_17 (List.Mem.tail _ (List.Mem.tail _ (List.Mem.tail _ (List.Mem.head _)))) ?_
      refine x_aload_n (pc := 19) dX9_add_19 (List.Mem.tail _ (List.Mem.head _)) ?_
      refine z_getY (pc := 20) (k := 1) (r := s) dX9_add_20 lf_X9_93 sh_104 rfl (by rw [hsm]) (by omega) ?_
      have rd39 := ok.1 s 1
      refine z_getI (pc := 23) (k := 1) (v := H.1 s 1) dX9_add_23 lf_X9_18 (sh_Sc0 hs) rfl rfl ?_
      refine z_icmp_ge (pc := 26) (tgt := 41) dX9_add_26 (by decide) (by omega) (by omega) (by omega) (by omega) (fun hb40 => ?_) (fun hb40 => ?_)
      · skip
        have ew : H.2 111 5 * 100 ^ j = w := by rw [hw, show j = (q 1).toNat - (H.1 111 4).toNat by omega]
        refine x_weaken (L1 := [(0, .ref t), (1, .ref 104), (2, .long (zL (w)))]) (List.forall_mem_cons.mpr ⟨(List.Mem.head _), (List.forall_mem_cons.mpr ⟨(List.Mem.tail _ (List.Mem.head _)), (List.forall_mem_cons.mpr ⟨(mem_cl (ew.symm) (List.Mem.tail _ (List.Mem.tail _ (List.Mem.head _)))), (fun _ h => absurd h List.not_mem_nil)⟩)⟩)⟩) ?_
        exact jn41  
      · skip
        refine x_lload_n (pc := 29) dX9_add_29 (List.Mem.tail _ (List.Mem.tail _ (List.Mem.head _))) ?_
        refine z_ldc2_w (pc := 30) 100 dX9_add_30 cl_X9_61 (by decide) ?_
        refine z_lmul (pc := 33) dX9_add_33 ?_
        refine x_lstore_n (pc := 34) dX9_add_34 (Nat.le_of_ble_eq_true rfl) ?_
        show Ev _ _ _ _ _ [(2, .long (zL (((H.2 111 5 * 100 ^ j) * 100)))), (0, .ref t), (1, .ref 104), (4, .int (zN ((H.1 111 4 + (j : Int)))))] _ _
        refine z_iinc (pc := 35) dX9_add_35 (List.Mem.tail _ (List.Mem.tail _ (List.Mem.tail _ (List.Mem.head _)))) (Nat.le_of_ble_eq_true rfl) ?_
        show Ev _ _ _ _ _ [(4, .int (zN ((H.1 111 4 + (j : Int)) + 1))), (2, .long (zL (((H.2 111 5 * 100 ^ j) * 100)))), (0, .ref t), (1, .ref 104)] _ _
        refine x_goto (pc := 38) (tgt := 17) dX9_add_38 (by decide) ?_
        refine x_weaken (L1 := [(0, .ref t), (1, .ref 104), (2, .long (zL ((H.2 111 5 * 100 ^ (j + 1))))), (4, .int (zN ((H.1 111 4 + (((j + 1) : Nat) : Int)))))]) (List.forall_mem_cons.mpr ⟨(List.Mem.tail _ (List.Mem.tail _ (List.Mem.head _))), (List.forall_mem_cons.mpr ⟨(List.Mem.tail _ (List.Mem.tail _ (List.Mem.tail _ (List.Mem.head _)))), (List.forall_mem_cons.mpr ⟨(mem_cl (by rw [Int.pow_succ, Int.mul_assoc]) (List.Mem.tail _ (List.Mem.head _))), (List.forall_mem_cons.mpr ⟨(mem_ci (by omega) (List.Mem.head _)), (fun _ h => absurd h List.not_mem_nil)⟩)⟩)⟩)⟩) ?_
        exact ih17 ((j + 1)) (by first | assumption | omega) (by omega)
  refine x_weaken (L1 := [(0, .ref t), (1, .ref 104), (2, .long (zL ((H.2 111 5 * 100 ^ 0)))), (4, .int (zN ((H.1 111 4 + ((0 : Nat) : Int)))))]) (List.forall_mem_cons.mpr ⟨(List.Mem.tail _ (List.Mem.tail _ (List.Mem.head _))), (List.forall_mem_cons.mpr ⟨(List.Mem.tail _ (List.Mem.tail _ (List.Mem.tail _ (List.Mem.head _)))), (List.forall_mem_cons.mpr ⟨(mem_cl (by rw [Int.pow_zero, Int.mul_one]) (List.Mem.tail _ (List.Mem.head _))), (List.forall_mem_cons.mpr ⟨(mem_ci (by omega) (List.Mem.head _)), (fun _ h => absurd h List.not_mem_nil)⟩)⟩)⟩)⟩) ?_
  exact lp17 ((q 1).toNat - 0 + 1) (0) (by first | assumption | omega) (Nat.lt_succ_self _)
