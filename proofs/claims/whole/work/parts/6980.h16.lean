/-! GROUP H16: text of the reference. -/
theorem nx_TkS {H H1 : ZH} {n b : Nat} (hb : b ≤ n) (h9 : H.1 0 9 = (n : Int)) (h12 : H.1 0 12 = 0) (h : NxP H H1 (H.1 4) n b) : TkS H1 (H.1 4) n 0 b ∧ FrT H H1 := by
  obtain ⟨q1, q2, q3, q4, q5, q6⟩ := h
  exact ⟨⟨hb, (q5 0 9 (by omega)).trans h9, funext (fun k => q5 4 k (by omega)), by omega, (q5 0 12 (by omega)).trans h12, fun _ => ⟨q1, q2, q3, fun e => q4.trans (tkV_N e _)⟩, fun z => absurd rfl z⟩, fun cc k hh => q5 cc k (by omega), q6⟩
/-- the fresh cells as text begins with them -/
def plF (f : Nat → Int) (j : Nat) : Int := if j < 477 then plA j else f j
theorem plF_WFS (f : Nat → Int) : WFS (plF f) := by
  have h0 : plF f 0 = 1 := rfl
  have h1 : plF f 1 = 0 := rfl
  have h34 : plF f 34 = 0 := rfl
  have h35 : plF f 35 = 0 := rfl
  have h36 : plF f 36 = 3 := rfl
  have h37 : plF f 37 = 20 := rfl
  have h38 : plF f 38 = 40 := rfl
  have h39 : plF f 39 = 0 := rfl
  exact ⟨by omega, by omega, fun c hc => by omega, by omega, by omega, by omega, by omega, by omega, by omega⟩
theorem plF_LwI (f : Nat → Int) : LwI (plF f) 0 := by
  have h40 : plF f 40 = 0 := rfl
  exact ⟨⟨by omega, fun l hl => by omega⟩, by rw [if_pos h40]; rfl, by omega⟩
/-- what a text may change beside what it makes -/
def TxF (H H1 : ZH) : Prop := (∀ cc k, cc ≠ 5 → ¬ (cc = 0 ∧ 6 ≤ k ∧ k ≤ 17) → cc ≠ 1 → cc ≠ 2 → H1.1 cc k = H.1 cc k) ∧ H1.2 = H.2 ∧ H1.1 0 6 = 0
/-- a text was read: w the fault, p its place, N what THE SCENE or THE LAW is then, v the answer -/
def TxR (H H1 : ZH) (r w p : Int) (v : Int) (N : Nat → Int) : Prop := TxF H H1 ∧ ((w ≠ 0 ∧ r = -30 - w ∧ H1.1 0 16 = w ∧ H1.1 0 17 = p ∧ H1.1 1 = (bumpM 5 H).1 1 ∧ H1.1 2 = H.1 2) ∨ (w = 0 ∧ r = v ∧ H1.1 0 16 = 0 ∧ H1.1 0 17 = -1 ∧ H1.1 1 = H.1 1 ∧ H1.1 2 = N))
theorem scR_bd {T : Nat → Int} {n : Nat} : ∀ f p (q : Nat → Int), WFS q → p ≤ n → n ≤ 400 → q 39 ≤ (p : Int) → (scR T n f p q).1.1 = 0 → WFS (scR T n f p q).2 := by
  intro f
  induction f with
  | zero => intro p q ws _ _ _ _; exact ws
  | succ f ih =>
    intro p q ws hp hn h39 h
    by_cases hk : tkK T n p = 34
    · rw [scR_e hk]; exact ws
    · by_cases hb : (lnL T n p q).1.1 = 0
      · rw [scR_g hk hb] at h ⊢
        have tb := tk_bd T hp
        have tl := tb.2.2.2.2 hk
        have y := lnL_ok ws hp (by omega) hb
        exact ih _ _ y.2.1 y.2.2.2.2 hn (by omega) h
      · rw [scR_b hk hb] at h
        exact absurd h hb
theorem lwR_bd {T : Nat → Int} {n : Nat} : ∀ f p (s : Sx), LwI s.2 s.1 → p ≤ n → n ≤ 400 → 2 * s.1 ≤ p → (lwR T n f p s).1.1 = 0 → LwI (lwR T n f p s).2.2 (lwR T n f p s).2.1 := by
  intro f
  induction f with
  | zero => intro p s ws _ _ _ _; exact ws
  | succ f ih =>
    intro p s ws hp hn h39 h
    by_cases hk : tkK T n p = 34
    · rw [lwR_e hk]; exact ws
    · by_cases hb : (lwL T n p s).1.1 = 0
      · rw [lwR_g hk hb] at h ⊢
        have y := lwL_ok ws hn hp h39 hb
        exact ih _ _ y.2.2.2.1 y.2.2.2.2.2.2.1 hn y.2.2.2.2.2.2.2 h
      · rw [lwR_b hk hb] at h
        exact absurd h hb

set_option maxHeartbeats 8000000 in
theorem c_X11_text_0 {d : Nat} {H : ZH} (ok : okZ H) {b : Int} (b1 : -2147483648 ≤ b) (b2 : b ≤ 2147483647) (ht0 : 0 ≤ H.1 0 6 ∧ H.1 0 6 ≤ 400) (hT : ∀ k, 0 ≤ H.1 4 k ∧ H.1 4 k ≤ 255) (cm : cntOK H 1) (th : H.1 0 0 = 0) : EvC zX (d + 33) mX11_text [.ref 0, .int (zN (0)), .int (zN (b))] (eh H) (zPi (fun (r : Int) (H1 : ZH) => (¬ (0 ≤ b ∧ b ≤ H.1 0 6) ∧ r = -3 ∧ H1 = bumpM 1 H) ∨ ((0 ≤ b ∧ b ≤ H.1 0 6) ∧ TxR H H1 r (scR (H.1 4) b.toNat 402 0 (plF (H.1 5))).1.1 ((scR (H.1 4) b.toNat 402 0 (plF (H.1 5))).1.2 : Int) ((scR (H.1 4) b.toNat 402 0 (plF (H.1 5))).2 39) (fun j => if j < 40 then (scR (H.1 4) b.toNat 402 0 (plF (H.1 5))).2 j else H.1 2 j)))) := by
  show _ ∧ Ev zX mX11_text (EvC zX (d + 32)) (zPi (fun (r : Int) (H1 : ZH) => (¬ (0 ≤ b ∧ b ≤ H.1 0 6) ∧ r = -3 ∧ H1 = bumpM 1 H) ∨ ((0 ≤ b ∧ b ≤ H.1 0 6) ∧ TxR H H1 r (scR (H.1 4) b.toNat 402 0 (plF (H.1 5))).1.1 ((scR (H.1 4) b.toNat 402 0 (plF (H.1 5))).1.2 : Int) ((scR (H.1 4) b.toNat 402 0 (plF (H.1 5))).2 39) (fun j => if j < 40 then (scR (H.1 4) b.toNat 402 0 (plF (H.1 5))).2 j else H.1 2 j)))) 0 [(0, .ref 0), (1, .int (zN (0))), (2, .int (zN (b)))] [] (eh H)
  refine ⟨Nat.le_of_ble_eq_true rfl, ?_⟩
  refine x_aload_n (pc := 0) dX11_text_0 (List.Mem.head _) ?_
  refine z_iconst (pc := 1) dX11_text_1 ?_
  refine z_putI (pc := 2) (k := 0) dX11_text_2 lp_X11_1 sh_0 rfl ?_
  have ok1 := okI ok 0 0 (v := 0) (by decide) (by decide)
  rw [wI_same th]
  refine x_iload_n (pc := 5) dX11_text_5 (List.Mem.tail _ (List.Mem.head _)) ?_
  refine z_i2l (pc := 6) dX11_text_6 (by decide) (by decide) ?_
  refine z_lconst (pc := 7) 0 dX11_text_7 rfl ?_
  refine z_lconst (pc := 8) 1 dX11_text_8 rfl ?_
  refine z_callSbp (pc := 9) (i := mX11_within) (S := []) [.long (zL (0)), .long (zL (0)), .long (zL (1))] dX11_text_9 ml_X11_152 ok_X11_within rfl (Or.inr rfl) (Nat.le_of_ble_eq_true rfl) (c_X11_within (d := d + 31) (v := 0) (lo := 0) (hi := 1) (v1 := (by omega)) (v2 := (by omega)) (lo1 := (by omega)) (lo2 := (by omega)) (hi1 := (by omega)) (hi2 := (by omega)) (ok := ok)) (fun hc4 ok3 => ?_) (fun hc4 ok3 => ?_)
  · skip
    refine z_if_ne (pc := 12) (tgt := 22) dX11_text_12 (by decide) (by decide) (by decide) (fun _ => ?_) (fun h => absurd h (by decide))
    refine x_iload_n (pc := 22) dX11_text_22 (List.Mem.tail _ (List.Mem.tail _ (List.Mem.head _))) ?_
    refine z_i2l (pc := 23) dX11_text_23 (by omega) (by omega) ?_
    refine z_lconst (pc := 24) 0 dX11_text_24 rfl ?_
    refine x_aload_n (pc := 25) dX11_text_25 (List.Mem.head _) ?_
    have rd6 := ok3.1 0 6
    refine z_getI (pc := 26) (k := 6) (v := H.1 0 6) dX11_text_26 lf_X11_86 sh_0 rfl rfl ?_
    refine z_i2l (pc := 29) dX11_text_29 (by omega) (by omega) ?_
    refine z_callSbp (pc := 30) (i := mX11_within) (S := []) [.long (zL (b)), .long (zL (0)), .long (zL ((H.1 0 6)))] dX11_text_30 ml_X11_152 ok_X11_within rfl (Or.inr rfl) (Nat.le_of_ble_eq_true rfl) (c_X11_within (d := d + 31) (v := b) (lo := 0) (hi := ((H.1 0 6))) (v1 := (by omega)) (v2 := (by omega)) (lo1 := (by omega)) (lo2 := (by omega)) (hi1 := (by omega)) (hi2 := (by omega)) (ok := ok3)) (fun hc9 ok8 => ?_) (fun hc9 ok8 => ?_)
    · skip
      have hyes : 0 ≤ b ∧ b ≤ H.1 0 6 := hc9
      obtain ⟨m, hm⟩ : ∃ m : Nat, b = (m : Int) := ⟨b.toNat, by omega⟩
      have hm4 : m ≤ 400 := by omega
      refine z_if_ne (pc := 33) (tgt := 43) dX11_text_33 (by decide) (by decide) (by decide) (fun _ => ?_) (fun h => absurd h (by decide))
      refine x_aload_n (pc := 43) dX11_text_43 (List.Mem.head _) ?_
      refine x_iload_n (pc := 44) dX11_text_44 (List.Mem.tail _ (List.Mem.tail _ (List.Mem.head _))) ?_
      refine z_putI (pc := 45) (k := 9) dX11_text_45 lp_X11_93 sh_0 rfl ?_
      have ok11 := okI ok8 0 9 (v := b) (by omega) (by omega)
      refine x_aload_n (pc := 48) dX11_text_48 (List.Mem.head _) ?_
      refine z_iconst (pc := 49) dX11_text_49 ?_
      refine z_putI (pc := 50) (k := 6) dX11_text_50 lp_X11_86 sh_0 rfl ?_
      have ok12 := okI ok11 0 6 (v := 0) (by decide) (by decide)
      refine x_aload_n (pc := 53) dX11_text_53 (List.Mem.head _) ?_
      refine z_iconst (pc := 54) dX11_text_54 ?_
      refine z_putI (pc := 55) (k := 8) dX11_text_55 lp_X11_111 sh_0 rfl ?_
      have ok13 := okI ok12 0 8 (v := 0) (by decide) (by decide)
      refine x_aload_n (pc := 58) dX11_text_58 (List.Mem.head _) ?_
      refine z_iconst (pc := 59) dX11_text_59 ?_
      refine z_putI (pc := 60) (k := 12) dX11_text_60 lp_X11_133 sh_0 rfl ?_
      have ok14 := okI ok13 0 12 (v := 0) (by decide) (by decide)
      refine x_aload_n (pc := 63) dX11_text_63 (List.Mem.head _) ?_
      refine z_iconst (pc := 64) dX11_text_64 ?_
      refine z_putI (pc := 65) (k := 14) dX11_text_65 lp_X11_189 sh_0 rfl ?_
      have ok15 := okI ok14 0 14 (v := 0) (by decide) (by decide)
      refine x_aload_n (pc := 68) dX11_text_68 (List.Mem.head _) ?_
      refine z_iconst (pc := 69) dX11_text_69 ?_
      refine z_putI (pc := 70) (k := 15) dX11_text_70 lp_X11_176 sh_0 rfl ?_
      have ok16 := okI ok15 0 15 (v := 0) (by decide) (by decide)
      refine x_aload_n (pc := 73) dX11_text_73 (List.Mem.head _) ?_
      refine z_getR (pc := 74) (k := 5) (r := 5) dX11_text_74 lf_X11_27 sh_0 rfl rf_0_5 ?_
      refine z_callSvp (pc := 77) (i := mX11_plain) (S := []) [.ref 5] dX11_text_77 ml_X11_82 ok_X11_plain rfl rfl (Nat.le_of_ble_eq_true rfl) (c_X11_plain_5 (d := d + 31) (ok := ok16)) (fun ok18 => ?_)
      have okW0 := ok18
      obtain ⟨W, hW⟩ : ∃ W, W = (wA (wI (wI (wI (wI (wI (wI H 0 9 (b)) 0 6 (0)) 0 8 (0)) 0 12 (0)) 0 14 (0)) 0 15 (0)) 5 (fun j => if j < 477 then plA j else (wI (wI (wI (wI (wI (wI H 0 9 (b)) 0 6 (0)) 0 8 (0)) 0 12 (0)) 0 14 (0)) 0 15 (0)).1 5 j)) := ⟨_, rfl⟩
      rw [← hW]
      have okW : okZ W := by rw [hW]; exact okW0
      have w9 : W.1 0 9 = (m : Int) := by rw [hW, wA1c (by omega), wI1k (by omega), wI1k (by omega), wI1k (by omega), wI1k (by omega), wI1k (by omega), wI1]; exact hm
      have w8 : W.1 0 8 = ((0 : Nat) : Int) := by rw [hW, wA1c (by omega), wI1k (by omega), wI1k (by omega), wI1k (by omega), wI1]; rfl
      have w12 : W.1 0 12 = 0 := by rw [hW, wA1c (by omega), wI1k (by omega), wI1k (by omega), wI1]
      have w14 : W.1 0 14 = 0 := by rw [hW, wA1c (by omega), wI1k (by omega), wI1]
      have w15 : W.1 0 15 = 0 := by rw [hW, wA1c (by omega), wI1]
      have w6 : W.1 0 6 = 0 := by rw [hW, wA1c (by omega), wI1k (by omega), wI1k (by omega), wI1k (by omega), wI1k (by omega), wI1]
      have w5 : W.1 5 = (plF (H.1 5)) := by rw [hW, wA1]; rfl
      have w4 : W.1 4 = H.1 4 := by rw [hW, wA1c (by omega)]; (repeat rw [wIf (by omega)])
      have wf : ∀ cc k, cc ≠ 5 → ¬ (cc = 0 ∧ 6 ≤ k ∧ k ≤ 15) → W.1 cc k = H.1 cc k := fun cc k h1 h2 => by rw [hW, wA1c h1]; (repeat rw [wIg, if_neg (by omega)])
      have wJ : W.2 = H.2 := by rw [hW]; rfl
      refine x_aload_n (pc := 80) dX11_text_80 (List.Mem.head _) ?_
      refine z_callVv (pc := 81) (i := mX11_next) (S := []) [] dX11_text_81 ml_X11_142 ok_X11_next rfl sh_0 rfl rfl (Nat.le_of_ble_eq_true rfl) (c_X11_next (d := d + 30) (n := m) (b := 0) (hn := hm4) (hb := (Nat.zero_le m)) (ok := okW) (h8 := w8) (h9 := w9) (ht := (fun k => by rw [w4]; exact hT k))) ?_
      intro Hx ok20 hp21
      have hnx := nx_TkS (Nat.zero_le m) w9 w12 hp21
      rw [w4] at hnx
      have lp84 : ∀ (nF : Nat) (o : ((Int × Nat) × (Nat → Int))) (f : Nat) (Hl : ZH), okZ Hl → (TkS Hl (H.1 4) m o.1.1 o.1.2) → (o.1.1 = 0 → Hl.1 5 = o.2) → (o.1.1 = 0 → WFS o.2 ∧ o.2 39 ≤ (o.1.2 : Int)) → (FrF W Hl) → (o.1.1 = 0 → m - o.1.2 < f) → ((scR (H.1 4) m 402 0 (plF (H.1 5))) = (if o.1.1 = 0 then scR (H.1 4) m f o.1.2 o.2 else o)) → (if o.1.1 = 0 then f + 1 else 0) < nF → Ev zX mX11_text (EvC zX (d + 32)) (zPi (fun (r : Int) (H1 : ZH) => (¬ (0 ≤ b ∧ b ≤ H.1 0 6) ∧ r = -3 ∧ H1 = bumpM 1 H) ∨ ((0 ≤ b ∧ b ≤ H.1 0 6) ∧ TxR H H1 r (scR (H.1 4) b.toNat 402 0 (plF (H.1 5))).1.1 ((scR (H.1 4) b.toNat 402 0 (plF (H.1 5))).1.2 : Int) ((scR (H.1 4) b.toNat 402 0 (plF (H.1 5))).2 39) (fun j => if j < 40 then (scR (H.1 4) b.toNat 402 0 (plF (H.1 5))).2 j else H.1 2 j)))) 84 [(0, .ref 0), (1, .int (zN (0))), (2, .int (zN (b)))] [] (eh Hl) := by
        intro nF
        induction nF with
        | zero => intro o f Hl okl84 ho h5 hwf hfr hfu het hm; exact absurd hm (Nat.not_lt_zero _)
        | succ nF ih84 =>
          intro o f Hl okl84 ho h5 hwf hfr hfu het hm
          have wo := ho.2.2.2.1
          have ho1 := ho.1
          have h16 := hfr.1 0 6 (by omega) (by omega)
          refine x_aload_n (pc := 84) dX11_text_84 (List.Mem.head _) ?_
          have jn145 : ∀  (Hy : ZH), okZ Hy → ((scR (H.1 4) m 402 0 (plF (H.1 5))) = o) → (Hy.1 0 16 = o.1.1) → (Hy.1 0 17 = (if o.1.1 = 0 then -1 else (o.1.2 : Int))) → (∀ cc k, ¬ (cc = 0 ∧ (k = 16 ∨ k = 17)) → Hy.1 cc k = Hl.1 cc k) → (Hy.2 = Hl.2) → Ev zX mX11_text (EvC zX (d + 32)) (zPi (fun (r : Int) (H1 : ZH) => (¬ (0 ≤ b ∧ b ≤ H.1 0 6) ∧ r = -3 ∧ H1 = bumpM 1 H) ∨ ((0 ≤ b ∧ b ≤ H.1 0 6) ∧ TxR H H1 r (scR (H.1 4) b.toNat 402 0 (plF (H.1 5))).1.1 ((scR (H.1 4) b.toNat 402 0 (plF (H.1 5))).1.2 : Int) ((scR (H.1 4) b.toNat 402 0 (plF (H.1 5))).2 39) (fun j => if j < 40 then (scR (H.1 4) b.toNat 402 0 (plF (H.1 5))).2 j else H.1 2 j)))) 145 [(0, .ref 0), (1, .int (zN (0))), (2, .int (zN (b)))] [] (eh Hy) := by
            intro Hy okj145 hend y16 y17 yf yJ
            have y12 : Hy.1 0 12 = o.1.1 := (yf 0 12 (by omega)).trans (TkS_12 ho)
            have yfr : ∀ cc k, cc ≠ 5 → ¬ (cc = 0 ∧ 6 ≤ k ∧ k ≤ 17) → Hy.1 cc k = H.1 cc k := fun cc k h1 h2 => by rw [yf cc k (by omega), hfr.1 cc k h1 (by omega)]; exact wf cc k h1 (by omega)
            have y6 : Hy.1 0 6 = 0 := (yf 0 6 (by omega)).trans (h16.trans w6)
            have yJ2 : Hy.2 = H.2 := yJ.trans (hfr.2.trans wJ)
            have yy5 : Hy.1 5 = Hl.1 5 := funext (fun k => yf 5 k (by omega))
            have ycm : cntOK Hy 1 := fun k hk => by rw [yfr 1 k (by omega) (by omega)]; exact cm k hk
            refine x_aload_n (pc := 145) dX11_text_145 (List.Mem.head _) ?_
            refine z_getI (pc := 146) (k := 12) (v := (o.1.1)) dX11_text_146 lf_X11_133 sh_0 rfl y12 ?_
            refine z_if_eq (pc := 149) (tgt := 164) dX11_text_149 (by decide) (by omega) (by omega) (fun hb22 => ?_) (fun hb22 => ?_)
            · skip
              have hw2 := hb22
              have q5 := h5 hw2
              refine x_iload_n (pc := 164) dX11_text_164 (List.Mem.tail _ (List.Mem.head _)) ?_
              refine z_if_ne (pc := 165) (tgt := 172) dX11_text_165 (by decide) (by decide) (by decide) (fun h => absurd h (by decide)) (fun _ => ?_)
              refine z_iconst (pc := 168) dX11_text_168 ?_
              refine x_goto (pc := 169) (tgt := 174) dX11_text_169 (by decide) ?_
              refine x_istore_n (pc := 174) dX11_text_174 (Nat.le_of_ble_eq_true rfl) ?_
              show Ev _ _ _ _ _ [(3, .int (zN (0))), (0, .ref 0), (1, .int (zN (0))), (2, .int (zN (b)))] _ _
              refine x_iload_n (pc := 175) dX11_text_175 (List.Mem.tail _ (List.Mem.tail _ (List.Mem.head _))) ?_
              refine z_if_ne (pc := 176) (tgt := 184) dX11_text_176 (by decide) (by decide) (by decide) (fun h => absurd h (by decide)) (fun _ => ?_)
              refine z_bipush (pc := 179) dX11_text_179 bp_40 ?_
              refine x_goto (pc := 181) (tgt := 187) dX11_text_181 (by decide) ?_
              refine x_istore (pc := 187) dX11_text_187 (Nat.le_of_ble_eq_true rfl) ?_
              show Ev _ _ _ _ _ [(4, .int (zN (40))), (3, .int (zN (0))), (0, .ref 0), (1, .int (zN (0))), (2, .int (zN (b)))] _ _
              refine x_iload_n (pc := 189) dX11_text_189 (List.Mem.tail _ (List.Mem.head _)) ?_
              refine x_istore (pc := 190) dX11_text_190 (Nat.le_of_ble_eq_true rfl) ?_
              show Ev _ _ _ _ _ [(5, .int (zN (0))), (4, .int (zN (40))), (3, .int (zN (0))), (0, .ref 0), (1, .int (zN (0))), (2, .int (zN (b)))] _ _
              have lp192 : ∀ (nF : Nat) (k : Nat) (Hz : ZH), okZ Hz → (0 ≤ k ∧ k ≤ 40) → (∀ j, Hz.1 2 j = if 0 ≤ j ∧ j < k then o.2 j else H.1 2 j) → (∀ cc, cc ≠ 2 → Hz.1 cc = Hy.1 cc) → (Hz.2 = Hy.2) → 40 - k < nF → Ev zX mX11_text (EvC zX (d + 32)) (zPi (fun (r : Int) (H1 : ZH) => (¬ (0 ≤ b ∧ b ≤ H.1 0 6) ∧ r = -3 ∧ H1 = bumpM 1 H) ∨ ((0 ≤ b ∧ b ≤ H.1 0 6) ∧ TxR H H1 r (scR (H.1 4) b.toNat 402 0 (plF (H.1 5))).1.1 ((scR (H.1 4) b.toNat 402 0 (plF (H.1 5))).1.2 : Int) ((scR (H.1 4) b.toNat 402 0 (plF (H.1 5))).2 39) (fun j => if j < 40 then (scR (H.1 4) b.toNat 402 0 (plF (H.1 5))).2 j else H.1 2 j)))) 192 [(0, .ref 0), (1, .int (zN (0))), (3, .int (zN (0))), (4, .int (zN (40))), (5, .int (zN ((k : Int))))] [] (eh Hz) := by
                intro nF
                induction nF with
                | zero => intro k Hz okl192 hk9 z2 zf zJ hm; exact absurd hm (Nat.not_lt_zero _)
                | succ nF ih192 =>
                  intro k Hz okl192 hk9 z2 zf zJ hm
                  have zr := okl192.1 2 39
                  have zr2 := okl192.1 2 40
                  refine x_iload (pc := 192) dX11_text_192 (List.Mem.tail _ (List.Mem.tail _ (List.Mem.tail _ (List.Mem.tail _ (List.Mem.head _))))) ?_
                  refine x_iload (pc := 194) dX11_text_194 (List.Mem.tail _ (List.Mem.tail _ (List.Mem.tail _ (List.Mem.head _)))) ?_
                  refine z_icmp_ge (pc := 196) (tgt := 219) dX11_text_196 (by decide) (by omega) (by omega) (by decide) (by decide) (fun hb25 => ?_) (fun hb25 => ?_)
                  · skip
                    refine x_iload_n (pc := 219) dX11_text_219 (List.Mem.tail _ (List.Mem.head _)) ?_
                    refine z_if_ne (pc := 220) (tgt := 233) dX11_text_220 (by decide) (by decide) (by decide) (fun h => absurd h (by decide)) (fun _ => ?_)
                    refine x_aload_n (pc := 223) dX11_text_223 (List.Mem.head _) ?_
                    refine z_getR (pc := 224) (k := 2) (r := 2) dX11_text_224 lf_X11_17 sh_0 rfl rf_0_2 ?_
                    refine z_bipush (pc := 227) dX11_text_227 bp_39 ?_
                    have rd27 := okl192.1 2 39
                    refine z_iald (pc := 229) (j := 39) (v := Hz.1 2 39) dX11_text_229 sh_2 rfl (Nat.le_of_ble_eq_true rfl) (by decide) rfl ?_
                    refine x_goto (pc := 230) (tgt := 240) dX11_text_230 (by decide) ?_
                    refine z_ireturn (pc := 240) dX11_text_240 rfl (Or.inl rfl) okl192 (by omega) (by omega) ?_
                    refine Or.inr ⟨hyes, ?_⟩
                    rw [show b.toNat = m by omega, hend]
                    have ek : k = 40 := by omega
                    refine ⟨⟨fun cc k h1 h2 h3 h4 => ?_, zJ.trans yJ2, ?_⟩, Or.inr ⟨hw2, ?_, ?_, ?_, ?_, ?_⟩⟩
                    · rw [zf cc h4]; exact yfr cc k h1 h2
                    · rw [zf 0 (by omega)]; exact y6
                    · rw [z2, if_pos (by omega)]
                    · rw [zf 0 (by omega), y16, hw2]
                    · rw [zf 0 (by omega), y17, if_pos hw2]
                    · rw [zf 1 (by omega)]; exact funext (fun k => yfr 1 k (by omega) (by omega))
                    · funext j; rw [z2, ek]; exact (if e : j < 40 then (by rw [if_pos ⟨Nat.zero_le _, e⟩, if_pos e]) else (by rw [if_neg (fun z => e z.2), if_neg e]))
                  · skip
                    refine x_aload_n (pc := 199) dX11_text_199 (List.Mem.head _) ?_
                    refine z_getR (pc := 200) (k := 2) (r := 2) dX11_text_200 lf_X11_17 sh_0 rfl rf_0_2 ?_
                    refine x_iload (pc := 203) dX11_text_203 (List.Mem.tail _ (List.Mem.tail _ (List.Mem.tail _ (List.Mem.tail _ (List.Mem.head _))))) ?_
                    refine x_aload_n (pc := 205) dX11_text_205 (List.Mem.head _) ?_
                    refine z_getR (pc := 206) (k := 5) (r := 5) dX11_text_206 lf_X11_27 sh_0 rfl rf_0_5 ?_
                    refine x_iload (pc := 209) dX11_text_209 (List.Mem.tail _ (List.Mem.tail _ (List.Mem.tail _ (List.Mem.tail _ (List.Mem.head _))))) ?_
                    have zq : -2147483648 ≤ (o.2 k) ∧ (o.2 k) ≤ 2147483647 := by have y := okj145.1 5 k; rw [yy5, q5] at y; exact y
                    refine z_iald (pc := 211) (j := k) (v := (o.2 k)) dX11_text_211 sh_5 rfl (by omega) (by decide) (by rw [zf 5 (by omega), yy5, q5]) ?_
                    refine z_iast (pc := 212) (j := k) (v := ((o.2 k))) dX11_text_212 sh_2 rfl (by omega) (by decide) ?_
                    have ok28 := okI okl192 2 k (v := ((o.2 k))) (by omega) (by omega)
                    refine z_iinc (pc := 213) dX11_text_213 (List.Mem.tail _ (List.Mem.tail _ (List.Mem.tail _ (List.Mem.tail _ (List.Mem.head _))))) (Nat.le_of_ble_eq_true rfl) ?_
                    show Ev _ _ _ _ _ [(5, .int (zN ((k : Int) + 1))), (0, .ref 0), (1, .int (zN (0))), (3, .int (zN (0))), (4, .int (zN (40)))] _ _
                    refine x_goto (pc := 216) (tgt := 192) dX11_text_216 (by decide) ?_
                    refine x_weaken (L1 := [(0, .ref 0), (1, .int (zN (0))), (3, .int (zN (0))), (4, .int (zN (40))), (5, .int (zN ((((k + 1) : Nat) : Int))))]) (List.forall_mem_cons.mpr ⟨(List.Mem.tail _ (List.Mem.head _)), (List.forall_mem_cons.mpr ⟨(List.Mem.tail _ (List.Mem.tail _ (List.Mem.head _))), (List.forall_mem_cons.mpr ⟨(List.Mem.tail _ (List.Mem.tail _ (List.Mem.tail _ (List.Mem.head _)))), (List.forall_mem_cons.mpr ⟨(List.Mem.tail _ (List.Mem.tail _ (List.Mem.tail _ (List.Mem.tail _ (List.Mem.head _))))), (List.forall_mem_cons.mpr ⟨(mem_ci (by omega) (List.Mem.head _)), (fun _ h => absurd h List.not_mem_nil)⟩)⟩)⟩)⟩)⟩) ?_
                    exact ih192 ((k + 1)) (wI Hz 2 k (((o.2 k)))) ok28 (by omega) (fun j => by rw [wIp]; by_cases e : j = k; rw [if_pos e, if_pos (by omega), e]; rw [if_neg e, z2 j]; by_cases e2 : 0 ≤ j ∧ j < k; rw [if_pos e2, if_pos (by omega)]; rw [if_neg e2, if_neg (by omega)]) (fun cc h => by rw [wIf h]; exact zf cc h) (zJ) (by omega)
              refine x_weaken (L1 := [(0, .ref 0), (1, .int (zN (0))), (3, .int (zN (0))), (4, .int (zN (40))), (5, .int (zN (((0 : Nat) : Int))))]) (List.forall_mem_cons.mpr ⟨(List.Mem.tail _ (List.Mem.tail _ (List.Mem.tail _ (List.Mem.head _)))), (List.forall_mem_cons.mpr ⟨(List.Mem.tail _ (List.Mem.tail _ (List.Mem.tail _ (List.Mem.tail _ (List.Mem.head _))))), (List.forall_mem_cons.mpr ⟨(List.Mem.tail _ (List.Mem.tail _ (List.Mem.head _))), (List.forall_mem_cons.mpr ⟨(List.Mem.tail _ (List.Mem.head _)), (List.forall_mem_cons.mpr ⟨(mem_ci (by omega) (List.Mem.head _)), (fun _ h => absurd h List.not_mem_nil)⟩)⟩)⟩)⟩)⟩) ?_
              exact lp192 (40 - 0 + 1) (0) Hy okj145 (by omega) (fun j => by rw [if_neg (by omega)]; exact yfr 2 j (by omega) (by omega)) (fun _ _ => rfl) (rfl) (Nat.lt_succ_self _)
            · skip
              have hw2 := hb22
              have erx : refIx (-30 - o.1.1) = 5 := by unfold refIx; (repeat rw [if_neg (by omega)])
              refine x_aload_n (pc := 152) dX11_text_152 (List.Mem.head _) ?_
              refine z_bipush (pc := 153) dX11_text_153 bp_m30 ?_
              refine x_aload_n (pc := 155) dX11_text_155 (List.Mem.head _) ?_
              refine z_getI (pc := 156) (k := 12) (v := (o.1.1)) dX11_text_156 lf_X11_133 sh_0 rfl y12 ?_
              refine z_isub (pc := 159) dX11_text_159 ?_
              refine z_callVip (pc := 160) (i := mX11_no) (S := []) [.int (zN (((-30) - ((o.1.1)))))] dX11_text_160 ml_X11_89 ok_X11_no rfl sh_0 rfl (Or.inl rfl) (Nat.le_of_ble_eq_true rfl) (c_X11_no (d := d + 31) (code := (((-30) - ((o.1.1))))) (code1 := (by omega)) (code2 := (by omega)) (ok := okj145) (cn := (by first | assumption | omega))) (fun r29a r29b ok30 => ?_)
              show Ev _ _ _ _ _ _ _ (eh (wI Hy 1 ((refIx (((-30) - ((o.1.1)))))) (Hy.1 1 (refIx (((-30) - ((o.1.1))))) + 1)))
              refine z_ireturn (pc := 163) dX11_text_163 rfl (Or.inl rfl) ok30 (by omega) (by omega) ?_
              refine Or.inr ⟨hyes, ?_⟩
              rw [show b.toNat = m by omega, hend]
              refine ⟨⟨fun cc k h1 h2 h3 h4 => ?_, yJ2, ?_⟩, Or.inl ⟨hw2, rfl, ?_, ?_, ?_, ?_⟩⟩
              · rw [wI1c h3]; exact yfr cc k h1 h2
              · rw [wI1c (by omega)]; exact y6
              · rw [wI1c (by omega)]; exact y16
              · rw [wI1c (by omega), y17, if_neg hw2]
              · have e1 : Hy.1 1 = H.1 1 := funext (fun k => yfr 1 k (by omega) (by omega))
                rw [erx, wI_up, e1]; exact (wI_up H 1 5 _).symm
              · rw [wIf (by omega)]; exact funext (fun k => yfr 2 k (by omega) (by omega))
          have jn118 : ((scR (H.1 4) m 402 0 (plF (H.1 5))) = o) → Ev zX mX11_text (EvC zX (d + 32)) (zPi (fun (r : Int) (H1 : ZH) => (¬ (0 ≤ b ∧ b ≤ H.1 0 6) ∧ r = -3 ∧ H1 = bumpM 1 H) ∨ ((0 ≤ b ∧ b ≤ H.1 0 6) ∧ TxR H H1 r (scR (H.1 4) b.toNat 402 0 (plF (H.1 5))).1.1 ((scR (H.1 4) b.toNat 402 0 (plF (H.1 5))).1.2 : Int) ((scR (H.1 4) b.toNat 402 0 (plF (H.1 5))).2 39) (fun j => if j < 40 then (scR (H.1 4) b.toNat 402 0 (plF (H.1 5))).2 j else H.1 2 j)))) 118 [(0, .ref 0), (1, .int (zN (0))), (2, .int (zN (b)))] [] (eh Hl) := by
            intro hend
            refine x_aload_n (pc := 118) dX11_text_118 (List.Mem.head _) ?_
            refine x_aload_n (pc := 119) dX11_text_119 (List.Mem.head _) ?_
            refine z_getI (pc := 120) (k := 12) (v := (o.1.1)) dX11_text_120 lf_X11_133 sh_0 rfl (TkS_12 ho) ?_
            refine z_putI (pc := 123) (k := 16) dX11_text_123 lp_X11_207 sh_0 rfl ?_
            have ok31 := okI okl84 0 16 (v := ((o.1.1))) (by omega) (by omega)
            refine x_aload_n (pc := 126) dX11_text_126 (List.Mem.head _) ?_
            refine x_aload_n (pc := 127) dX11_text_127 (List.Mem.head _) ?_
            refine z_getI (pc := 128) (k := 12) (v := (o.1.1)) dX11_text_128 lf_X11_133 sh_0 rfl (by rw [wI1k (by omega)]; exact TkS_12 ho) ?_
            refine z_if_ne (pc := 131) (tgt := 138) dX11_text_131 (by decide) (by omega) (by omega) (fun hb32 => ?_) (fun hb32 => ?_)
            · skip
              have hw1 := hb32
              refine x_aload_n (pc := 138) dX11_text_138 (List.Mem.head _) ?_
              refine z_getI (pc := 139) (k := 13) (v := (o.1.2 : Int)) dX11_text_139 lf_X11_136 sh_0 rfl (by rw [wI1k (by omega)]; exact ho.2.2.2.2.2.2 hw1) ?_
              refine z_putI (pc := 142) (k := 17) dX11_text_142 lp_X11_30 sh_0 rfl ?_
              have ok33 := okI ok31 0 17 (v := ((o.1.2 : Int))) (by omega) (by omega)
              refine x_weaken (L1 := [(0, .ref 0), (1, .int (zN (0))), (2, .int (zN (b)))]) (List.forall_mem_cons.mpr ⟨(List.Mem.head _), (List.forall_mem_cons.mpr ⟨(List.Mem.tail _ (List.Mem.head _)), (List.forall_mem_cons.mpr ⟨(List.Mem.tail _ (List.Mem.tail _ (List.Mem.head _))), (fun _ h => absurd h List.not_mem_nil)⟩)⟩)⟩) ?_
              exact jn145  (wI (wI Hl 0 16 (((o.1.1)))) 0 17 (((o.1.2 : Int)))) ok33 (hend) ((by rw [wI1k (by omega), wI1])) ((by first | (rw [wI1, if_pos hw1]; done) | (rw [wI1, if_neg hw1]; done))) ((fun cc k h => by rw [wIg, if_neg (by omega), wIg, if_neg (by omega)])) (rfl)
            · skip
              have hw1 := hb32
              refine z_iconst (pc := 134) dX11_text_134 ?_
              refine x_goto (pc := 135) (tgt := 142) dX11_text_135 (by decide) ?_
              refine z_putI (pc := 142) (k := 17) dX11_text_142 lp_X11_30 sh_0 rfl ?_
              have ok34 := okI ok31 0 17 (v := (-1)) (by decide) (by decide)
              refine x_weaken (L1 := [(0, .ref 0), (1, .int (zN (0))), (2, .int (zN (b)))]) (List.forall_mem_cons.mpr ⟨(List.Mem.head _), (List.forall_mem_cons.mpr ⟨(List.Mem.tail _ (List.Mem.head _)), (List.forall_mem_cons.mpr ⟨(List.Mem.tail _ (List.Mem.tail _ (List.Mem.head _))), (fun _ h => absurd h List.not_mem_nil)⟩)⟩)⟩) ?_
              exact jn145  (wI (wI Hl 0 16 (((o.1.1)))) 0 17 ((-1))) ok34 (hend) ((by rw [wI1k (by omega), wI1])) ((by first | (rw [wI1, if_pos hw1]; done) | (rw [wI1, if_neg hw1]; done))) ((fun cc k h => by rw [wIg, if_neg (by omega), wIg, if_neg (by omega)])) (rfl)
          refine z_getI (pc := 85) (k := 12) (v := (o.1.1)) dX11_text_85 lf_X11_133 sh_0 rfl (TkS_12 ho) ?_
          refine z_if_ne (pc := 88) (tgt := 118) dX11_text_88 (by decide) (by omega) (by omega) (fun hb35 => ?_) (fun hb35 => ?_)
          · skip
            have hend : (scR (H.1 4) m 402 0 (plF (H.1 5))) = o := by rw [het, if_neg hb35]
            refine x_weaken (L1 := [(0, .ref 0), (1, .int (zN (0))), (2, .int (zN (b)))]) (List.forall_mem_cons.mpr ⟨(List.Mem.head _), (List.forall_mem_cons.mpr ⟨(List.Mem.tail _ (List.Mem.head _)), (List.forall_mem_cons.mpr ⟨(List.Mem.tail _ (List.Mem.tail _ (List.Mem.head _))), (fun _ h => absurd h List.not_mem_nil)⟩)⟩)⟩) ?_
            exact jn118  (hend)
          · skip
            have hw0 : o.1.1 = 0 := hb35
            have ho0 : TkS Hl (H.1 4) m 0 o.1.2 := by rw [hw0] at ho; exact ho
            have tbo := tk_bd (H.1 4) ho.1
            have hwf0 := hwf hw0
            have hmX := hm
            refine x_aload_n (pc := 91) dX11_text_91 (List.Mem.head _) ?_
            refine z_getI (pc := 92) (k := 10) (v := (tkK (H.1 4) m o.1.2)) dX11_text_92 lf_X11_117 sh_0 rfl (TkS_10 ho0) ?_
            refine z_bipush (pc := 95) dX11_text_95 bp_34 ?_
            refine z_icmp_eq (pc := 97) (tgt := 118) dX11_text_97 (by decide) (by omega) (by omega) (by decide) (by decide) (fun hb36 => ?_) (fun hb36 => ?_)
            · skip
              obtain ⟨f1, hf1⟩ : ∃ f1, f = f1 + 1 := ⟨f - 1, by have := hfu hw0; omega⟩
              have hend : (scR (H.1 4) m 402 0 (plF (H.1 5))) = o := by
                rw [het, if_pos hw0, hf1, scR_e (by omega)]
                rw [← hw0]
              refine x_weaken (L1 := [(0, .ref 0), (1, .int (zN (0))), (2, .int (zN (b)))]) (List.forall_mem_cons.mpr ⟨(List.Mem.head _), (List.forall_mem_cons.mpr ⟨(List.Mem.tail _ (List.Mem.head _)), (List.forall_mem_cons.mpr ⟨(List.Mem.tail _ (List.Mem.tail _ (List.Mem.head _))), (fun _ h => absurd h List.not_mem_nil)⟩)⟩)⟩) ?_
              exact jn118  (hend)
            · skip
              obtain ⟨f2, hf2⟩ : ∃ f2, f = f2 + 1 := ⟨f - 1, by have := hfu hw0; omega⟩
              have hkne : tkK (H.1 4) m o.1.2 ≠ 34 := by omega
              refine x_iload_n (pc := 100) dX11_text_100 (List.Mem.tail _ (List.Mem.head _)) ?_
              refine z_if_ne (pc := 101) (tgt := 111) dX11_text_101 (by decide) (by decide) (by decide) (fun h => absurd h (by decide)) (fun _ => ?_)
              refine x_aload_n (pc := 104) dX11_text_104 (List.Mem.head _) ?_
              refine z_callVv (pc := 105) (i := mX11_readLine) (S := []) [] dX11_text_105 ml_X11_201 ok_X11_readLine rfl sh_0 rfl rfl (Nat.le_of_ble_eq_true rfl) (c_X11_readLine (d := d + 26) (hn := hm4) (ok := okl84) (hT := hT) (hS := ho0) (ws := (by rw [h5 hw0]; exact hwf0.1))) ?_
              intro Hk ok39 hp40
              rw [h5 hw0] at hp40
              have hk1 : TkS Hk (H.1 4) m (lnL (H.1 4) m o.1.2 o.2).1.1 (lnL (H.1 4) m o.1.2 o.2).1.2 := hp40.1
              have hk2 : (lnL (H.1 4) m o.1.2 o.2).1.1 = 0 → Hk.1 5 = (lnL (H.1 4) m o.1.2 o.2).2 := hp40.2.1
              have hk4 := FrF_tr hfr hp40.2.2
              have hk3 : (lnL (H.1 4) m o.1.2 o.2).1.1 = 0 → WFS (lnL (H.1 4) m o.1.2 o.2).2 ∧ (lnL (H.1 4) m o.1.2 o.2).2 39 ≤ ((lnL (H.1 4) m o.1.2 o.2).1.2 : Int) := fun z => by have y := lnL_ok hwf0.1 ho.1 (by have := tbo.2.2.2.2 hkne; omega) z; exact ⟨y.2.1, by omega⟩
              have hk5 : (lnL (H.1 4) m o.1.2 o.2).1.1 = 0 → m - (lnL (H.1 4) m o.1.2 o.2).1.2 < f2 := fun z => by have y := lnL_ok hwf0.1 ho.1 (by have := tbo.2.2.2.2 hkne; omega) z; have := hfu hw0; omega
              have hk6 : (scR (H.1 4) m 402 0 (plF (H.1 5))) = (if (lnL (H.1 4) m o.1.2 o.2).1.1 = 0 then scR (H.1 4) m f2 (lnL (H.1 4) m o.1.2 o.2).1.2 (lnL (H.1 4) m o.1.2 o.2).2 else (lnL (H.1 4) m o.1.2 o.2)) := by
                rw [het, if_pos hw0, hf2]
                by_cases z : (lnL (H.1 4) m o.1.2 o.2).1.1 = 0
                · rw [if_pos z, scR_g hkne z]
                · rw [if_neg z, scR_b hkne z]
              refine x_goto (pc := 108) (tgt := 84) dX11_text_108 (by decide) ?_
              refine x_weaken (L1 := [(0, .ref 0), (1, .int (zN (0))), (2, .int (zN (b)))]) (List.forall_mem_cons.mpr ⟨(List.Mem.head _), (List.forall_mem_cons.mpr ⟨(List.Mem.tail _ (List.Mem.head _)), (List.forall_mem_cons.mpr ⟨(List.Mem.tail _ (List.Mem.tail _ (List.Mem.head _))), (fun _ h => absurd h List.not_mem_nil)⟩)⟩)⟩) ?_
              exact ih84 ((lnL (H.1 4) m o.1.2 o.2)) (f2) Hk ok39 (hk1) (hk2) (hk3) (hk4) (hk5) (hk6) (by rw [if_pos hw0] at hmX; split <;> omega)
      refine x_weaken (L1 := [(0, .ref 0), (1, .int (zN (0))), (2, .int (zN (b)))]) (List.forall_mem_cons.mpr ⟨(List.Mem.head _), (List.forall_mem_cons.mpr ⟨(List.Mem.tail _ (List.Mem.head _)), (List.forall_mem_cons.mpr ⟨(List.Mem.tail _ (List.Mem.tail _ (List.Mem.head _))), (fun _ h => absurd h List.not_mem_nil)⟩)⟩)⟩) ?_
      exact lp84 ((if ((0, 0), (plF (H.1 5))).1.1 = 0 then 402 + 1 else 0) + 1) (((0, 0), (plF (H.1 5)))) (402) Hx ok20 (hnx.1) (fun _ => (FrT_5 hnx.2).trans w5) (fun _ => ⟨plF_WFS _, Int.le_refl _⟩) (FrF_T hnx.2) (fun _ => by show m - 0 < 402; omega) ((if_pos rfl).symm) (Nat.lt_succ_self _)
    · skip
      have hno : ¬ (0 ≤ b ∧ b ≤ H.1 0 6) := hc9
      refine z_if_ne (pc := 33) (tgt := 43) dX11_text_33 (by decide) (by decide) (by decide) (fun h => absurd h (by decide)) (fun _ => ?_)
      refine x_aload_n (pc := 36) dX11_text_36 (List.Mem.head _) ?_
      refine z_bipush (pc := 37) dX11_text_37 bp_m3 ?_
      refine z_callVip (pc := 39) (i := mX11_no) (S := []) [.int (zN ((-3)))] dX11_text_39 ml_X11_89 ok_X11_no rfl sh_0 rfl (Or.inl rfl) (Nat.le_of_ble_eq_true rfl) (c_X11_no (d := d + 31) (code := ((-3))) (code1 := (by omega)) (code2 := (by omega)) (ok := ok8) (cn := (by first | assumption | omega))) (fun r42a r42b ok43 => ?_)
      show Ev _ _ _ _ _ _ _ (eh (wI H 1 ((refIx ((-3)))) (H.1 1 (refIx ((-3))) + 1)))
      refine z_ireturn (pc := 42) dX11_text_42 rfl (Or.inl rfl) ok43 (by omega) (by omega) ?_
      exact Or.inl ⟨hno, rfl, rfl⟩
  · skip
    exact absurd (by omega) hc4

set_option maxHeartbeats 8000000 in
theorem c_X11_text_1 {d : Nat} {H : ZH} (ok : okZ H) {b : Int} (b1 : -2147483648 ≤ b) (b2 : b ≤ 2147483647) (ht0 : 0 ≤ H.1 0 6 ∧ H.1 0 6 ≤ 400) (hT : ∀ k, 0 ≤ H.1 4 k ∧ H.1 4 k ≤ 255) (cm : cntOK H 1) (th : H.1 0 0 = 0) : EvC zX (d + 33) mX11_text [.ref 0, .int (zN (1)), .int (zN (b))] (eh H) (zPi (fun (r : Int) (H1 : ZH) => (¬ (0 ≤ b ∧ b ≤ H.1 0 6) ∧ r = -3 ∧ H1 = bumpM 1 H) ∨ ((0 ≤ b ∧ b ≤ H.1 0 6) ∧ TxR H H1 r (lwR (H.1 4) b.toNat 402 0 (0, (plF (H.1 5)))).1.1 ((lwR (H.1 4) b.toNat 402 0 (0, (plF (H.1 5)))).1.2 : Int) ((lwR (H.1 4) b.toNat 402 0 (0, (plF (H.1 5)))).2.2 40) (fun j => if 40 ≤ j ∧ j < 477 then (lwR (H.1 4) b.toNat 402 0 (0, (plF (H.1 5)))).2.2 j else H.1 2 j)))) := by
  show _ ∧ Ev zX mX11_text (EvC zX (d + 32)) (zPi (fun (r : Int) (H1 : ZH) => (¬ (0 ≤ b ∧ b ≤ H.1 0 6) ∧ r = -3 ∧ H1 = bumpM 1 H) ∨ ((0 ≤ b ∧ b ≤ H.1 0 6) ∧ TxR H H1 r (lwR (H.1 4) b.toNat 402 0 (0, (plF (H.1 5)))).1.1 ((lwR (H.1 4) b.toNat 402 0 (0, (plF (H.1 5)))).1.2 : Int) ((lwR (H.1 4) b.toNat 402 0 (0, (plF (H.1 5)))).2.2 40) (fun j => if 40 ≤ j ∧ j < 477 then (lwR (H.1 4) b.toNat 402 0 (0, (plF (H.1 5)))).2.2 j else H.1 2 j)))) 0 [(0, .ref 0), (1, .int (zN (1))), (2, .int (zN (b)))] [] (eh H)
  refine ⟨Nat.le_of_ble_eq_true rfl, ?_⟩
  refine x_aload_n (pc := 0) dX11_text_0 (List.Mem.head _) ?_
  refine z_iconst (pc := 1) dX11_text_1 ?_
  refine z_putI (pc := 2) (k := 0) dX11_text_2 lp_X11_1 sh_0 rfl ?_
  have ok1 := okI ok 0 0 (v := 0) (by decide) (by decide)
  rw [wI_same th]
  refine x_iload_n (pc := 5) dX11_text_5 (List.Mem.tail _ (List.Mem.head _)) ?_
  refine z_i2l (pc := 6) dX11_text_6 (by decide) (by decide) ?_
  refine z_lconst (pc := 7) 0 dX11_text_7 rfl ?_
  refine z_lconst (pc := 8) 1 dX11_text_8 rfl ?_
  refine z_callSbp (pc := 9) (i := mX11_within) (S := []) [.long (zL (1)), .long (zL (0)), .long (zL (1))] dX11_text_9 ml_X11_152 ok_X11_within rfl (Or.inr rfl) (Nat.le_of_ble_eq_true rfl) (c_X11_within (d := d + 31) (v := 1) (lo := 0) (hi := 1) (v1 := (by omega)) (v2 := (by omega)) (lo1 := (by omega)) (lo2 := (by omega)) (hi1 := (by omega)) (hi2 := (by omega)) (ok := ok)) (fun hc4 ok3 => ?_) (fun hc4 ok3 => ?_)
  · skip
    refine z_if_ne (pc := 12) (tgt := 22) dX11_text_12 (by decide) (by decide) (by decide) (fun _ => ?_) (fun h => absurd h (by decide))
    refine x_iload_n (pc := 22) dX11_text_22 (List.Mem.tail _ (List.Mem.tail _ (List.Mem.head _))) ?_
    refine z_i2l (pc := 23) dX11_text_23 (by omega) (by omega) ?_
    refine z_lconst (pc := 24) 0 dX11_text_24 rfl ?_
    refine x_aload_n (pc := 25) dX11_text_25 (List.Mem.head _) ?_
    have rd6 := ok3.1 0 6
    refine z_getI (pc := 26) (k := 6) (v := H.1 0 6) dX11_text_26 lf_X11_86 sh_0 rfl rfl ?_
    refine z_i2l (pc := 29) dX11_text_29 (by omega) (by omega) ?_
    refine z_callSbp (pc := 30) (i := mX11_within) (S := []) [.long (zL (b)), .long (zL (0)), .long (zL ((H.1 0 6)))] dX11_text_30 ml_X11_152 ok_X11_within rfl (Or.inr rfl) (Nat.le_of_ble_eq_true rfl) (c_X11_within (d := d + 31) (v := b) (lo := 0) (hi := ((H.1 0 6))) (v1 := (by omega)) (v2 := (by omega)) (lo1 := (by omega)) (lo2 := (by omega)) (hi1 := (by omega)) (hi2 := (by omega)) (ok := ok3)) (fun hc9 ok8 => ?_) (fun hc9 ok8 => ?_)
    · skip
      have hyes : 0 ≤ b ∧ b ≤ H.1 0 6 := hc9
      obtain ⟨m, hm⟩ : ∃ m : Nat, b = (m : Int) := ⟨b.toNat, by omega⟩
      have hm4 : m ≤ 400 := by omega
      refine z_if_ne (pc := 33) (tgt := 43) dX11_text_33 (by decide) (by decide) (by decide) (fun _ => ?_) (fun h => absurd h (by decide))
      refine x_aload_n (pc := 43) dX11_text_43 (List.Mem.head _) ?_
      refine x_iload_n (pc := 44) dX11_text_44 (List.Mem.tail _ (List.Mem.tail _ (List.Mem.head _))) ?_
      refine z_putI (pc := 45) (k := 9) dX11_text_45 lp_X11_93 sh_0 rfl ?_
      have ok11 := okI ok8 0 9 (v := b) (by omega) (by omega)
      refine x_aload_n (pc := 48) dX11_text_48 (List.Mem.head _) ?_
      refine z_iconst (pc := 49) dX11_text_49 ?_
      refine z_putI (pc := 50) (k := 6) dX11_text_50 lp_X11_86 sh_0 rfl ?_
      have ok12 := okI ok11 0 6 (v := 0) (by decide) (by decide)
      refine x_aload_n (pc := 53) dX11_text_53 (List.Mem.head _) ?_
      refine z_iconst (pc := 54) dX11_text_54 ?_
      refine z_putI (pc := 55) (k := 8) dX11_text_55 lp_X11_111 sh_0 rfl ?_
      have ok13 := okI ok12 0 8 (v := 0) (by decide) (by decide)
      refine x_aload_n (pc := 58) dX11_text_58 (List.Mem.head _) ?_
      refine z_iconst (pc := 59) dX11_text_59 ?_
      refine z_putI (pc := 60) (k := 12) dX11_text_60 lp_X11_133 sh_0 rfl ?_
      have ok14 := okI ok13 0 12 (v := 0) (by decide) (by decide)
      refine x_aload_n (pc := 63) dX11_text_63 (List.Mem.head _) ?_
      refine z_iconst (pc := 64) dX11_text_64 ?_
      refine z_putI (pc := 65) (k := 14) dX11_text_65 lp_X11_189 sh_0 rfl ?_
      have ok15 := okI ok14 0 14 (v := 0) (by decide) (by decide)
      refine x_aload_n (pc := 68) dX11_text_68 (List.Mem.head _) ?_
      refine z_iconst (pc := 69) dX11_text_69 ?_
      refine z_putI (pc := 70) (k := 15) dX11_text_70 lp_X11_176 sh_0 rfl ?_
      have ok16 := okI ok15 0 15 (v := 0) (by decide) (by decide)
      refine x_aload_n (pc := 73) dX11_text_73 (List.Mem.head _) ?_
      refine z_getR (pc := 74) (k := 5) (r := 5) dX11_text_74 lf_X11_27 sh_0 rfl rf_0_5 ?_
      refine z_callSvp (pc := 77) (i := mX11_plain) (S := []) [.ref 5] dX11_text_77 ml_X11_82 ok_X11_plain rfl rfl (Nat.le_of_ble_eq_true rfl) (c_X11_plain_5 (d := d + 31) (ok := ok16)) (fun ok18 => ?_)
      have okW0 := ok18
      obtain ⟨W, hW⟩ : ∃ W, W = (wA (wI (wI (wI (wI (wI (wI H 0 9 (b)) 0 6 (0)) 0 8 (0)) 0 12 (0)) 0 14 (0)) 0 15 (0)) 5 (fun j => if j < 477 then plA j else (wI (wI (wI (wI (wI (wI H 0 9 (b)) 0 6 (0)) 0 8 (0)) 0 12 (0)) 0 14 (0)) 0 15 (0)).1 5 j)) := ⟨_, rfl⟩
      rw [← hW]
      have okW : okZ W := by rw [hW]; exact okW0
      have w9 : W.1 0 9 = (m : Int) := by rw [hW, wA1c (by omega), wI1k (by omega), wI1k (by omega), wI1k (by omega), wI1k (by omega), wI1k (by omega), wI1]; exact hm
      have w8 : W.1 0 8 = ((0 : Nat) : Int) := by rw [hW, wA1c (by omega), wI1k (by omega), wI1k (by omega), wI1k (by omega), wI1]; rfl
      have w12 : W.1 0 12 = 0 := by rw [hW, wA1c (by omega), wI1k (by omega), wI1k (by omega), wI1]
      have w14 : W.1 0 14 = 0 := by rw [hW, wA1c (by omega), wI1k (by omega), wI1]
      have w15 : W.1 0 15 = 0 := by rw [hW, wA1c (by omega), wI1]
      have w6 : W.1 0 6 = 0 := by rw [hW, wA1c (by omega), wI1k (by omega), wI1k (by omega), wI1k (by omega), wI1k (by omega), wI1]
      have w5 : W.1 5 = (plF (H.1 5)) := by rw [hW, wA1]; rfl
      have w4 : W.1 4 = H.1 4 := by rw [hW, wA1c (by omega)]; (repeat rw [wIf (by omega)])
      have wf : ∀ cc k, cc ≠ 5 → ¬ (cc = 0 ∧ 6 ≤ k ∧ k ≤ 15) → W.1 cc k = H.1 cc k := fun cc k h1 h2 => by rw [hW, wA1c h1]; (repeat rw [wIg, if_neg (by omega)])
      have wJ : W.2 = H.2 := by rw [hW]; rfl
      refine x_aload_n (pc := 80) dX11_text_80 (List.Mem.head _) ?_
      refine z_callVv (pc := 81) (i := mX11_next) (S := []) [] dX11_text_81 ml_X11_142 ok_X11_next rfl sh_0 rfl rfl (Nat.le_of_ble_eq_true rfl) (c_X11_next (d := d + 30) (n := m) (b := 0) (hn := hm4) (hb := (Nat.zero_le m)) (ok := okW) (h8 := w8) (h9 := w9) (ht := (fun k => by rw [w4]; exact hT k))) ?_
      intro Hx ok20 hp21
      have hnx := nx_TkS (Nat.zero_le m) w9 w12 hp21
      rw [w4] at hnx
      have lp84 : ∀ (nF : Nat) (o : Ox) (f : Nat) (Hl : ZH), okZ Hl → (TkS Hl (H.1 4) m o.1.1 o.1.2) → (o.1.1 = 0 → Hl.1 0 15 = (o.2.1 : Int) ∧ Hl.1 5 = o.2.2) → (o.1.1 = 0 → LwI o.2.2 o.2.1 ∧ 2 * o.2.1 ≤ o.1.2) → (FrJ W Hl) → (o.1.1 = 0 → m - o.1.2 < f) → ((lwR (H.1 4) m 402 0 (0, (plF (H.1 5)))) = (if o.1.1 = 0 then lwR (H.1 4) m f o.1.2 o.2 else o)) → (if o.1.1 = 0 then f + 1 else 0) < nF → Ev zX mX11_text (EvC zX (d + 32)) (zPi (fun (r : Int) (H1 : ZH) => (¬ (0 ≤ b ∧ b ≤ H.1 0 6) ∧ r = -3 ∧ H1 = bumpM 1 H) ∨ ((0 ≤ b ∧ b ≤ H.1 0 6) ∧ TxR H H1 r (lwR (H.1 4) b.toNat 402 0 (0, (plF (H.1 5)))).1.1 ((lwR (H.1 4) b.toNat 402 0 (0, (plF (H.1 5)))).1.2 : Int) ((lwR (H.1 4) b.toNat 402 0 (0, (plF (H.1 5)))).2.2 40) (fun j => if 40 ≤ j ∧ j < 477 then (lwR (H.1 4) b.toNat 402 0 (0, (plF (H.1 5)))).2.2 j else H.1 2 j)))) 84 [(0, .ref 0), (1, .int (zN (1))), (2, .int (zN (b)))] [] (eh Hl) := by
        intro nF
        induction nF with
        | zero => intro o f Hl okl84 ho h5 hwf hfr hfu het hm; exact absurd hm (Nat.not_lt_zero _)
        | succ nF ih84 =>
          intro o f Hl okl84 ho h5 hwf hfr hfu het hm
          have wo := ho.2.2.2.1
          have ho1 := ho.1
          have h16 := hfr.1 0 6 (by omega) (by omega)
          refine x_aload_n (pc := 84) dX11_text_84 (List.Mem.head _) ?_
          have jn145 : ∀  (Hy : ZH), okZ Hy → ((lwR (H.1 4) m 402 0 (0, (plF (H.1 5)))) = o) → (Hy.1 0 16 = o.1.1) → (Hy.1 0 17 = (if o.1.1 = 0 then -1 else (o.1.2 : Int))) → (∀ cc k, ¬ (cc = 0 ∧ (k = 16 ∨ k = 17)) → Hy.1 cc k = Hl.1 cc k) → (Hy.2 = Hl.2) → Ev zX mX11_text (EvC zX (d + 32)) (zPi (fun (r : Int) (H1 : ZH) => (¬ (0 ≤ b ∧ b ≤ H.1 0 6) ∧ r = -3 ∧ H1 = bumpM 1 H) ∨ ((0 ≤ b ∧ b ≤ H.1 0 6) ∧ TxR H H1 r (lwR (H.1 4) b.toNat 402 0 (0, (plF (H.1 5)))).1.1 ((lwR (H.1 4) b.toNat 402 0 (0, (plF (H.1 5)))).1.2 : Int) ((lwR (H.1 4) b.toNat 402 0 (0, (plF (H.1 5)))).2.2 40) (fun j => if 40 ≤ j ∧ j < 477 then (lwR (H.1 4) b.toNat 402 0 (0, (plF (H.1 5)))).2.2 j else H.1 2 j)))) 145 [(0, .ref 0), (1, .int (zN (1))), (2, .int (zN (b)))] [] (eh Hy) := by
            intro Hy okj145 hend y16 y17 yf yJ
            have y12 : Hy.1 0 12 = o.1.1 := (yf 0 12 (by omega)).trans (TkS_12 ho)
            have yfr : ∀ cc k, cc ≠ 5 → ¬ (cc = 0 ∧ 6 ≤ k ∧ k ≤ 17) → Hy.1 cc k = H.1 cc k := fun cc k h1 h2 => by rw [yf cc k (by omega), hfr.1 cc k h1 (by omega)]; exact wf cc k h1 (by omega)
            have y6 : Hy.1 0 6 = 0 := (yf 0 6 (by omega)).trans (h16.trans w6)
            have yJ2 : Hy.2 = H.2 := yJ.trans (hfr.2.trans wJ)
            have yy5 : Hy.1 5 = Hl.1 5 := funext (fun k => yf 5 k (by omega))
            have ycm : cntOK Hy 1 := fun k hk => by rw [yfr 1 k (by omega) (by omega)]; exact cm k hk
            refine x_aload_n (pc := 145) dX11_text_145 (List.Mem.head _) ?_
            refine z_getI (pc := 146) (k := 12) (v := (o.1.1)) dX11_text_146 lf_X11_133 sh_0 rfl y12 ?_
            refine z_if_eq (pc := 149) (tgt := 164) dX11_text_149 (by decide) (by omega) (by omega) (fun hb22 => ?_) (fun hb22 => ?_)
            · skip
              have hw2 := hb22
              have q5 := h5 hw2
              refine x_iload_n (pc := 164) dX11_text_164 (List.Mem.tail _ (List.Mem.head _)) ?_
              refine z_if_ne (pc := 165) (tgt := 172) dX11_text_165 (by decide) (by decide) (by decide) (fun _ => ?_) (fun h => absurd h (by decide))
              refine z_bipush (pc := 172) dX11_text_172 bp_40 ?_
              refine x_istore_n (pc := 174) dX11_text_174 (Nat.le_of_ble_eq_true rfl) ?_
              show Ev _ _ _ _ _ [(3, .int (zN (40))), (0, .ref 0), (1, .int (zN (1))), (2, .int (zN (b)))] _ _
              refine x_iload_n (pc := 175) dX11_text_175 (List.Mem.tail _ (List.Mem.tail _ (List.Mem.head _))) ?_
              refine z_if_ne (pc := 176) (tgt := 184) dX11_text_176 (by decide) (by decide) (by decide) (fun _ => ?_) (fun h => absurd h (by decide))
              refine z_sipush (pc := 184) dX11_text_184 sp_477 ?_
              refine x_istore (pc := 187) dX11_text_187 (Nat.le_of_ble_eq_true rfl) ?_
              show Ev _ _ _ _ _ [(4, .int (zN (477))), (3, .int (zN (40))), (0, .ref 0), (1, .int (zN (1))), (2, .int (zN (b)))] _ _
              refine x_iload_n (pc := 189) dX11_text_189 (List.Mem.tail _ (List.Mem.head _)) ?_
              refine x_istore (pc := 190) dX11_text_190 (Nat.le_of_ble_eq_true rfl) ?_
              show Ev _ _ _ _ _ [(5, .int (zN (40))), (4, .int (zN (477))), (3, .int (zN (40))), (0, .ref 0), (1, .int (zN (1))), (2, .int (zN (b)))] _ _
              have lp192 : ∀ (nF : Nat) (k : Nat) (Hz : ZH), okZ Hz → (40 ≤ k ∧ k ≤ 477) → (∀ j, Hz.1 2 j = if 40 ≤ j ∧ j < k then o.2.2 j else H.1 2 j) → (∀ cc, cc ≠ 2 → Hz.1 cc = Hy.1 cc) → (Hz.2 = Hy.2) → 477 - k < nF → Ev zX mX11_text (EvC zX (d + 32)) (zPi (fun (r : Int) (H1 : ZH) => (¬ (0 ≤ b ∧ b ≤ H.1 0 6) ∧ r = -3 ∧ H1 = bumpM 1 H) ∨ ((0 ≤ b ∧ b ≤ H.1 0 6) ∧ TxR H H1 r (lwR (H.1 4) b.toNat 402 0 (0, (plF (H.1 5)))).1.1 ((lwR (H.1 4) b.toNat 402 0 (0, (plF (H.1 5)))).1.2 : Int) ((lwR (H.1 4) b.toNat 402 0 (0, (plF (H.1 5)))).2.2 40) (fun j => if 40 ≤ j ∧ j < 477 then (lwR (H.1 4) b.toNat 402 0 (0, (plF (H.1 5)))).2.2 j else H.1 2 j)))) 192 [(0, .ref 0), (1, .int (zN (1))), (3, .int (zN (40))), (4, .int (zN (477))), (5, .int (zN ((k : Int))))] [] (eh Hz) := by
                intro nF
                induction nF with
                | zero => intro k Hz okl192 hk9 z2 zf zJ hm; exact absurd hm (Nat.not_lt_zero _)
                | succ nF ih192 =>
                  intro k Hz okl192 hk9 z2 zf zJ hm
                  have zr := okl192.1 2 39
                  have zr2 := okl192.1 2 40
                  refine x_iload (pc := 192) dX11_text_192 (List.Mem.tail _ (List.Mem.tail _ (List.Mem.tail _ (List.Mem.tail _ (List.Mem.head _))))) ?_
                  refine x_iload (pc := 194) dX11_text_194 (List.Mem.tail _ (List.Mem.tail _ (List.Mem.tail _ (List.Mem.head _)))) ?_
                  refine z_icmp_ge (pc := 196) (tgt := 219) dX11_text_196 (by decide) (by omega) (by omega) (by decide) (by decide) (fun hb25 => ?_) (fun hb25 => ?_)
                  · skip
                    refine x_iload_n (pc := 219) dX11_text_219 (List.Mem.tail _ (List.Mem.head _)) ?_
                    refine z_if_ne (pc := 220) (tgt := 233) dX11_text_220 (by decide) (by decide) (by decide) (fun _ => ?_) (fun h => absurd h (by decide))
                    refine x_aload_n (pc := 233) dX11_text_233 (List.Mem.head _) ?_
                    refine z_getR (pc := 234) (k := 2) (r := 2) dX11_text_234 lf_X11_17 sh_0 rfl rf_0_2 ?_
                    refine z_bipush (pc := 237) dX11_text_237 bp_40 ?_
                    have rd27 := okl192.1 2 40
                    refine z_iald (pc := 239) (j := 40) (v := Hz.1 2 40) dX11_text_239 sh_2 rfl (Nat.le_of_ble_eq_true rfl) (by decide) rfl ?_
                    refine z_ireturn (pc := 240) dX11_text_240 rfl (Or.inl rfl) okl192 (by omega) (by omega) ?_
                    refine Or.inr ⟨hyes, ?_⟩
                    rw [show b.toNat = m by omega, hend]
                    have ek : k = 477 := by omega
                    refine ⟨⟨fun cc k h1 h2 h3 h4 => ?_, zJ.trans yJ2, ?_⟩, Or.inr ⟨hw2, ?_, ?_, ?_, ?_, ?_⟩⟩
                    · rw [zf cc h4]; exact yfr cc k h1 h2
                    · rw [zf 0 (by omega)]; exact y6
                    · rw [z2, if_pos (by omega)]
                    · rw [zf 0 (by omega), y16, hw2]
                    · rw [zf 0 (by omega), y17, if_pos hw2]
                    · rw [zf 1 (by omega)]; exact funext (fun k => yfr 1 k (by omega) (by omega))
                    · funext j; rw [z2, ek]
                  · skip
                    refine x_aload_n (pc := 199) dX11_text_199 (List.Mem.head _) ?_
                    refine z_getR (pc := 200) (k := 2) (r := 2) dX11_text_200 lf_X11_17 sh_0 rfl rf_0_2 ?_
                    refine x_iload (pc := 203) dX11_text_203 (List.Mem.tail _ (List.Mem.tail _ (List.Mem.tail _ (List.Mem.tail _ (List.Mem.head _))))) ?_
                    refine x_aload_n (pc := 205) dX11_text_205 (List.Mem.head _) ?_
                    refine z_getR (pc := 206) (k := 5) (r := 5) dX11_text_206 lf_X11_27 sh_0 rfl rf_0_5 ?_
                    refine x_iload (pc := 209) dX11_text_209 (List.Mem.tail _ (List.Mem.tail _ (List.Mem.tail _ (List.Mem.tail _ (List.Mem.head _))))) ?_
                    have zq : -2147483648 ≤ (o.2.2 k) ∧ (o.2.2 k) ≤ 2147483647 := by have y := okj145.1 5 k; rw [yy5, q5.2] at y; exact y
                    refine z_iald (pc := 211) (j := k) (v := (o.2.2 k)) dX11_text_211 sh_5 rfl (by omega) (by decide) (by rw [zf 5 (by omega), yy5, q5.2]) ?_
                    refine z_iast (pc := 212) (j := k) (v := ((o.2.2 k))) dX11_text_212 sh_2 rfl (by omega) (by decide) ?_
                    have ok28 := okI okl192 2 k (v := ((o.2.2 k))) (by omega) (by omega)
                    refine z_iinc (pc := 213) dX11_text_213 (List.Mem.tail _ (List.Mem.tail _ (List.Mem.tail _ (List.Mem.tail _ (List.Mem.head _))))) (Nat.le_of_ble_eq_true rfl) ?_
                    show Ev _ _ _ _ _ [(5, .int (zN ((k : Int) + 1))), (0, .ref 0), (1, .int (zN (1))), (3, .int (zN (40))), (4, .int (zN (477)))] _ _
                    refine x_goto (pc := 216) (tgt := 192) dX11_text_216 (by decide) ?_
                    refine x_weaken (L1 := [(0, .ref 0), (1, .int (zN (1))), (3, .int (zN (40))), (4, .int (zN (477))), (5, .int (zN ((((k + 1) : Nat) : Int))))]) (List.forall_mem_cons.mpr ⟨(List.Mem.tail _ (List.Mem.head _)), (List.forall_mem_cons.mpr ⟨(List.Mem.tail _ (List.Mem.tail _ (List.Mem.head _))), (List.forall_mem_cons.mpr ⟨(List.Mem.tail _ (List.Mem.tail _ (List.Mem.tail _ (List.Mem.head _)))), (List.forall_mem_cons.mpr ⟨(List.Mem.tail _ (List.Mem.tail _ (List.Mem.tail _ (List.Mem.tail _ (List.Mem.head _))))), (List.forall_mem_cons.mpr ⟨(mem_ci (by omega) (List.Mem.head _)), (fun _ h => absurd h List.not_mem_nil)⟩)⟩)⟩)⟩)⟩) ?_
                    exact ih192 ((k + 1)) (wI Hz 2 k (((o.2.2 k)))) ok28 (by omega) (fun j => by rw [wIp]; by_cases e : j = k; rw [if_pos e, if_pos (by omega), e]; rw [if_neg e, z2 j]; by_cases e2 : 40 ≤ j ∧ j < k; rw [if_pos e2, if_pos (by omega)]; rw [if_neg e2, if_neg (by omega)]) (fun cc h => by rw [wIf h]; exact zf cc h) (zJ) (by omega)
              refine x_weaken (L1 := [(0, .ref 0), (1, .int (zN (1))), (3, .int (zN (40))), (4, .int (zN (477))), (5, .int (zN (((40 : Nat) : Int))))]) (List.forall_mem_cons.mpr ⟨(List.Mem.tail _ (List.Mem.tail _ (List.Mem.tail _ (List.Mem.head _)))), (List.forall_mem_cons.mpr ⟨(List.Mem.tail _ (List.Mem.tail _ (List.Mem.tail _ (List.Mem.tail _ (List.Mem.head _))))), (List.forall_mem_cons.mpr ⟨(List.Mem.tail _ (List.Mem.tail _ (List.Mem.head _))), (List.forall_mem_cons.mpr ⟨(List.Mem.tail _ (List.Mem.head _)), (List.forall_mem_cons.mpr ⟨(mem_ci (by omega) (List.Mem.head _)), (fun _ h => absurd h List.not_mem_nil)⟩)⟩)⟩)⟩)⟩) ?_
              exact lp192 (477 - 40 + 1) (40) Hy okj145 (by omega) (fun j => by rw [if_neg (by omega)]; exact yfr 2 j (by omega) (by omega)) (fun _ _ => rfl) (rfl) (Nat.lt_succ_self _)
            · skip
              have hw2 := hb22
              have erx : refIx (-30 - o.1.1) = 5 := by unfold refIx; (repeat rw [if_neg (by omega)])
              refine x_aload_n (pc := 152) dX11_text_152 (List.Mem.head _) ?_
              refine z_bipush (pc := 153) dX11_text_153 bp_m30 ?_
              refine x_aload_n (pc := 155) dX11_text_155 (List.Mem.head _) ?_
              refine z_getI (pc := 156) (k := 12) (v := (o.1.1)) dX11_text_156 lf_X11_133 sh_0 rfl y12 ?_
              refine z_isub (pc := 159) dX11_text_159 ?_
              refine z_callVip (pc := 160) (i := mX11_no) (S := []) [.int (zN (((-30) - ((o.1.1)))))] dX11_text_160 ml_X11_89 ok_X11_no rfl sh_0 rfl (Or.inl rfl) (Nat.le_of_ble_eq_true rfl) (c_X11_no (d := d + 31) (code := (((-30) - ((o.1.1))))) (code1 := (by omega)) (code2 := (by omega)) (ok := okj145) (cn := (by first | assumption | omega))) (fun r29a r29b ok30 => ?_)
              show Ev _ _ _ _ _ _ _ (eh (wI Hy 1 ((refIx (((-30) - ((o.1.1)))))) (Hy.1 1 (refIx (((-30) - ((o.1.1))))) + 1)))
              refine z_ireturn (pc := 163) dX11_text_163 rfl (Or.inl rfl) ok30 (by omega) (by omega) ?_
              refine Or.inr ⟨hyes, ?_⟩
              rw [show b.toNat = m by omega, hend]
              refine ⟨⟨fun cc k h1 h2 h3 h4 => ?_, yJ2, ?_⟩, Or.inl ⟨hw2, rfl, ?_, ?_, ?_, ?_⟩⟩
              · rw [wI1c h3]; exact yfr cc k h1 h2
              · rw [wI1c (by omega)]; exact y6
              · rw [wI1c (by omega)]; exact y16
              · rw [wI1c (by omega), y17, if_neg hw2]
              · have e1 : Hy.1 1 = H.1 1 := funext (fun k => yfr 1 k (by omega) (by omega))
                rw [erx, wI_up, e1]; exact (wI_up H 1 5 _).symm
              · rw [wIf (by omega)]; exact funext (fun k => yfr 2 k (by omega) (by omega))
          have jn118 : ((lwR (H.1 4) m 402 0 (0, (plF (H.1 5)))) = o) → Ev zX mX11_text (EvC zX (d + 32)) (zPi (fun (r : Int) (H1 : ZH) => (¬ (0 ≤ b ∧ b ≤ H.1 0 6) ∧ r = -3 ∧ H1 = bumpM 1 H) ∨ ((0 ≤ b ∧ b ≤ H.1 0 6) ∧ TxR H H1 r (lwR (H.1 4) b.toNat 402 0 (0, (plF (H.1 5)))).1.1 ((lwR (H.1 4) b.toNat 402 0 (0, (plF (H.1 5)))).1.2 : Int) ((lwR (H.1 4) b.toNat 402 0 (0, (plF (H.1 5)))).2.2 40) (fun j => if 40 ≤ j ∧ j < 477 then (lwR (H.1 4) b.toNat 402 0 (0, (plF (H.1 5)))).2.2 j else H.1 2 j)))) 118 [(0, .ref 0), (1, .int (zN (1))), (2, .int (zN (b)))] [] (eh Hl) := by
            intro hend
            refine x_aload_n (pc := 118) dX11_text_118 (List.Mem.head _) ?_
            refine x_aload_n (pc := 119) dX11_text_119 (List.Mem.head _) ?_
            refine z_getI (pc := 120) (k := 12) (v := (o.1.1)) dX11_text_120 lf_X11_133 sh_0 rfl (TkS_12 ho) ?_
            refine z_putI (pc := 123) (k := 16) dX11_text_123 lp_X11_207 sh_0 rfl ?_
            have ok31 := okI okl84 0 16 (v := ((o.1.1))) (by omega) (by omega)
            refine x_aload_n (pc := 126) dX11_text_126 (List.Mem.head _) ?_
            refine x_aload_n (pc := 127) dX11_text_127 (List.Mem.head _) ?_
            refine z_getI (pc := 128) (k := 12) (v := (o.1.1)) dX11_text_128 lf_X11_133 sh_0 rfl (by rw [wI1k (by omega)]; exact TkS_12 ho) ?_
            refine z_if_ne (pc := 131) (tgt := 138) dX11_text_131 (by decide) (by omega) (by omega) (fun hb32 => ?_) (fun hb32 => ?_)
            · skip
              have hw1 := hb32
              refine x_aload_n (pc := 138) dX11_text_138 (List.Mem.head _) ?_
              refine z_getI (pc := 139) (k := 13) (v := (o.1.2 : Int)) dX11_text_139 lf_X11_136 sh_0 rfl (by rw [wI1k (by omega)]; exact ho.2.2.2.2.2.2 hw1) ?_
              refine z_putI (pc := 142) (k := 17) dX11_text_142 lp_X11_30 sh_0 rfl ?_
              have ok33 := okI ok31 0 17 (v := ((o.1.2 : Int))) (by omega) (by omega)
              refine x_weaken (L1 := [(0, .ref 0), (1, .int (zN (1))), (2, .int (zN (b)))]) (List.forall_mem_cons.mpr ⟨(List.Mem.head _), (List.forall_mem_cons.mpr ⟨(List.Mem.tail _ (List.Mem.head _)), (List.forall_mem_cons.mpr ⟨(List.Mem.tail _ (List.Mem.tail _ (List.Mem.head _))), (fun _ h => absurd h List.not_mem_nil)⟩)⟩)⟩) ?_
              exact jn145  (wI (wI Hl 0 16 (((o.1.1)))) 0 17 (((o.1.2 : Int)))) ok33 (hend) ((by rw [wI1k (by omega), wI1])) ((by first | (rw [wI1, if_pos hw1]; done) | (rw [wI1, if_neg hw1]; done))) ((fun cc k h => by rw [wIg, if_neg (by omega), wIg, if_neg (by omega)])) (rfl)
            · skip
              have hw1 := hb32
              refine z_iconst (pc := 134) dX11_text_134 ?_
              refine x_goto (pc := 135) (tgt := 142) dX11_text_135 (by decide) ?_
              refine z_putI (pc := 142) (k := 17) dX11_text_142 lp_X11_30 sh_0 rfl ?_
              have ok34 := okI ok31 0 17 (v := (-1)) (by decide) (by decide)
              refine x_weaken (L1 := [(0, .ref 0), (1, .int (zN (1))), (2, .int (zN (b)))]) (List.forall_mem_cons.mpr ⟨(List.Mem.head _), (List.forall_mem_cons.mpr ⟨(List.Mem.tail _ (List.Mem.head _)), (List.forall_mem_cons.mpr ⟨(List.Mem.tail _ (List.Mem.tail _ (List.Mem.head _))), (fun _ h => absurd h List.not_mem_nil)⟩)⟩)⟩) ?_
              exact jn145  (wI (wI Hl 0 16 (((o.1.1)))) 0 17 ((-1))) ok34 (hend) ((by rw [wI1k (by omega), wI1])) ((by first | (rw [wI1, if_pos hw1]; done) | (rw [wI1, if_neg hw1]; done))) ((fun cc k h => by rw [wIg, if_neg (by omega), wIg, if_neg (by omega)])) (rfl)
          refine z_getI (pc := 85) (k := 12) (v := (o.1.1)) dX11_text_85 lf_X11_133 sh_0 rfl (TkS_12 ho) ?_
          refine z_if_ne (pc := 88) (tgt := 118) dX11_text_88 (by decide) (by omega) (by omega) (fun hb35 => ?_) (fun hb35 => ?_)
          · skip
            have hend : (lwR (H.1 4) m 402 0 (0, (plF (H.1 5)))) = o := by rw [het, if_neg hb35]
            refine x_weaken (L1 := [(0, .ref 0), (1, .int (zN (1))), (2, .int (zN (b)))]) (List.forall_mem_cons.mpr ⟨(List.Mem.head _), (List.forall_mem_cons.mpr ⟨(List.Mem.tail _ (List.Mem.head _)), (List.forall_mem_cons.mpr ⟨(List.Mem.tail _ (List.Mem.tail _ (List.Mem.head _))), (fun _ h => absurd h List.not_mem_nil)⟩)⟩)⟩) ?_
            exact jn118  (hend)
          · skip
            have hw0 : o.1.1 = 0 := hb35
            have ho0 : TkS Hl (H.1 4) m 0 o.1.2 := by rw [hw0] at ho; exact ho
            have tbo := tk_bd (H.1 4) ho.1
            have hwf0 := hwf hw0
            have hmX := hm
            refine x_aload_n (pc := 91) dX11_text_91 (List.Mem.head _) ?_
            refine z_getI (pc := 92) (k := 10) (v := (tkK (H.1 4) m o.1.2)) dX11_text_92 lf_X11_117 sh_0 rfl (TkS_10 ho0) ?_
            refine z_bipush (pc := 95) dX11_text_95 bp_34 ?_
            refine z_icmp_eq (pc := 97) (tgt := 118) dX11_text_97 (by decide) (by omega) (by omega) (by decide) (by decide) (fun hb36 => ?_) (fun hb36 => ?_)
            · skip
              obtain ⟨f1, hf1⟩ : ∃ f1, f = f1 + 1 := ⟨f - 1, by have := hfu hw0; omega⟩
              have hend : (lwR (H.1 4) m 402 0 (0, (plF (H.1 5)))) = o := by
                rw [het, if_pos hw0, hf1, lwR_e (by omega)]
                rw [← hw0]
              refine x_weaken (L1 := [(0, .ref 0), (1, .int (zN (1))), (2, .int (zN (b)))]) (List.forall_mem_cons.mpr ⟨(List.Mem.head _), (List.forall_mem_cons.mpr ⟨(List.Mem.tail _ (List.Mem.head _)), (List.forall_mem_cons.mpr ⟨(List.Mem.tail _ (List.Mem.tail _ (List.Mem.head _))), (fun _ h => absurd h List.not_mem_nil)⟩)⟩)⟩) ?_
              exact jn118  (hend)
            · skip
              obtain ⟨f2, hf2⟩ : ∃ f2, f = f2 + 1 := ⟨f - 1, by have := hfu hw0; omega⟩
              have hkne : tkK (H.1 4) m o.1.2 ≠ 34 := by omega
              refine x_iload_n (pc := 100) dX11_text_100 (List.Mem.tail _ (List.Mem.head _)) ?_
              refine z_if_ne (pc := 101) (tgt := 111) dX11_text_101 (by decide) (by decide) (by decide) (fun _ => ?_) (fun h => absurd h (by decide))
              refine x_aload_n (pc := 111) dX11_text_111 (List.Mem.head _) ?_
              refine z_callVv (pc := 112) (i := mX11_readLaw) (S := []) [] dX11_text_112 ml_X11_204 ok_X11_readLaw rfl sh_0 rfl rfl (Nat.le_of_ble_eq_true rfl) (c_X11_readLaw (d := d) (hn := hm4) (hcp := hwf0.2) (ok := okl84) (hT := hT) (hS := ho0) (hd := ((hfr.1 0 14 (by omega) (by omega)).trans w14)) (h15 := (h5 hw0).1) (hi := (by rw [(h5 hw0).2]; exact hwf0.1))) ?_
              intro Hk ok39 hp40
              rw [(h5 hw0).2] at hp40
              have hk1 : TkS Hk (H.1 4) m (lwL (H.1 4) m o.1.2 o.2).1.1 (lwL (H.1 4) m o.1.2 o.2).1.2 := hp40.1
              have hk2 : (lwL (H.1 4) m o.1.2 o.2).1.1 = 0 → Hk.1 0 15 = ((lwL (H.1 4) m o.1.2 o.2).2.1 : Int) ∧ Hk.1 5 = (lwL (H.1 4) m o.1.2 o.2).2.2 := hp40.2.1
              have hk4 := FrJ_tr hfr hp40.2.2
              have hk3 : (lwL (H.1 4) m o.1.2 o.2).1.1 = 0 → LwI (lwL (H.1 4) m o.1.2 o.2).2.2 (lwL (H.1 4) m o.1.2 o.2).2.1 ∧ 2 * (lwL (H.1 4) m o.1.2 o.2).2.1 ≤ (lwL (H.1 4) m o.1.2 o.2).1.2 := fun z => by have y := lwL_ok hwf0.1 hm4 ho.1 hwf0.2 z; exact ⟨y.2.2.2.1, y.2.2.2.2.2.2.2⟩
              have hk5 : (lwL (H.1 4) m o.1.2 o.2).1.1 = 0 → m - (lwL (H.1 4) m o.1.2 o.2).1.2 < f2 := fun z => by have y := lwL_ok hwf0.1 hm4 ho.1 hwf0.2 z; have := hfu hw0; omega
              have hk6 : (lwR (H.1 4) m 402 0 (0, (plF (H.1 5)))) = (if (lwL (H.1 4) m o.1.2 o.2).1.1 = 0 then lwR (H.1 4) m f2 (lwL (H.1 4) m o.1.2 o.2).1.2 (lwL (H.1 4) m o.1.2 o.2).2 else (lwL (H.1 4) m o.1.2 o.2)) := by
                rw [het, if_pos hw0, hf2]
                by_cases z : (lwL (H.1 4) m o.1.2 o.2).1.1 = 0
                · rw [if_pos z, lwR_g hkne z]
                · rw [if_neg z, lwR_b hkne z]
              refine x_goto (pc := 115) (tgt := 84) dX11_text_115 (by decide) ?_
              refine x_weaken (L1 := [(0, .ref 0), (1, .int (zN (1))), (2, .int (zN (b)))]) (List.forall_mem_cons.mpr ⟨(List.Mem.head _), (List.forall_mem_cons.mpr ⟨(List.Mem.tail _ (List.Mem.head _)), (List.forall_mem_cons.mpr ⟨(List.Mem.tail _ (List.Mem.tail _ (List.Mem.head _))), (fun _ h => absurd h List.not_mem_nil)⟩)⟩)⟩) ?_
              exact ih84 ((lwL (H.1 4) m o.1.2 o.2)) (f2) Hk ok39 (hk1) (hk2) (hk3) (hk4) (hk5) (hk6) (by rw [if_pos hw0] at hmX; split <;> omega)
      refine x_weaken (L1 := [(0, .ref 0), (1, .int (zN (1))), (2, .int (zN (b)))]) (List.forall_mem_cons.mpr ⟨(List.Mem.head _), (List.forall_mem_cons.mpr ⟨(List.Mem.tail _ (List.Mem.head _)), (List.forall_mem_cons.mpr ⟨(List.Mem.tail _ (List.Mem.tail _ (List.Mem.head _))), (fun _ h => absurd h List.not_mem_nil)⟩)⟩)⟩) ?_
      exact lp84 ((if ((0, 0), (0, (plF (H.1 5)))).1.1 = 0 then 402 + 1 else 0) + 1) (((0, 0), (0, (plF (H.1 5))))) (402) Hx ok20 (hnx.1) (fun _ => ⟨(hnx.2.1 0 15 (by omega)).trans w15, (FrT_5 hnx.2).trans w5⟩) (fun _ => ⟨plF_LwI _, Nat.le_refl _⟩) (FrJ_T hnx.2) (fun _ => by show m - 0 < 402; omega) ((if_pos rfl).symm) (Nat.lt_succ_self _)
    · skip
      have hno : ¬ (0 ≤ b ∧ b ≤ H.1 0 6) := hc9
      refine z_if_ne (pc := 33) (tgt := 43) dX11_text_33 (by decide) (by decide) (by decide) (fun h => absurd h (by decide)) (fun _ => ?_)
      refine x_aload_n (pc := 36) dX11_text_36 (List.Mem.head _) ?_
      refine z_bipush (pc := 37) dX11_text_37 bp_m3 ?_
      refine z_callVip (pc := 39) (i := mX11_no) (S := []) [.int (zN ((-3)))] dX11_text_39 ml_X11_89 ok_X11_no rfl sh_0 rfl (Or.inl rfl) (Nat.le_of_ble_eq_true rfl) (c_X11_no (d := d + 31) (code := ((-3))) (code1 := (by omega)) (code2 := (by omega)) (ok := ok8) (cn := (by first | assumption | omega))) (fun r42a r42b ok43 => ?_)
      show Ev _ _ _ _ _ _ _ (eh (wI H 1 ((refIx ((-3)))) (H.1 1 (refIx ((-3))) + 1)))
      refine z_ireturn (pc := 42) dX11_text_42 rfl (Or.inl rfl) ok43 (by omega) (by omega) ?_
      exact Or.inl ⟨hno, rfl, rfl⟩
  · skip
    exact absurd (by omega) hc4

set_option maxHeartbeats 8000000 in
theorem c_X11_text_x {d : Nat} {H : ZH} (ok : okZ H) {a b : Int} (a1 : -2147483648 ≤ a) (a2 : a ≤ 2147483647) (b1 : -2147483648 ≤ b) (b2 : b ≤ 2147483647) (ha : ¬ (0 ≤ a ∧ a ≤ 1)) (cm : cntOK H 1) (th : H.1 0 0 = 0) : EvC zX (d + 33) mX11_text [.ref 0, .int (zN (a)), .int (zN (b))] (eh H) (zPi (fun (r : Int) (H1 : ZH) => r = -2 ∧ H1 = bumpM 0 H)) := by
  show _ ∧ Ev zX mX11_text (EvC zX (d + 32)) (zPi (fun (r : Int) (H1 : ZH) => r = -2 ∧ H1 = bumpM 0 H)) 0 [(0, .ref 0), (1, .int (zN (a))), (2, .int (zN (b)))] [] (eh H)
  refine ⟨Nat.le_of_ble_eq_true rfl, ?_⟩
  refine x_aload_n (pc := 0) dX11_text_0 (List.Mem.head _) ?_
  refine z_iconst (pc := 1) dX11_text_1 ?_
  refine z_putI (pc := 2) (k := 0) dX11_text_2 lp_X11_1 sh_0 rfl ?_
  have ok1 := okI ok 0 0 (v := 0) (by decide) (by decide)
  rw [wI_same th]
  refine x_iload_n (pc := 5) dX11_text_5 (List.Mem.tail _ (List.Mem.head _)) ?_
  refine z_i2l (pc := 6) dX11_text_6 (by omega) (by omega) ?_
  refine z_lconst (pc := 7) 0 dX11_text_7 rfl ?_
  refine z_lconst (pc := 8) 1 dX11_text_8 rfl ?_
  refine z_callSbp (pc := 9) (i := mX11_within) (S := []) [.long (zL (a)), .long (zL (0)), .long (zL (1))] dX11_text_9 ml_X11_152 ok_X11_within rfl (Or.inr rfl) (Nat.le_of_ble_eq_true rfl) (c_X11_within (d := d + 31) (v := a) (lo := 0) (hi := 1) (v1 := (by omega)) (v2 := (by omega)) (lo1 := (by omega)) (lo2 := (by omega)) (hi1 := (by omega)) (hi2 := (by omega)) (ok := ok)) (fun hc4 ok3 => ?_) (fun hc4 ok3 => ?_)
  · skip
    exact absurd hc4 ha
  · skip
    refine z_if_ne (pc := 12) (tgt := 22) dX11_text_12 (by decide) (by decide) (by decide) (fun h => absurd h (by decide)) (fun _ => ?_)
    refine x_aload_n (pc := 15) dX11_text_15 (List.Mem.head _) ?_
    refine z_bipush (pc := 16) dX11_text_16 bp_m2 ?_
    refine z_callVip (pc := 18) (i := mX11_no) (S := []) [.int (zN ((-2)))] dX11_text_18 ml_X11_89 ok_X11_no rfl sh_0 rfl (Or.inl rfl) (Nat.le_of_ble_eq_true rfl) (c_X11_no (d := d + 31) (code := ((-2))) (code1 := (by omega)) (code2 := (by omega)) (ok := ok3) (cn := (by first | assumption | omega))) (fun r6a r6b ok7 => ?_)
    show Ev _ _ _ _ _ _ _ (eh (wI H 1 ((refIx ((-2)))) (H.1 1 (refIx ((-2))) + 1)))
    refine z_ireturn (pc := 21) dX11_text_21 rfl (Or.inl rfl) ok7 (by omega) (by omega) ?_
    exact ⟨rfl, rfl⟩
