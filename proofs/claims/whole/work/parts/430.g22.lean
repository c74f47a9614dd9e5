/-! GROUP G22: the reference's tree. -/
def AccB (H : ZH) (w : Int) : Prop := (∀ k, k < 5 → 0 ≤ H.2 11 k ∧ H.2 11 k + 162 * w ≤ 2000000000000000000) ∧ (∀ c, c < 8 → 0 ≤ H.2 12 c ∧ H.2 12 c + 162 * w ≤ 2000000000000000000) ∧ (∀ c, c < 8 → 0 ≤ H.2 13 c ∧ H.2 13 c + 162 * w ≤ 2000000000000000000)
/-- what the branches below leave as it is -/
def BrF (H H1 : ZH) (lv : Nat) : Prop := (∀ cc k, ¬ (cc = 6 ∨ cc = 7 ∨ cc = 8 ∨ cc = 9 ∨ cc = 10 ∨ (cc = 0 ∧ (k = 26 ∨ k = 23))) → H1.1 cc k = H.1 cc k) ∧ (∀ k, k < 42 * lv → H1.1 7 k = H.1 7 k) ∧ (∀ j, 42 ≤ j → H1.1 6 j = H.1 6 j) ∧ ∀ cc k, ¬ (cc = 11 ∨ cc = 12 ∨ cc = 13) → H1.2 cc k = H.2 cc k
/-- what they add -/
def BrS (H H1 : ZH) (A N : Nat → Int) (wo : Int) (f : Nat) (w : Int) : Prop := (∀ k, k < 5 → H1.2 11 k = H.2 11 k + tsf A wo (gK k) f N w) ∧ (∀ c, c < 8 → H1.2 12 c = H.2 12 c + tsf A wo (gB c) f N w) ∧ (∀ c : Nat, (c : Int) < A 1 → H1.2 13 c = H.2 13 c + tsf A wo (gS c) f N w) ∧ ∀ c : Nat, A 1 ≤ (c : Int) → H1.2 13 c = H.2 13 c
def BrP (H H1 : ZH) (lv f : Nat) (w : Int) : Prop := BrF H H1 lv ∧ BrS H H1 (H.1 2) (H.1 6) (H.1 0 21) f w
theorem BrF_2 {H H1 : ZH} {lv : Nat} (h : BrF H H1 lv) : H1.1 2 = H.1 2 ∧ H1.1 0 21 = H.1 0 21 := ⟨funext (fun k => h.1 2 k (by omega)), h.1 0 21 (by omega)⟩
theorem und_le (A N : Nat → Int) : und A N ≤ (A 1).toNat := cnF_le _ _
theorem AccB_l {H Hx : ZH} {w v : Int} (h : AccB H w) (e : Hx.2 = H.2) (hv : v ≤ w) : AccB Hx v := by
  unfold AccB at h ⊢
  rw [e]
  exact ⟨fun k hk => by have := h.1 k hk; omega, fun k hk => by have := h.2.1 k hk; omega, fun k hk => by have := h.2.2 k hk; omega⟩
theorem AccB_r {H Hx H4 Hy : ZH} {A N : Nat → Int} {wo w u v : Int} {f : Nat} (h : AccB H w) (e : Hx.2 = H.2) (e2 : Hy.2 = H4.2) (ws1 : 0 ≤ A 1 ∧ A 1 ≤ 8) (ws0 : 1 ≤ A 0 ∧ A 0 ≤ 4) (b : BrS Hx H4 A N wo f u) (wt : WFT A N) (hu : 0 ≤ u) (hv : 0 ≤ v) (huv : u + v ≤ w) : AccB Hy v := by
  unfold AccB at h ⊢
  rw [e2]
  refine ⟨fun k hk => ?_, fun k hk => ?_, fun k hk => ?_⟩
  · have := tsf_bd (wo := wo) ws1 ws0 (gK_ok A k) f N u wt hu
    have := h.1 k hk
    rw [b.1 k hk, e]
    omega
  · have := tsf_bd (wo := wo) ws1 ws0 (gB_ok A k) f N u wt hu
    have := h.2.1 k hk
    rw [b.2.1 k hk, e]
    omega
  · have := tsf_bd (wo := wo) ws1 ws0 (gS_ok A k) f N u wt hu
    have := h.2.2 k hk
    rcases (show (k : Int) < A 1 ∨ A 1 ≤ (k : Int) by omega) with q | q
    · rw [b.2.2.1 k q, e]
      omega
    · rw [b.2.2.2 k q, e]
      omega
theorem BrS_2 {H Hx H4 Hy H5 : ZH} {A N L R : Nat → Int} {wo u v w : Int} {f f' : Nat} (e : Hx.2 = H.2) (e2 : Hy.2 = H4.2) (b1 : BrS Hx H4 A L wo f' u) (b2 : BrS Hy H5 A R wo f' v) (hs : ∀ g, tsf A wo g f N w = tsf A wo g f' L u + tsf A wo g f' R v) : BrS H H5 A N wo f w := by
  refine ⟨fun k hk => ?_, fun c hc => ?_, fun c hc => ?_, fun c hc => ?_⟩
  · rw [b2.1 k hk, e2, b1.1 k hk, e, hs, Int.add_assoc]
  · rw [b2.2.1 c hc, e2, b1.2.1 c hc, e, hs, Int.add_assoc]
  · rw [b2.2.2.1 c hc, e2, b1.2.2.1 c hc, e, hs, Int.add_assoc]
  · rw [b2.2.2.2 c hc, e2, b1.2.2.2 c hc, e]
theorem WFT_rn {A N : Nat → Int} {t : Nat} (h : RnOK A N t) (h0 : 0 ≤ A 1) : WFT A N := ⟨h.1, h.2.1, by rw [h.2.2.1]; decide, by rw [h.2.2.1]; exact h0⟩
theorem w68_7 (H : ZH) (M f : Nat → Int) : ((wA (wA H 6 M) 8 f).1 6 = M) ∧ (∀ cc, cc ≠ 6 → cc ≠ 8 → (wA (wA H 6 M) 8 f).1 cc = H.1 cc) ∧ (wA (wA H 6 M) 8 f).2 = H.2 := ⟨by rw [wA1c (by omega), wA1], fun cc a b => by rw [wA1c b, wA1c a], rfl⟩
theorem Rch_tr {A N M P : Nat → Int} {wo : Int} (h1 : Rch A wo N M) (h2 : Rch A wo M P) : Rch A wo N P := by
  obtain ⟨a1, a2, a3, a4, a5⟩ := h1
  obtain ⟨b1, b2, b3, b4, b5⟩ := h2
  refine ⟨b1, by omega, by omega, fun j hj => (b4 j hj).trans (a4 j hj), fun f hf => ?_⟩
  obtain ⟨f', hf', e⟩ := a5 f hf
  obtain ⟨f2, hf2, e2⟩ := b5 f' hf'
  exact ⟨f2, hf2, fun g w => (e g w).trans (e2 g w)⟩
theorem FrR_23 {H Hm : ZH} {v : Int} (h : FrR H Hm) : FrR H (wI Hm 0 23 v) := ⟨h.1, fun cc k q => by rw [wIg, if_neg (by omega)]; exact h.2 cc k q⟩
theorem wJp {H : ZH} {c k : Nat} {v : Int} (j : Nat) : (wJ H c k v).2 c j = if j = k then v else H.2 c j := by
  by_cases q : j = k
  · rw [if_pos q, q, wJ1]
  · rw [if_neg q, wJ1k q]

theorem c_X11_decides_0 {d : Nat} {H : ZH} (ok : okZ H)  (ws : WFS (H.1 2)) (wl : WFL (H.1 2)) (wt : WFT (H.1 2) (H.1 6)) (he : H.1 6 37 = 0) : EvC zX (d + 5) mX11_decides [.ref 0, .int (zN (0))] (eh H) (zPi (fun (r : Int) (H1 : ZH) => ∃ M f, Rch (H.1 2) (H.1 0 21) (H.1 6) M ∧ M 37 = 0 ∧ ((r = -1 ∧ M 41 = H.1 2 1 ∧ H1 = wA (wA H 6 M) 8 f) ∨ (r = M 41 ∧ M 41 < H.1 2 1 ∧ rnd (H.1 2) (H.1 0 21) M = true ∧ H1 = wI (wA (wA H 6 M) 8 f) 0 23 (shr (H.1 2) M (H.1 0 21) (M 41).toNat))))) := by
  show _ ∧ Ev zX mX11_decides (EvC zX (d + 4)) (zPi (fun (r : Int) (H1 : ZH) => ∃ M f, Rch (H.1 2) (H.1 0 21) (H.1 6) M ∧ M 37 = 0 ∧ ((r = -1 ∧ M 41 = H.1 2 1 ∧ H1 = wA (wA H 6 M) 8 f) ∨ (r = M 41 ∧ M 41 < H.1 2 1 ∧ rnd (H.1 2) (H.1 0 21) M = true ∧ H1 = wI (wA (wA H 6 M) 8 f) 0 23 (shr (H.1 2) M (H.1 0 21) (M 41).toNat))))) 0 [(0, .ref 0), (1, .int (zN (0)))] [] (eh H)
  refine ⟨Nat.le_of_ble_eq_true rfl, ?_⟩
  have wsx := ws
  obtain ⟨ws0, ws1, wsC, ws34, ws35, ws36, ws37, ws38, ws39⟩ := wsx
  have lp0 : ∀ (nF : Nat) (M : Nat → Int) (f : Nat → Int), okZ (wA (wA H 6 (M)) 8 (f)) → (Rch (H.1 2) (H.1 0 21) (H.1 6) M) → (M 37 = 0) → rkN (H.1 2) M < nF → Ev zX mX11_decides (EvC zX (d + 4)) (zPi (fun (r : Int) (H1 : ZH) => ∃ M f, Rch (H.1 2) (H.1 0 21) (H.1 6) M ∧ M 37 = 0 ∧ ((r = -1 ∧ M 41 = H.1 2 1 ∧ H1 = wA (wA H 6 M) 8 f) ∨ (r = M 41 ∧ M 41 < H.1 2 1 ∧ rnd (H.1 2) (H.1 0 21) M = true ∧ H1 = wI (wA (wA H 6 M) 8 f) 0 23 (shr (H.1 2) M (H.1 0 21) (M 41).toNat))))) 0 [(0, .ref 0), (1, .int (zN (0)))] [] (eh (wA (wA H 6 (M)) 8 (f))) := by
    intro nF
    induction nF with
    | zero => intro M f okl0 hR h37 hm; exact absurd hm (Nat.not_lt_zero _)
    | succ nF ih0 =>
      intro M f okl0 hR h37 hm
      obtain ⟨wm, wxm, w410, w411⟩ := hR.1
      have hM41 : M 41 = (((M 41).toNat : Nat) : Int) := by omega
      refine x_aload_n (pc := 0) dX11_decides_0 (List.Mem.head _) ?_
      refine z_getR (pc := 1) (k := 18) (r := 6) dX11_decides_1 lf_X11_33 sh_0 rfl rf_0_18 ?_
      refine z_bipush (pc := 4) dX11_decides_4 bp_41 ?_
      refine z_iald (pc := 6) (j := 41) (v := (M 41)) dX11_decides_6 sh_6 rfl (Nat.le_of_ble_eq_true rfl) (by decide) rfl ?_
      refine x_aload_n (pc := 7) dX11_decides_7 (List.Mem.head _) ?_
      refine z_getR (pc := 8) (k := 2) (r := 2) dX11_decides_8 lf_X11_17 sh_0 rfl rf_0_2 ?_
      refine z_iconst (pc := 11) dX11_decides_11 ?_
      have rd1 := ok.1 2 1
      refine z_iald (pc := 12) (j := 1) (v := H.1 2 1) dX11_decides_12 sh_2 rfl (Nat.le_of_ble_eq_true rfl) (by decide) (by rw [wA1c (by omega), wA1c (by omega)]) ?_
      refine z_icmp_ge (pc := 13) (tgt := 186) dX11_decides_13 (by decide) (by omega) (by omega) (by omega) (by omega) (fun hb2 => ?_) (fun hb2 => ?_)
      · skip
        refine z_iconst (pc := 186) dX11_decides_186 ?_
        refine z_ireturn (pc := 187) dX11_decides_187 rfl (Or.inl rfl) okl0 (by decide) (by decide) ?_
        exact ⟨M, f, hR, h37, Or.inl ⟨rfl, by omega, rfl⟩⟩
      · skip
        have jn172 : ∀ (g : Nat → Int), okZ (wA (wA H 6 (drd (H.1 2) (H.1 0 21) M)) 8 (g)) → (rnd (H.1 2) (H.1 0 21) M = false) → Ev zX mX11_decides (EvC zX (d + 4)) (zPi (fun (r : Int) (H1 : ZH) => ∃ M f, Rch (H.1 2) (H.1 0 21) (H.1 6) M ∧ M 37 = 0 ∧ ((r = -1 ∧ M 41 = H.1 2 1 ∧ H1 = wA (wA H 6 M) 8 f) ∨ (r = M 41 ∧ M 41 < H.1 2 1 ∧ rnd (H.1 2) (H.1 0 21) M = true ∧ H1 = wI (wA (wA H 6 M) 8 f) 0 23 (shr (H.1 2) M (H.1 0 21) (M 41).toNat))))) 172 [(0, .ref 0), (1, .int (zN (0)))] [] (eh (wA (wA H 6 (drd (H.1 2) (H.1 0 21) M)) 8 (g))) := by
          intro g okj172 hnr
          have e41 := drd_41 (A := H.1 2) (wo := H.1 0 21) hM41 (by omega)
          have rd1 := Rch_d ws1.2 hR h37 (by omega) hnr
          refine x_aload_n (pc := 172) dX11_decides_172 (List.Mem.head _) ?_
          refine z_getR (pc := 173) (k := 18) (r := 6) dX11_decides_173 lf_X11_33 sh_0 rfl rf_0_18 ?_
          refine z_bipush (pc := 176) dX11_decides_176 bp_41 ?_
          refine x_dup2 (pc := 178) dX11_decides_178 rfl rfl ?_
          refine z_iald (pc := 179) (j := 41) (v := (M 41)) dX11_decides_179 sh_6 rfl (Nat.le_of_ble_eq_true rfl) (by decide) e41 ?_
          refine z_iconst (pc := 180) dX11_decides_180 ?_
          refine z_iadd (pc := 181) dX11_decides_181 ?_
          refine z_iast (pc := 182) (j := 41) (v := (((M 41)) + 1)) dX11_decides_182 sh_6 rfl (Nat.le_of_ble_eq_true rfl) (by decide) ?_
          have ok3 := okI okj172 6 41 (v := (((M 41)) + 1)) (by omega) (by omega)
          refine x_goto (pc := 183) (tgt := 0) dX11_decides_183 (by decide) ?_
          refine x_weaken (L1 := [(0, .ref 0), (1, .int (zN (0)))]) (List.forall_mem_cons.mpr ⟨(List.Mem.head _), (List.forall_mem_cons.mpr ⟨(List.Mem.tail _ (List.Mem.head _)), (fun _ h => absurd h List.not_mem_nil)⟩)⟩) ?_
          have he4 : (wI (wA (wA H 6 (drd (H.1 2) (H.1 0 21) M)) 8 (g)) 6 41 ((((M 41)) + 1))) = (wA (wA H 6 ((drw1 (H.1 2) (H.1 0 21) M))) 8 (g)) := by rw [w68]; rfl
          refine Ev_heq he4 ?_
          have ok5 : okZ (wA (wA H 6 ((drw1 (H.1 2) (H.1 0 21) M))) 8 (g)) := by rw [← he4]; exact ok3
          exact ih0 ((drw1 (H.1 2) (H.1 0 21) M)) (g) ok5 (rd1.1) (rd1.2.1) (by have := rd1.2.2; omega)
        have wck := wsC (M 41).toNat (by omega)
        have vck := wm.1 (M 41).toNat (by omega)
        have sbd := shr_bd (N := M) (wo := (H.1 0 21)) (c := (M 41).toNat) wl
        refine x_aload_n (pc := 16) dX11_decides_16 (List.Mem.head _) ?_
        refine z_getR (pc := 17) (k := 18) (r := 6) dX11_decides_17 lf_X11_33 sh_0 rfl rf_0_18 ?_
        refine z_bipush (pc := 20) dX11_decides_20 bp_41 ?_
        refine z_iald (pc := 22) (j := 41) (v := (M 41)) dX11_decides_22 sh_6 rfl (Nat.le_of_ble_eq_true rfl) (by decide) rfl ?_
        refine x_istore_n (pc := 23) dX11_decides_23 (Nat.le_of_ble_eq_true rfl) ?_
        show Ev _ _ _ _ _ [(2, .int (zN (((M 41))))), (0, .ref 0), (1, .int (zN (0)))] _ _
        refine x_aload_n (pc := 24) dX11_decides_24 (List.Mem.tail _ (List.Mem.head _)) ?_
        refine z_getR (pc := 25) (k := 18) (r := 6) dX11_decides_25 lf_X11_33 sh_0 rfl rf_0_18 ?_
        refine z_bipush (pc := 28) dX11_decides_28 bp_16 ?_
        refine x_iload_n (pc := 30) dX11_decides_30 (List.Mem.head _) ?_
        refine z_iadd (pc := 31) dX11_decides_31 ?_
        refine z_iald (pc := 32) (j := 16 + (M 41).toNat) (v := (M) (16 + (M 41).toNat)) dX11_decides_32 sh_6 (by omega) (by omega) (by decide) (by rw [wA1c (by omega), wA1]) ?_
        refine z_if_ne (pc := 33) (tgt := 172) dX11_decides_33 (by decide) (by omega) (by omega) (fun hb6 => ?_) (fun hb6 => ?_)
        · skip
          have hA : ask (H.1 2) M (M 41).toNat = false := decide_eq_false (by omega)
          have hD := drd_n (A := H.1 2) (wo := H.1 0 21) hM41 hA
          have hnr0 : rnd (H.1 2) (H.1 0 21) M = false := by unfold rnd; rw [hA]; rfl
          refine x_weaken (L1 := [(0, .ref 0), (1, .int (zN (0)))]) (List.forall_mem_cons.mpr ⟨(List.Mem.tail _ (List.Mem.head _)), (List.forall_mem_cons.mpr ⟨(List.Mem.tail _ (List.Mem.tail _ (List.Mem.head _))), (fun _ h => absurd h List.not_mem_nil)⟩)⟩) ?_
          have he7 : (wA (wA H 6 (M)) 8 (f)) = (wA (wA H 6 (drd (H.1 2) (H.1 0 21) M)) 8 (f)) := by first | ((repeat rw [w68]); exact congrArg (fun z => wA (wA H 6 z) 8 _) hD) | (exfalso; omega)
          refine Ev_heq he7 ?_
          have ok8 : okZ (wA (wA H 6 (drd (H.1 2) (H.1 0 21) M)) 8 (f)) := by rw [← he7]; exact okl0
          exact jn172 (f) ok8 (by first | exact hnr0 | (exfalso; omega))
        · skip
          refine x_aload_n (pc := 36) dX11_decides_36 (List.Mem.tail _ (List.Mem.head _)) ?_
          refine z_getR (pc := 37) (k := 18) (r := 6) dX11_decides_37 lf_X11_33 sh_0 rfl rf_0_18 ?_
          refine z_iconst (pc := 40) dX11_decides_40 ?_
          refine x_iload_n (pc := 41) dX11_decides_41 (List.Mem.head _) ?_
          refine z_iadd (pc := 42) dX11_decides_42 ?_
          refine z_iald (pc := 43) (j := (M 41).toNat) (v := (M) ((M 41).toNat)) dX11_decides_43 sh_6 (by omega) (by omega) (by decide) (by rw [wA1c (by omega), wA1]) ?_
          refine z_i2l (pc := 44) dX11_decides_44 (by omega) (by omega) ?_
          refine z_lconst (pc := 45) 1 dX11_decides_45 rfl ?_
          refine x_aload_n (pc := 46) dX11_decides_46 (List.Mem.tail _ (List.Mem.head _)) ?_
          refine z_getR (pc := 47) (k := 2) (r := 2) dX11_decides_47 lf_X11_17 sh_0 rfl rf_0_2 ?_
          refine z_bipush (pc := 50) dX11_decides_50 bp_38 ?_
          have rd9 := ok.1 2 38
          refine z_iald (pc := 52) (j := 38) (v := H.1 2 38) dX11_decides_52 sh_2 rfl (Nat.le_of_ble_eq_true rfl) (by decide) (by rw [wA1c (by omega), wA1c (by omega)]) ?_
          refine z_i2l (pc := 53) dX11_decides_53 (by omega) (by omega) ?_
          refine z_callSbp (pc := 54) (i := mX11_within) (S := []) [.long (zL (((M) ((M 41).toNat)))), .long (zL (1)), .long (zL ((H.1 2 38)))] dX11_decides_54 ml_X11_152 ok_X11_within rfl (Or.inr rfl) (Nat.le_of_ble_eq_true rfl) (c_X11_within (d := d + 3) (v := (((M) ((M 41).toNat)))) (lo := 1) (hi := ((H.1 2 38))) (v1 := (by omega)) (v2 := (by omega)) (lo1 := (by omega)) (lo2 := (by omega)) (hi1 := (by omega)) (hi2 := (by omega)) (ok := okl0)) (fun hc12 ok11 => ?_) (fun hc12 ok11 => ?_)
          · skip
            have hA : ask (H.1 2) M (M 41).toNat = true := decide_eq_true (by omega)
            refine z_if_eq (pc := 57) (tgt := 172) dX11_decides_57 (by decide) (by decide) (by decide) (fun h => absurd h (by decide)) (fun _ => ?_)
            refine x_aload_n (pc := 60) dX11_decides_60 (List.Mem.tail _ (List.Mem.head _)) ?_
            refine x_iload_n (pc := 61) dX11_decides_61 (List.Mem.head _) ?_
            refine z_callVbp (pc := 62) (i := mX11_canStop) (S := []) [.int (zN (((M 41))))] dX11_decides_62 ml_X11_246 ok_X11_canStop rfl sh_0 rfl (Or.inr rfl) (Nat.le_of_ble_eq_true rfl) (by have qz := c_X11_canStop (d := d + 3) (c := ((M 41).toNat)) (hc := (show (((M 41).toNat : Nat) : Int) < H.1 2 1 by omega)) (ok := ok11) (ws := (show WFS (H.1 2) from ws)) (wn := (show WFN (H.1 2) M from wm)); rw [show (((M 41).toNat : Nat) : Int) = ((M 41)) by omega] at qz; exact qz) (fun hc16 ok15 => ?_) (fun hc16 ok15 => ?_)
            · skip
              have hcs : M (8 + (M 41).toNat) * (M (8 + (M 41).toNat) - 1) / 2 ≤ M (M 41).toNat - H.1 2 35 := hc16
              have hsh : shr (H.1 2) M (H.1 0 21) (M 41).toNat = tsp (H.1 2) M (H.1 0 21) (M 41).toNat (H.1 2 40).toNat 0 := if_pos hcs
              refine z_if_eq (pc := 65) (tgt := 76) dX11_decides_65 (by decide) (by decide) (by decide) (fun h => absurd h (by decide)) (fun _ => ?_)
              refine x_aload_n (pc := 68) dX11_decides_68 (List.Mem.tail _ (List.Mem.head _)) ?_
              refine x_iload_n (pc := 69) dX11_decides_69 (List.Mem.head _) ?_
              refine z_callVi (pc := 70) (i := mX11_stopsBy) (S := []) [.int (zN (((M 41))))] dX11_decides_70 ml_X11_243 ok_X11_stopsBy rfl sh_0 rfl (Or.inl rfl) (Nat.le_of_ble_eq_true rfl) (by have qz := c_X11_stopsBy (d := d) (c := ((M 41).toNat)) (hc := (show (((M 41).toNat : Nat) : Int) < H.1 2 1 by omega)) (ok := ok15) (ws := (show WFS (H.1 2) from ws)) (wn := (show WFN (H.1 2) M from wm)) (wl := (show WFL (H.1 2) from wl)); rw [show (((M 41).toNat : Nat) : Int) = ((M 41)) by omega] at qz; exact qz) ?_
              intro r18 H21 r18a r18b ok19 hp20
              obtain ⟨er, f2, ef⟩ := hp20
              have er2 : r18 = tsp (H.1 2) M (H.1 0 21) (M 41).toNat (H.1 2 40).toNat 0 := er
              have ef2 : H21 = wA (wA H 6 M) 8 f2 := by rw [ef, wA_wA]
              subst ef2
              rw [← hsh] at er2
              subst er2
              refine x_goto (pc := 73) (tgt := 77) dX11_decides_73 (by decide) ?_
              refine x_istore_n (pc := 77) dX11_decides_77 (Nat.le_of_ble_eq_true rfl) ?_
              show Ev _ _ _ _ _ [(3, .int (zN ((shr (H.1 2) M (H.1 0 21) (M 41).toNat)))), (2, .int (zN (((M 41))))), (0, .ref 0), (1, .int (zN (0)))] _ _
              refine x_iload_n (pc := 78) dX11_decides_78 (List.Mem.head _) ?_
              refine z_if_eq (pc := 79) (tgt := 88) dX11_decides_79 (by decide) (by omega) (by omega) (fun hb22 => ?_) (fun hb22 => ?_)
              · skip
                have hs0 : shr (H.1 2) M (H.1 0 21) (M 41).toNat = 0 := by omega
                have hD := drd_0 hM41 hA hs0
                have hnr0 : rnd (H.1 2) (H.1 0 21) M = false := by unfold rnd; rw [hs0, decide_eq_false (by omega), Bool.and_false]
                refine x_aload_n (pc := 88) dX11_decides_88 (List.Mem.tail _ (List.Mem.tail _ (List.Mem.head _))) ?_
                refine z_getR (pc := 89) (k := 18) (r := 6) dX11_decides_89 lf_X11_33 sh_0 rfl rf_0_18 ?_
                refine z_bipush (pc := 92) dX11_decides_92 bp_16 ?_
                refine x_iload_n (pc := 94) dX11_decides_94 (List.Mem.tail _ (List.Mem.head _)) ?_
                refine z_iadd (pc := 95) dX11_decides_95 ?_
                refine x_iload_n (pc := 96) dX11_decides_96 (List.Mem.head _) ?_
                refine z_if_ne (pc := 97) (tgt := 104) dX11_decides_97 (by decide) (by omega) (by omega) (fun hb23 => ?_) (fun hb23 => ?_)
                · skip
                  refine z_iconst (pc := 104) dX11_decides_104 ?_
                  refine z_iast (pc := 105) (j := 16 + (M 41).toNat) (v := 2) dX11_decides_105 sh_6 (by omega) (by omega) (by decide) ?_
                  have ok24 := okI ok19 6 (16 + (M 41).toNat) (v := 2) (by decide) (by decide)
                  refine x_goto (pc := 106) (tgt := 172) dX11_decides_106 (by decide) ?_
                  refine x_weaken (L1 := [(0, .ref 0), (1, .int (zN (0)))]) (List.forall_mem_cons.mpr ⟨(List.Mem.tail _ (List.Mem.tail _ (List.Mem.head _))), (List.forall_mem_cons.mpr ⟨(List.Mem.tail _ (List.Mem.tail _ (List.Mem.tail _ (List.Mem.head _)))), (fun _ h => absurd h List.not_mem_nil)⟩)⟩) ?_
                  have he25 : (wI (wA (wA H 6 (M)) 8 (f2)) 6 (16 + (M 41).toNat) (2)) = (wA (wA H 6 (drd (H.1 2) (H.1 0 21) M)) 8 (f2)) := by first | ((repeat rw [w68]); exact congrArg (fun z => wA (wA H 6 z) 8 _) hD) | (exfalso; omega)
                  refine Ev_heq he25 ?_
                  have ok26 : okZ (wA (wA H 6 (drd (H.1 2) (H.1 0 21) M)) 8 (f2)) := by rw [← he25]; exact ok24
                  exact jn172 (f2) ok26 (by first | exact hnr0 | (exfalso; omega))
                · skip
                  refine z_iconst (pc := 100) dX11_decides_100 ?_
                  refine x_goto (pc := 101) (tgt := 105) dX11_decides_101 (by decide) ?_
                  refine z_iast (pc := 105) (j := 16 + (M 41).toNat) (v := 1) dX11_decides_105 sh_6 (by omega) (by omega) (by decide) ?_
                  have ok27 := okI ok19 6 (16 + (M 41).toNat) (v := 1) (by decide) (by decide)
                  refine x_goto (pc := 106) (tgt := 172) dX11_decides_106 (by decide) ?_
                  refine x_weaken (L1 := [(0, .ref 0), (1, .int (zN (0)))]) (List.forall_mem_cons.mpr ⟨(List.Mem.tail _ (List.Mem.tail _ (List.Mem.head _))), (List.forall_mem_cons.mpr ⟨(List.Mem.tail _ (List.Mem.tail _ (List.Mem.tail _ (List.Mem.head _)))), (fun _ h => absurd h List.not_mem_nil)⟩)⟩) ?_
                  have he28 : (wI (wA (wA H 6 (M)) 8 (f2)) 6 (16 + (M 41).toNat) (1)) = (wA (wA H 6 (drd (H.1 2) (H.1 0 21) M)) 8 (f2)) := by first | ((repeat rw [w68]); exact congrArg (fun z => wA (wA H 6 z) 8 _) hD) | (exfalso; omega)
                  refine Ev_heq he28 ?_
                  have ok29 : okZ (wA (wA H 6 (drd (H.1 2) (H.1 0 21) M)) 8 (f2)) := by rw [← he28]; exact ok27
                  exact jn172 (f2) ok29 (by first | exact hnr0 | (exfalso; omega))
              · skip
                refine x_iload_n (pc := 82) dX11_decides_82 (List.Mem.head _) ?_
                refine z_bipush (pc := 83) dX11_decides_83 bp_100 ?_
                refine z_icmp_ne (pc := 85) (tgt := 109) dX11_decides_85 (by decide) (by omega) (by omega) (by decide) (by decide) (fun hb30 => ?_) (fun hb30 => ?_)
                · skip
                  have hrt : rnd (H.1 2) (H.1 0 21) M = true := by unfold rnd; rw [hA, decide_eq_true (by omega)]; rfl
                  refine x_iload_n (pc := 109) dX11_decides_109 (List.Mem.tail _ (List.Mem.tail _ (List.Mem.tail _ (List.Mem.head _)))) ?_
                  refine z_if_ne (pc := 110) (tgt := 120) dX11_decides_110 (by decide) (by decide) (by decide) (fun h => absurd h (by decide)) (fun _ => ?_)
                  refine x_aload_n (pc := 113) dX11_decides_113 (List.Mem.tail _ (List.Mem.tail _ (List.Mem.head _))) ?_
                  refine x_iload_n (pc := 114) dX11_decides_114 (List.Mem.head _) ?_
                  refine z_putI (pc := 115) (k := 23) dX11_decides_115 lp_X11_249 sh_0 rfl ?_
                  have ok32 := okI ok19 0 23 (v := (shr (H.1 2) M (H.1 0 21) (M 41).toNat)) (by omega) (by omega)
                  refine x_iload_n (pc := 118) dX11_decides_118 (List.Mem.tail _ (List.Mem.head _)) ?_
                  refine z_ireturn (pc := 119) dX11_decides_119 rfl (Or.inl rfl) ok32 (by omega) (by omega) ?_
                  exact ⟨M, _, hR, h37, Or.inr ⟨rfl, by omega, hrt, rfl⟩⟩
                · skip
                  have hs1 : shr (H.1 2) M (H.1 0 21) (M 41).toNat = 100 := by omega
                  have hD := drd_100 hM41 hA hs1
                  have hnr0 : rnd (H.1 2) (H.1 0 21) M = false := by unfold rnd; rw [hs1, decide_eq_false (by omega), Bool.and_false]
                  refine x_aload_n (pc := 88) dX11_decides_88 (List.Mem.tail _ (List.Mem.tail _ (List.Mem.head _))) ?_
                  refine z_getR (pc := 89) (k := 18) (r := 6) dX11_decides_89 lf_X11_33 sh_0 rfl rf_0_18 ?_
                  refine z_bipush (pc := 92) dX11_decides_92 bp_16 ?_
                  refine x_iload_n (pc := 94) dX11_decides_94 (List.Mem.tail _ (List.Mem.head _)) ?_
                  refine z_iadd (pc := 95) dX11_decides_95 ?_
                  refine x_iload_n (pc := 96) dX11_decides_96 (List.Mem.head _) ?_
                  refine z_if_ne (pc := 97) (tgt := 104) dX11_decides_97 (by decide) (by omega) (by omega) (fun hb33 => ?_) (fun hb33 => ?_)
                  · skip
                    refine z_iconst (pc := 104) dX11_decides_104 ?_
                    refine z_iast (pc := 105) (j := 16 + (M 41).toNat) (v := 2) dX11_decides_105 sh_6 (by omega) (by omega) (by decide) ?_
                    have ok34 := okI ok19 6 (16 + (M 41).toNat) (v := 2) (by decide) (by decide)
                    refine x_goto (pc := 106) (tgt := 172) dX11_decides_106 (by decide) ?_
                    refine x_weaken (L1 := [(0, .ref 0), (1, .int (zN (0)))]) (List.forall_mem_cons.mpr ⟨(List.Mem.tail _ (List.Mem.tail _ (List.Mem.head _))), (List.forall_mem_cons.mpr ⟨(List.Mem.tail _ (List.Mem.tail _ (List.Mem.tail _ (List.Mem.head _)))), (fun _ h => absurd h List.not_mem_nil)⟩)⟩) ?_
                    have he35 : (wI (wA (wA H 6 (M)) 8 (f2)) 6 (16 + (M 41).toNat) (2)) = (wA (wA H 6 (drd (H.1 2) (H.1 0 21) M)) 8 (f2)) := by first | ((repeat rw [w68]); exact congrArg (fun z => wA (wA H 6 z) 8 _) hD) | (exfalso; omega)
                    refine Ev_heq he35 ?_
                    have ok36 : okZ (wA (wA H 6 (drd (H.1 2) (H.1 0 21) M)) 8 (f2)) := by rw [← he35]; exact ok34
                    exact jn172 (f2) ok36 (by first | exact hnr0 | (exfalso; omega))
                  · skip
                    refine z_iconst (pc := 100) dX11_decides_100 ?_
                    refine x_goto (pc := 101) (tgt := 105) dX11_decides_101 (by decide) ?_
                    refine z_iast (pc := 105) (j := 16 + (M 41).toNat) (v := 1) dX11_decides_105 sh_6 (by omega) (by omega) (by decide) ?_
                    have ok37 := okI ok19 6 (16 + (M 41).toNat) (v := 1) (by decide) (by decide)
                    refine x_goto (pc := 106) (tgt := 172) dX11_decides_106 (by decide) ?_
                    refine x_weaken (L1 := [(0, .ref 0), (1, .int (zN (0)))]) (List.forall_mem_cons.mpr ⟨(List.Mem.tail _ (List.Mem.tail _ (List.Mem.head _))), (List.forall_mem_cons.mpr ⟨(List.Mem.tail _ (List.Mem.tail _ (List.Mem.tail _ (List.Mem.head _)))), (fun _ h => absurd h List.not_mem_nil)⟩)⟩) ?_
                    have he38 : (wI (wA (wA H 6 (M)) 8 (f2)) 6 (16 + (M 41).toNat) (1)) = (wA (wA H 6 (drd (H.1 2) (H.1 0 21) M)) 8 (f2)) := by first | ((repeat rw [w68]); exact congrArg (fun z => wA (wA H 6 z) 8 _) hD) | (exfalso; omega)
                    refine Ev_heq he38 ?_
                    have ok39 : okZ (wA (wA H 6 (drd (H.1 2) (H.1 0 21) M)) 8 (f2)) := by rw [← he38]; exact ok37
                    exact jn172 (f2) ok39 (by first | exact hnr0 | (exfalso; omega))
            · skip
              have hcs : ¬ M (8 + (M 41).toNat) * (M (8 + (M 41).toNat) - 1) / 2 ≤ M (M 41).toNat - H.1 2 35 := hc16
              have hsh : shr (H.1 2) M (H.1 0 21) (M 41).toNat = 0 := if_neg hcs
              have hD := drd_0 hM41 hA hsh
              have hnr0 : rnd (H.1 2) (H.1 0 21) M = false := by unfold rnd; rw [hsh, decide_eq_false (by omega), Bool.and_false]
              refine z_if_eq (pc := 65) (tgt := 76) dX11_decides_65 (by decide) (by decide) (by decide) (fun _ => ?_) (fun h => absurd h (by decide))
              refine z_iconst (pc := 76) dX11_decides_76 ?_
              refine x_istore_n (pc := 77) dX11_decides_77 (Nat.le_of_ble_eq_true rfl) ?_
              show Ev _ _ _ _ _ [(3, .int (zN (0))), (2, .int (zN (((M 41))))), (0, .ref 0), (1, .int (zN (0)))] _ _
              refine x_iload_n (pc := 78) dX11_decides_78 (List.Mem.head _) ?_
              refine z_if_eq (pc := 79) (tgt := 88) dX11_decides_79 (by decide) (by decide) (by decide) (fun _ => ?_) (fun h => absurd h (by decide))
              refine x_aload_n (pc := 88) dX11_decides_88 (List.Mem.tail _ (List.Mem.tail _ (List.Mem.head _))) ?_
              refine z_getR (pc := 89) (k := 18) (r := 6) dX11_decides_89 lf_X11_33 sh_0 rfl rf_0_18 ?_
              refine z_bipush (pc := 92) dX11_decides_92 bp_16 ?_
              refine x_iload_n (pc := 94) dX11_decides_94 (List.Mem.tail _ (List.Mem.head _)) ?_
              refine z_iadd (pc := 95) dX11_decides_95 ?_
              refine x_iload_n (pc := 96) dX11_decides_96 (List.Mem.head _) ?_
              refine z_if_ne (pc := 97) (tgt := 104) dX11_decides_97 (by decide) (by decide) (by decide) (fun h => absurd h (by decide)) (fun _ => ?_)
              refine z_iconst (pc := 100) dX11_decides_100 ?_
              refine x_goto (pc := 101) (tgt := 105) dX11_decides_101 (by decide) ?_
              refine z_iast (pc := 105) (j := 16 + (M 41).toNat) (v := 1) dX11_decides_105 sh_6 (by omega) (by omega) (by decide) ?_
              have ok43 := okI ok15 6 (16 + (M 41).toNat) (v := 1) (by decide) (by decide)
              refine x_goto (pc := 106) (tgt := 172) dX11_decides_106 (by decide) ?_
              refine x_weaken (L1 := [(0, .ref 0), (1, .int (zN (0)))]) (List.forall_mem_cons.mpr ⟨(List.Mem.tail _ (List.Mem.tail _ (List.Mem.head _))), (List.forall_mem_cons.mpr ⟨(List.Mem.tail _ (List.Mem.tail _ (List.Mem.tail _ (List.Mem.head _)))), (fun _ h => absurd h List.not_mem_nil)⟩)⟩) ?_
              have he44 : (wI (wA (wA H 6 (M)) 8 (f)) 6 (16 + (M 41).toNat) (1)) = (wA (wA H 6 (drd (H.1 2) (H.1 0 21) M)) 8 (f)) := by first | ((repeat rw [w68]); exact congrArg (fun z => wA (wA H 6 z) 8 _) hD) | (exfalso; omega)
              refine Ev_heq he44 ?_
              have ok45 : okZ (wA (wA H 6 (drd (H.1 2) (H.1 0 21) M)) 8 (f)) := by rw [← he44]; exact ok43
              exact jn172 (f) ok45 (by first | exact hnr0 | (exfalso; omega))
          · skip
            have hA : ask (H.1 2) M (M 41).toNat = false := decide_eq_false (by omega)
            have hD := drd_n (A := H.1 2) (wo := H.1 0 21) hM41 hA
            have hnr0 : rnd (H.1 2) (H.1 0 21) M = false := by unfold rnd; rw [hA]; rfl
            refine z_if_eq (pc := 57) (tgt := 172) dX11_decides_57 (by decide) (by decide) (by decide) (fun _ => ?_) (fun h => absurd h (by decide))
            refine x_weaken (L1 := [(0, .ref 0), (1, .int (zN (0)))]) (List.forall_mem_cons.mpr ⟨(List.Mem.tail _ (List.Mem.head _)), (List.forall_mem_cons.mpr ⟨(List.Mem.tail _ (List.Mem.tail _ (List.Mem.head _))), (fun _ h => absurd h List.not_mem_nil)⟩)⟩) ?_
            have he47 : (wA (wA H 6 (M)) 8 (f)) = (wA (wA H 6 (drd (H.1 2) (H.1 0 21) M)) 8 (f)) := by first | ((repeat rw [w68]); exact congrArg (fun z => wA (wA H 6 z) 8 _) hD) | (exfalso; omega)
            refine Ev_heq he47 ?_
            have ok48 : okZ (wA (wA H 6 (drd (H.1 2) (H.1 0 21) M)) 8 (f)) := by rw [← he47]; exact ok11
            exact jn172 (f) ok48 (by first | exact hnr0 | (exfalso; omega))
  refine x_weaken (L1 := [(0, .ref 0), (1, .int (zN (0)))]) (List.forall_mem_cons.mpr ⟨(List.Mem.head _), (List.forall_mem_cons.mpr ⟨(List.Mem.tail _ (List.Mem.head _)), (fun _ h => absurd h List.not_mem_nil)⟩)⟩) ?_
  have he49 : H = (wA (wA H 6 ((H.1 6))) 8 (H.1 8)) := by rw [wA_self, wA_self]
  refine Ev_heq he49 ?_
  have ok50 : okZ (wA (wA H 6 ((H.1 6))) 8 (H.1 8)) := by rw [← he49]; exact ok
  exact lp0 (rkN (H.1 2) (H.1 6) + 1) ((H.1 6)) (H.1 8) ok50 (Rch_0 wt) (he) (Nat.lt_succ_self _)

theorem c_X11_branches_s {d : Nat} {H : ZH} (ok : okZ H) {lv f : Nat} {w : Int} {m : Nat} (ws : WFS (H.1 2)) (wl : WFL (H.1 2)) (wt : WFT (H.1 2) (H.1 6)) (hu : und (H.1 2) (H.1 6) < m + 1) (hlv : lv + und (H.1 2) (H.1 6) ≤ 8) (hw : 0 ≤ w ∧ w ≤ 10000000000000000) (hf : rkN (H.1 2) (H.1 6) < f) (ha : AccB H w) (ih : ∀ {H : ZH} (ok : okZ H) {lv f : Nat} {w : Int} (ws : WFS (H.1 2)) (wl : WFL (H.1 2)) (wt : WFT (H.1 2) (H.1 6)) (hu : und (H.1 2) (H.1 6) < m) (hlv : lv + und (H.1 2) (H.1 6) ≤ 8) (hw : 0 ≤ w ∧ w ≤ 10000000000000000) (hf : rkN (H.1 2) (H.1 6) < f) (ha : AccB H w), EvC zX (d + 5) mX11_branches [.ref 0, .int (zN ((lv : Int))), .long (zL (w))] (eh H) (zPv (fun (H1 : ZH) => BrP H H1 lv f w))) : EvC zX (d + 6) mX11_branches [.ref 0, .int (zN ((lv : Int))), .long (zL (w))] (eh H) (zPv (fun (H1 : ZH) => BrP H H1 lv f w)) := by
  show _ ∧ Ev zX mX11_branches (EvC zX (d + 5)) (zPv (fun (H1 : ZH) => BrP H H1 lv f w)) 0 [(0, .ref 0), (1, .int (zN ((lv : Int)))), (2, .long (zL (w)))] [] (eh H)
  refine ⟨Nat.le_of_ble_eq_true rfl, ?_⟩
  have wsx := ws
  obtain ⟨ws0, ws1, wsC, ws34, ws35, ws36, ws37, ws38, ws39⟩ := wsx
  have hae := ha
  refine z_iconst (pc := 0) dX11_branches_0 ?_
  refine x_istore (pc := 1) dX11_branches_1 (Nat.le_of_ble_eq_true rfl) ?_
  show Ev _ _ _ _ _ [(4, .int (zN ((-1)))), (0, .ref 0), (1, .int (zN ((lv : Int)))), (2, .long (zL (w)))] _ _
  have lp3 : ∀ (nF : Nat) (M : Nat → Int) (c : Int) (Hm : ZH), okZ Hm → (FrR H Hm) → (Hm.1 6 = M) → (Rch (H.1 2) (H.1 0 21) (H.1 6) M) → (c = -1 ∨ (c = M 41 ∧ M 37 = 0 ∧ M 41 < H.1 2 1 ∧ rnd (H.1 2) (H.1 0 21) M = true ∧ Hm.1 0 23 = shr (H.1 2) M (H.1 0 21) (M 41).toNat)) → (if c = -1 then rkN (H.1 2) M + 1 else 0) < nF → Ev zX mX11_branches (EvC zX (d + 5)) (zPv (fun (H1 : ZH) => BrP H H1 lv f w)) 3 [(0, .ref 0), (1, .int (zN ((lv : Int)))), (2, .long (zL (w))), (4, .int (zN (c)))] [] (eh Hm) := by
    intro nF
    induction nF with
    | zero => intro M c Hm okl3 fr e6 hR hc hm; exact absurd hm (Nat.not_lt_zero _)
    | succ nF ih3 =>
      intro M c Hm okl3 fr e6 hR hc hm
      have e2 := FrR_2 fr
      have e21 : Hm.1 0 21 = H.1 0 21 := fr.2 0 21 (by omega)
      obtain ⟨wm, wxm, w410, w411⟩ := hR.1
      obtain ⟨wmC, wm32, wm33, wm34, wm35, wm36, wm37, wm38, wm39⟩ := wm
      have cb : -1 ≤ c ∧ c ≤ 7 := by rcases hc with z | z <;> omega
      refine x_aload_n (pc := 3) dX11_branches_3 (List.Mem.head _) ?_
      have jn39 : (M 37 ≠ 0 ∨ (c = M 41 ∧ M 37 = 0 ∧ M 41 < H.1 2 1 ∧ rnd (H.1 2) (H.1 0 21) M = true ∧ Hm.1 0 23 = shr (H.1 2) M (H.1 0 21) (M 41).toNat)) → Ev zX mX11_branches (EvC zX (d + 5)) (zPv (fun (H1 : ZH) => BrP H H1 lv f w)) 39 [(0, .ref 0), (1, .int (zN ((lv : Int)))), (2, .long (zL (w))), (4, .int (zN (c)))] [] (eh Hm) := by
        intro hc2
        refine x_aload_n (pc := 39) dX11_branches_39 (List.Mem.head _) ?_
        refine z_getR (pc := 40) (k := 18) (r := 6) dX11_branches_40 lf_X11_33 sh_0 rfl rf_0_18 ?_
        refine z_bipush (pc := 43) dX11_branches_43 bp_37 ?_
        refine z_iald (pc := 45) (j := 37) (v := (M 37)) dX11_branches_45 sh_6 rfl (Nat.le_of_ble_eq_true rfl) (by decide) (congrFun e6 37) ?_
        refine z_if_eq (pc := 46) (tgt := 182) dX11_branches_46 (by decide) (by omega) (by omega) (fun hb1 => ?_) (fun hb1 => ?_)
        · skip
          obtain ⟨ec, h37, hk, hr, e23⟩ := hc2.resolve_left (fun z => z hb1)
          obtain ⟨rn0, rn1, rn2, _⟩ := rnd_t hr
          obtain ⟨f2, hf20, hf21, hsum⟩ := Rch_r ws1.2 hR h37 hk hr hf
          have hf2 := And.intro hf20 hf21
          obtain ⟨wtx, ux, hix⟩ := frc_s ws1.2 hR.1 hk rn0 true
          obtain ⟨wty, uy, hiy⟩ := frc_s ws1.2 hR.1 hk rn0 false
          have hul := hR.2.1
          obtain ⟨s1, s2, s3, s4, s5⟩ := sh_split hw.1 ⟨rn1, rn2⟩
          refine x_aload_n (pc := 182) dX11_branches_182 (List.Mem.head _) ?_
          refine z_getI (pc := 183) (k := 23) (v := (shr (H.1 2) M (H.1 0 21) (M 41).toNat)) dX11_branches_183 lf_X11_249 sh_0 rfl e23 ?_
          refine x_istore (pc := 186) dX11_branches_186 (Nat.le_of_ble_eq_true rfl) ?_
          show Ev _ _ _ _ _ [(5, .int (zN (((shr (H.1 2) M (H.1 0 21) (M 41).toNat))))), (0, .ref 0), (1, .int (zN ((lv : Int)))), (2, .long (zL (w))), (4, .int (zN (c)))] _ _
          refine z_iconst (pc := 188) dX11_branches_188 ?_
          refine x_istore (pc := 189) dX11_branches_189 (Nat.le_of_ble_eq_true rfl) ?_
          show Ev _ _ _ _ _ [(6, .int (zN (0))), (5, .int (zN (((shr (H.1 2) M (H.1 0 21) (M 41).toNat))))), (0, .ref 0), (1, .int (zN ((lv : Int)))), (2, .long (zL (w))), (4, .int (zN (c)))] _ _
          have lp191 : ∀ (nF : Nat) (k : Nat), okZ (wA Hm 7 (fun j => if 42 * lv ≤ j ∧ j < 42 * lv + k then M (j - 42 * lv) else Hm.1 7 j)) → (k ≤ 42) → 42 - k < nF → Ev zX mX11_branches (EvC zX (d + 5)) (zPv (fun (H1 : ZH) => BrP H H1 lv f w)) 191 [(0, .ref 0), (1, .int (zN ((lv : Int)))), (2, .long (zL (w))), (4, .int (zN (c))), (5, .int (zN (((shr (H.1 2) M (H.1 0 21) (M 41).toNat))))), (6, .int (zN ((k : Int))))] [] (eh (wA Hm 7 (fun j => if 42 * lv ≤ j ∧ j < 42 * lv + k then M (j - 42 * lv) else Hm.1 7 j))) := by
            intro nF
            induction nF with
            | zero => intro k okl191 hk hm; exact absurd hm (Nat.not_lt_zero _)
            | succ nF ih191 =>
              intro k okl191 hk hm
              refine x_iload (pc := 191) dX11_branches_191 (List.Mem.tail _ (List.Mem.tail _ (List.Mem.tail _ (List.Mem.tail _ (List.Mem.tail _ (List.Mem.head _)))))) ?_
              refine z_bipush (pc := 193) dX11_branches_193 bp_42 ?_
              refine z_icmp_ge (pc := 195) (tgt := 223) dX11_branches_195 (by decide) (by omega) (by omega) (by decide) (by decide) (fun hb2 => ?_) (fun hb2 => ?_)
              · skip
                refine x_aload_n (pc := 223) dX11_branches_223 (List.Mem.head _) ?_
                refine z_getR (pc := 224) (k := 18) (r := 6) dX11_branches_224 lf_X11_33 sh_0 rfl rf_0_18 ?_
                refine z_bipush (pc := 227) dX11_branches_227 bp_16 ?_
                refine x_iload (pc := 229) dX11_branches_229 (List.Mem.tail _ (List.Mem.tail _ (List.Mem.tail _ (List.Mem.head _)))) ?_
                refine z_iadd (pc := 231) dX11_branches_231 ?_
                refine z_iconst (pc := 232) dX11_branches_232 ?_
                refine z_iast (pc := 233) (j := 16 + (M 41).toNat) (v := 2) dX11_branches_233 sh_6 (by omega) (by omega) (by decide) ?_
                have ok3 := okI okl191 6 (16 + (M 41).toNat) (v := 2) (by decide) (by decide)
                obtain ⟨Hx, hHx⟩ : ∃ Hx, Hx = (wI (wA Hm 7 (fun j => if 42 * lv ≤ j ∧ j < 42 * lv + k then M (j - 42 * lv) else Hm.1 7 j)) 6 (16 + (M 41).toNat) (2)) := ⟨_, rfl⟩
                rw [← hHx]
                have okHx : okZ Hx := by rw [hHx]; exact ok3
                have x6 : Hx.1 6 = frc M true := by rw [hHx]; funext j; rw [wIp, wA1c (by omega), e6]; unfold frc; rfl
                have x7 : ∀ j, Hx.1 7 j = if 42 * lv ≤ j ∧ j < 42 * lv + 42 then M (j - 42 * lv) else Hm.1 7 j := fun j => by rw [hHx, wI1c (by omega), wA1, show k = 42 by omega]
                have xo : ∀ cc, cc ≠ 6 → cc ≠ 7 → ∀ j, Hx.1 cc j = Hm.1 cc j := fun cc a b j => by rw [hHx, wI1c a, wA1c b]
                have xJ : Hx.2 = Hm.2 := by rw [hHx]; rfl
                have x2 : Hx.1 2 = H.1 2 := funext (fun j => (xo 2 (by omega) (by omega) j).trans (congrFun e2 j))
                have x21 : Hx.1 0 21 = H.1 0 21 := (xo 0 (by omega) (by omega) 21).trans e21
                have accx : AccB Hx (w / 100 * shr (H.1 2) M (H.1 0 21) (M 41).toNat) := AccB_l hae (xJ.trans fr.1) s4
                refine x_aload_n (pc := 234) dX11_branches_234 (List.Mem.head _) ?_
                refine x_iload_n (pc := 235) dX11_branches_235 (List.Mem.tail _ (List.Mem.head _)) ?_
                refine z_iconst (pc := 236) dX11_branches_236 ?_
                refine z_iadd (pc := 237) dX11_branches_237 ?_
                refine x_lload_n (pc := 238) dX11_branches_238 (List.Mem.tail _ (List.Mem.tail _ (List.Mem.head _))) ?_
                refine z_ldc2_w (pc := 239) 100 dX11_branches_239 cl_X11_286 (by decide) ?_
                refine z_ldivP (pc := 242) dX11_branches_242 (by omega) (by omega) (by omega) (by omega) ?_
                refine x_iload (pc := 243) dX11_branches_243 (List.Mem.tail _ (List.Mem.tail _ (List.Mem.tail _ (List.Mem.tail _ (List.Mem.head _))))) ?_
                refine z_i2l (pc := 245) dX11_branches_245 (by omega) (by omega) ?_
                refine z_lmul (pc := 246) dX11_branches_246 ?_
                refine z_callVv (pc := 247) (i := mX11_branches) (S := []) [.int (zN (((lv : Int) + 1))), .long (zL (((w / 100) * ((shr (H.1 2) M (H.1 0 21) (M 41).toNat)))))] dX11_branches_247 ml_X11_288 ok_X11_branches rfl sh_0 rfl rfl (Nat.le_of_ble_eq_true rfl) (by have qz := ih (H := Hx) okHx (lv := (lv + 1)) (f := f2) (w := ((w / 100) * ((shr (H.1 2) M (H.1 0 21) (M 41).toNat)))) (by rw [x2]; exact ws) (by rw [x2]; exact wl) (by rw [x2, x6]; exact wtx) (by rw [x2, x6]; omega) (by rw [x2, x6]; omega) (by omega) (by rw [x2, x6]; exact hf2.1) accx; rw [show (((lv + 1) : Nat) : Int) = ((lv : Int) + 1) by omega] at qz; exact qz) ?_
                intro H4 okH4 hbx
                have h47 : ∀ j, j < 42 → H4.1 7 (42 * lv + j) = M j := fun j hj => by rw [hbx.1.2.1 _ (by omega), x7, if_pos (by omega), show 42 * lv + j - 42 * lv = j by omega]
                refine z_iconst (pc := 250) dX11_branches_250 ?_
                refine x_istore (pc := 251) dX11_branches_251 (Nat.le_of_ble_eq_true rfl) ?_
                show Ev _ _ _ _ _ [(6, .int (zN (0))), (0, .ref 0), (1, .int (zN ((lv : Int)))), (2, .long (zL (w))), (4, .int (zN (c))), (5, .int (zN (((shr (H.1 2) M (H.1 0 21) (M 41).toNat)))))] _ _
                have lp253 : ∀ (nF : Nat) (k : Nat), okZ (wA H4 6 (fun j => if j < k then M j else H4.1 6 j)) → (k ≤ 42) → 42 - k < nF → Ev zX mX11_branches (EvC zX (d + 5)) (zPv (fun (H1 : ZH) => BrP H H1 lv f w)) 253 [(0, .ref 0), (1, .int (zN ((lv : Int)))), (2, .long (zL (w))), (4, .int (zN (c))), (5, .int (zN (((shr (H.1 2) M (H.1 0 21) (M 41).toNat))))), (6, .int (zN ((k : Int))))] [] (eh (wA H4 6 (fun j => if j < k then M j else H4.1 6 j))) := by
                  intro nF
                  induction nF with
                  | zero => intro k okl253 hk hm; exact absurd hm (Nat.not_lt_zero _)
                  | succ nF ih253 =>
                    intro k okl253 hk hm
                    refine x_iload (pc := 253) dX11_branches_253 (List.Mem.tail _ (List.Mem.tail _ (List.Mem.tail _ (List.Mem.tail _ (List.Mem.tail _ (List.Mem.head _)))))) ?_
                    refine z_bipush (pc := 255) dX11_branches_255 bp_42 ?_
                    refine z_icmp_ge (pc := 257) (tgt := 285) dX11_branches_257 (by decide) (by omega) (by omega) (by decide) (by decide) (fun hb4 => ?_) (fun hb4 => ?_)
                    · skip
                      refine x_aload_n (pc := 285) dX11_branches_285 (List.Mem.head _) ?_
                      refine z_getR (pc := 286) (k := 18) (r := 6) dX11_branches_286 lf_X11_33 sh_0 rfl rf_0_18 ?_
                      refine z_bipush (pc := 289) dX11_branches_289 bp_16 ?_
                      refine x_iload (pc := 291) dX11_branches_291 (List.Mem.tail _ (List.Mem.tail _ (List.Mem.tail _ (List.Mem.head _)))) ?_
                      refine z_iadd (pc := 293) dX11_branches_293 ?_
                      refine z_iconst (pc := 294) dX11_branches_294 ?_
                      refine z_iast (pc := 295) (j := 16 + (M 41).toNat) (v := 1) dX11_branches_295 sh_6 (by omega) (by omega) (by decide) ?_
                      have ok5 := okI okl253 6 (16 + (M 41).toNat) (v := 1) (by decide) (by decide)
                      obtain ⟨Hy, hHy⟩ : ∃ Hy, Hy = (wI (wA H4 6 (fun j => if j < k then M j else H4.1 6 j)) 6 (16 + (M 41).toNat) (1)) := ⟨_, rfl⟩
                      rw [← hHy]
                      have okHy : okZ Hy := by rw [hHy]; exact ok5
                      have y6 : Hy.1 6 = frc M false := by
                        rw [hHy]; funext j; rw [wIp, wA1]; unfold frc
                        by_cases q : j = 16 + (M 41).toNat
                        · rw [if_pos q, if_pos q]; rfl
                        · rw [if_neg q, if_neg q]
                          by_cases q2 : j < k
                          · exact if_pos q2
                          · rw [if_neg q2, hbx.1.2.2.1 j (by omega), x6, frc_at q]
                      have yo : ∀ cc, cc ≠ 6 → ∀ j, Hy.1 cc j = H4.1 cc j := fun cc a j => by rw [hHy, wI1c a, wA1c a]
                      have yJ : Hy.2 = H4.2 := by rw [hHy]; rfl
                      have y2 : Hy.1 2 = H.1 2 := funext (fun j => (yo 2 (by omega) j).trans ((hbx.1.1 2 j (by omega)).trans (congrFun x2 j)))
                      have y21 : Hy.1 0 21 = H.1 0 21 := (yo 0 (by omega) 21).trans ((hbx.1.1 0 21 (by omega)).trans x21)
                      have accy : AccB Hy (w / 100 * (100 - shr (H.1 2) M (H.1 0 21) (M 41).toNat)) := by
                        have b1 := hbx.2
                        rw [x2, x6, x21] at b1
                        exact AccB_r hae (xJ.trans fr.1) yJ ws1 ws0 b1 wtx s1 s2 s3
                      refine x_aload_n (pc := 296) dX11_branches_296 (List.Mem.head _) ?_
                      refine x_iload_n (pc := 297) dX11_branches_297 (List.Mem.tail _ (List.Mem.head _)) ?_
                      refine z_iconst (pc := 298) dX11_branches_298 ?_
                      refine z_iadd (pc := 299) dX11_branches_299 ?_
                      refine x_lload_n (pc := 300) dX11_branches_300 (List.Mem.tail _ (List.Mem.tail _ (List.Mem.head _))) ?_
                      refine z_ldc2_w (pc := 301) 100 dX11_branches_301 cl_X11_286 (by decide) ?_
                      refine z_ldivP (pc := 304) dX11_branches_304 (by omega) (by omega) (by omega) (by omega) ?_
                      refine z_bipush (pc := 305) dX11_branches_305 bp_100 ?_
                      refine x_iload (pc := 307) dX11_branches_307 (List.Mem.tail _ (List.Mem.tail _ (List.Mem.tail _ (List.Mem.tail _ (List.Mem.head _))))) ?_
                      refine z_isub (pc := 309) dX11_branches_309 ?_
                      refine z_i2l (pc := 310) dX11_branches_310 (by omega) (by omega) ?_
                      refine z_lmul (pc := 311) dX11_branches_311 ?_
                      refine z_callVv (pc := 312) (i := mX11_branches) (S := []) [.int (zN (((lv : Int) + 1))), .long (zL (((w / 100) * (100 - ((shr (H.1 2) M (H.1 0 21) (M 41).toNat))))))] dX11_branches_312 ml_X11_288 ok_X11_branches rfl sh_0 rfl rfl (Nat.le_of_ble_eq_true rfl) (by have qz := ih (H := Hy) okHy (lv := (lv + 1)) (f := f2) (w := ((w / 100) * (100 - ((shr (H.1 2) M (H.1 0 21) (M 41).toNat))))) (by rw [y2]; exact ws) (by rw [y2]; exact wl) (by rw [y2, y6]; exact wty) (by rw [y2, y6]; omega) (by rw [y2, y6]; omega) (by omega) (by rw [y2, y6]; exact hf2.2) accy; rw [show (((lv + 1) : Nat) : Int) = ((lv : Int) + 1) by omega] at qz; exact qz) ?_
                      intro H5 okH5 hby
                      refine z_vreturn (pc := 315) dX11_branches_315 rfl okH5 ?_
                      have hb3 := hby.1
                      refine ⟨⟨fun cc k h => ?_, fun k h => ?_, fun j hj => ?_, fun cc k h => ?_⟩, ?_⟩
                      · rw [hby.1.1 cc k h, yo cc (by omega) k, hbx.1.1 cc k h, xo cc (by omega) (by omega) k]; exact fr.2 cc k (by omega)
                      · rw [hby.1.2.1 k (by omega), yo 7 (by omega) k, hbx.1.2.1 k (by omega), x7, if_neg (by omega)]; exact fr.2 7 k (by omega)
                      · rw [hby.1.2.2.1 j hj, y6, frc_at (by omega)]; exact hR.2.2.2.1 j hj
                      · rw [hby.1.2.2.2 cc k h, yJ, hbx.1.2.2.2 cc k h, xJ, fr.1]
                      · have b1 := hbx.2
                        have b2 := hby.2
                        rw [x2, x6, x21] at b1
                        rw [y2, y6, y21] at b2
                        exact BrS_2 (xJ.trans fr.1) yJ b1 b2 (fun g => hsum g w)
                    · skip
                      refine x_aload_n (pc := 260) dX11_branches_260 (List.Mem.head _) ?_
                      refine z_getR (pc := 261) (k := 18) (r := 6) dX11_branches_261 lf_X11_33 sh_0 rfl rf_0_18 ?_
                      refine x_iload (pc := 264) dX11_branches_264 (List.Mem.tail _ (List.Mem.tail _ (List.Mem.tail _ (List.Mem.tail _ (List.Mem.tail _ (List.Mem.head _)))))) ?_
                      refine x_aload_n (pc := 266) dX11_branches_266 (List.Mem.head _) ?_
                      refine z_getR (pc := 267) (k := 19) (r := 7) dX11_branches_267 lf_X11_36 sh_0 rfl rf_0_19 ?_
                      refine z_bipush (pc := 270) dX11_branches_270 bp_42 ?_
                      refine x_iload_n (pc := 272) dX11_branches_272 (List.Mem.tail _ (List.Mem.head _)) ?_
                      refine z_imul (pc := 273) dX11_branches_273 ?_
                      refine x_iload (pc := 274) dX11_branches_274 (List.Mem.tail _ (List.Mem.tail _ (List.Mem.tail _ (List.Mem.tail _ (List.Mem.tail _ (List.Mem.head _)))))) ?_
                      refine z_iadd (pc := 276) dX11_branches_276 ?_
                      have rmk : -2147483648 ≤ M k ∧ M k ≤ 2147483647 := by have z := okl3.1 6 k; rw [e6] at z; exact z
                      refine z_iald (pc := 277) (j := 42 * lv + k) (v := (M k)) dX11_branches_277 sh_7 (by omega) (by omega) (by decide) (by rw [wA1c (by omega)]; exact h47 k (by omega)) ?_
                      refine z_iast (pc := 278) (j := k) (v := ((M k))) dX11_branches_278 sh_6 rfl (by omega) (by decide) ?_
                      have ok6 := okI okl253 6 k (v := ((M k))) (by omega) (by omega)
                      refine z_iinc (pc := 279) dX11_branches_279 (List.Mem.tail _ (List.Mem.tail _ (List.Mem.tail _ (List.Mem.tail _ (List.Mem.tail _ (List.Mem.head _)))))) (Nat.le_of_ble_eq_true rfl) ?_
                      show Ev _ _ _ _ _ [(6, .int (zN ((k : Int) + 1))), (0, .ref 0), (1, .int (zN ((lv : Int)))), (2, .long (zL (w))), (4, .int (zN (c))), (5, .int (zN (((shr (H.1 2) M (H.1 0 21) (M 41).toNat)))))] _ _
                      refine x_goto (pc := 282) (tgt := 253) dX11_branches_282 (by decide) ?_
                      refine x_weaken (L1 := [(0, .ref 0), (1, .int (zN ((lv : Int)))), (2, .long (zL (w))), (4, .int (zN (c))), (5, .int (zN (((shr (H.1 2) M (H.1 0 21) (M 41).toNat))))), (6, .int (zN ((((k + 1) : Nat) : Int))))]) (List.forall_mem_cons.mpr ⟨(List.Mem.tail _ (List.Mem.head _)), (List.forall_mem_cons.mpr ⟨(List.Mem.tail _ (List.Mem.tail _ (List.Mem.head _))), (List.forall_mem_cons.mpr ⟨(List.Mem.tail _ (List.Mem.tail _ (List.Mem.tail _ (List.Mem.head _)))), (List.forall_mem_cons.mpr ⟨(List.Mem.tail _ (List.Mem.tail _ (List.Mem.tail _ (List.Mem.tail _ (List.Mem.head _))))), (List.forall_mem_cons.mpr ⟨(List.Mem.tail _ (List.Mem.tail _ (List.Mem.tail _ (List.Mem.tail _ (List.Mem.tail _ (List.Mem.head _)))))), (List.forall_mem_cons.mpr ⟨(mem_ci (by omega) (List.Mem.head _)), (fun _ h => absurd h List.not_mem_nil)⟩)⟩)⟩)⟩)⟩)⟩) ?_
                      have he7 : (wI (wA H4 6 (fun j => if j < k then M j else H4.1 6 j)) 6 k (((M k)))) = (wA H4 6 (fun j => if j < (k + 1) then M j else H4.1 6 j)) := wA_step H4 6 M k _ rfl
                      refine Ev_heq he7 ?_
                      have ok8 : okZ (wA H4 6 (fun j => if j < (k + 1) then M j else H4.1 6 j)) := by rw [← he7]; exact ok6
                      exact ih253 ((k + 1)) ok8 (by omega) (by omega)
                refine x_weaken (L1 := [(0, .ref 0), (1, .int (zN ((lv : Int)))), (2, .long (zL (w))), (4, .int (zN (c))), (5, .int (zN (((shr (H.1 2) M (H.1 0 21) (M 41).toNat))))), (6, .int (zN (((0 : Nat) : Int))))]) (List.forall_mem_cons.mpr ⟨(List.Mem.tail _ (List.Mem.head _)), (List.forall_mem_cons.mpr ⟨(List.Mem.tail _ (List.Mem.tail _ (List.Mem.head _))), (List.forall_mem_cons.mpr ⟨(List.Mem.tail _ (List.Mem.tail _ (List.Mem.tail _ (List.Mem.head _)))), (List.forall_mem_cons.mpr ⟨(List.Mem.tail _ (List.Mem.tail _ (List.Mem.tail _ (List.Mem.tail _ (List.Mem.head _))))), (List.forall_mem_cons.mpr ⟨(List.Mem.tail _ (List.Mem.tail _ (List.Mem.tail _ (List.Mem.tail _ (List.Mem.tail _ (List.Mem.head _)))))), (List.forall_mem_cons.mpr ⟨(mem_ci (by omega) (List.Mem.head _)), (fun _ h => absurd h List.not_mem_nil)⟩)⟩)⟩)⟩)⟩)⟩) ?_
                have he9 : H4 = (wA H4 6 (fun j => if j < 0 then M j else H4.1 6 j)) := wA_zero H4 6 M
                refine Ev_heq he9 ?_
                have ok10 : okZ (wA H4 6 (fun j => if j < 0 then M j else H4.1 6 j)) := by rw [← he9]; exact okH4
                exact lp253 (42 - 0 + 1) (0) ok10 (by omega) (Nat.lt_succ_self _)
              · skip
                refine x_aload_n (pc := 198) dX11_branches_198 (List.Mem.head _) ?_
                refine z_getR (pc := 199) (k := 19) (r := 7) dX11_branches_199 lf_X11_36 sh_0 rfl rf_0_19 ?_
                refine z_bipush (pc := 202) dX11_branches_202 bp_42 ?_
                refine x_iload_n (pc := 204) dX11_branches_204 (List.Mem.tail _ (List.Mem.head _)) ?_
                refine z_imul (pc := 205) dX11_branches_205 ?_
                refine x_iload (pc := 206) dX11_branches_206 (List.Mem.tail _ (List.Mem.tail _ (List.Mem.tail _ (List.Mem.tail _ (List.Mem.tail _ (List.Mem.head _)))))) ?_
                refine z_iadd (pc := 208) dX11_branches_208 ?_
                refine x_aload_n (pc := 209) dX11_branches_209 (List.Mem.head _) ?_
                refine z_getR (pc := 210) (k := 18) (r := 6) dX11_branches_210 lf_X11_33 sh_0 rfl rf_0_18 ?_
                refine x_iload (pc := 213) dX11_branches_213 (List.Mem.tail _ (List.Mem.tail _ (List.Mem.tail _ (List.Mem.tail _ (List.Mem.tail _ (List.Mem.head _)))))) ?_
                have rmk : -2147483648 ≤ M k ∧ M k ≤ 2147483647 := by have z := okl3.1 6 k; rw [e6] at z; exact z
                refine z_iald (pc := 215) (j := k) (v := (M k)) dX11_branches_215 sh_6 rfl (by omega) (by decide) (by rw [wA1c (by omega)]; exact congrFun e6 k) ?_
                refine z_iast (pc := 216) (j := 42 * lv + k) (v := ((M k))) dX11_branches_216 sh_7 (by omega) (by omega) (by decide) ?_
                have ok11 := okI okl191 7 (42 * lv + k) (v := ((M k))) (by omega) (by omega)
                refine z_iinc (pc := 217) dX11_branches_217 (List.Mem.tail _ (List.Mem.tail _ (List.Mem.tail _ (List.Mem.tail _ (List.Mem.tail _ (List.Mem.head _)))))) (Nat.le_of_ble_eq_true rfl) ?_
                show Ev _ _ _ _ _ [(6, .int (zN ((k : Int) + 1))), (0, .ref 0), (1, .int (zN ((lv : Int)))), (2, .long (zL (w))), (4, .int (zN (c))), (5, .int (zN (((shr (H.1 2) M (H.1 0 21) (M 41).toNat)))))] _ _
                refine x_goto (pc := 220) (tgt := 191) dX11_branches_220 (by decide) ?_
                refine x_weaken (L1 := [(0, .ref 0), (1, .int (zN ((lv : Int)))), (2, .long (zL (w))), (4, .int (zN (c))), (5, .int (zN (((shr (H.1 2) M (H.1 0 21) (M 41).toNat))))), (6, .int (zN ((((k + 1) : Nat) : Int))))]) (List.forall_mem_cons.mpr ⟨(List.Mem.tail _ (List.Mem.head _)), (List.forall_mem_cons.mpr ⟨(List.Mem.tail _ (List.Mem.tail _ (List.Mem.head _))), (List.forall_mem_cons.mpr ⟨(List.Mem.tail _ (List.Mem.tail _ (List.Mem.tail _ (List.Mem.head _)))), (List.forall_mem_cons.mpr ⟨(List.Mem.tail _ (List.Mem.tail _ (List.Mem.tail _ (List.Mem.tail _ (List.Mem.head _))))), (List.forall_mem_cons.mpr ⟨(List.Mem.tail _ (List.Mem.tail _ (List.Mem.tail _ (List.Mem.tail _ (List.Mem.tail _ (List.Mem.head _)))))), (List.forall_mem_cons.mpr ⟨(mem_ci (by omega) (List.Mem.head _)), (fun _ h => absurd h List.not_mem_nil)⟩)⟩)⟩)⟩)⟩)⟩) ?_
                have he12 : (wI (wA Hm 7 (fun j => if 42 * lv ≤ j ∧ j < 42 * lv + k then M (j - 42 * lv) else Hm.1 7 j)) 7 (42 * lv + k) (((M k)))) = (wA Hm 7 (fun j => if 42 * lv ≤ j ∧ j < 42 * lv + (k + 1) then M (j - 42 * lv) else Hm.1 7 j)) := wA_gen Hm 7 (42 * lv) M k _ rfl
                refine Ev_heq he12 ?_
                have ok13 : okZ (wA Hm 7 (fun j => if 42 * lv ≤ j ∧ j < 42 * lv + (k + 1) then M (j - 42 * lv) else Hm.1 7 j)) := by rw [← he12]; exact ok11
                exact ih191 ((k + 1)) ok13 (by omega) (by omega)
          refine x_weaken (L1 := [(0, .ref 0), (1, .int (zN ((lv : Int)))), (2, .long (zL (w))), (4, .int (zN (c))), (5, .int (zN (((shr (H.1 2) M (H.1 0 21) (M 41).toNat))))), (6, .int (zN (((0 : Nat) : Int))))]) (List.forall_mem_cons.mpr ⟨(List.Mem.tail _ (List.Mem.tail _ (List.Mem.head _))), (List.forall_mem_cons.mpr ⟨(List.Mem.tail _ (List.Mem.tail _ (List.Mem.tail _ (List.Mem.head _)))), (List.forall_mem_cons.mpr ⟨(List.Mem.tail _ (List.Mem.tail _ (List.Mem.tail _ (List.Mem.tail _ (List.Mem.head _))))), (List.forall_mem_cons.mpr ⟨(List.Mem.tail _ (List.Mem.tail _ (List.Mem.tail _ (List.Mem.tail _ (List.Mem.tail _ (List.Mem.head _)))))), (List.forall_mem_cons.mpr ⟨(List.Mem.tail _ (List.Mem.head _)), (List.forall_mem_cons.mpr ⟨(mem_ci (by omega) (List.Mem.head _)), (fun _ h => absurd h List.not_mem_nil)⟩)⟩)⟩)⟩)⟩)⟩) ?_
          have he14 : Hm = (wA Hm 7 (fun j => if 42 * lv ≤ j ∧ j < 42 * lv + 0 then M (j - 42 * lv) else Hm.1 7 j)) := wA_gen0 Hm 7 (42 * lv) M
          refine Ev_heq he14 ?_
          have ok15 : okZ (wA Hm 7 (fun j => if 42 * lv ≤ j ∧ j < 42 * lv + 0 then M (j - 42 * lv) else Hm.1 7 j)) := by rw [← he14]; exact okl3
          exact lp191 (42 - 0 + 1) (0) ok15 (by omega) (Nat.lt_succ_self _)
        · skip
          have hRe := fun g => Rch_e hR hb1 hf g w
          have vms := hR.1.1
          have a0 := hae.1 (M 37 - 1).toNat (by omega)
          have a3 := hae.1 3 (by omega)
          have a4 := hae.1 4 (by omega)
          have h2e := fr.1
          have m36 := nn2 (x := w) (y := M 36) (A := w) (B := 99) hw.1 (Int.le_refl _) wm36.1 wm36.2
          have m38 := nn2 (x := w) (y := M 38) (A := w) (B := 162) hw.1 (Int.le_refl _) wm38.1 wm38.2
          rw [← h2e] at a0 a3 a4
          refine x_aload_n (pc := 49) dX11_branches_49 (List.Mem.head _) ?_
          refine z_getR (pc := 50) (k := 27) (r := 11) dX11_branches_50 lf_X11_54 sh_0 rfl rf_0_27 ?_
          refine x_aload_n (pc := 53) dX11_branches_53 (List.Mem.head _) ?_
          refine z_getR (pc := 54) (k := 18) (r := 6) dX11_branches_54 lf_X11_33 sh_0 rfl rf_0_18 ?_
          refine z_bipush (pc := 57) dX11_branches_57 bp_37 ?_
          refine z_iald (pc := 59) (j := 37) (v := (M 37)) dX11_branches_59 sh_6 rfl (Nat.le_of_ble_eq_true rfl) (by decide) (congrFun e6 37) ?_
          refine z_iconst (pc := 60) dX11_branches_60 ?_
          refine z_isub (pc := 61) dX11_branches_61 ?_
          refine x_dup2 (pc := 62) dX11_branches_62 rfl rfl ?_
          have rd16 := okl3.2 11 ((M 37 - 1).toNat)
          refine z_lald (pc := 63) (j := (M 37 - 1).toNat) (v := Hm.2 11 ((M 37 - 1).toNat)) dX11_branches_63 sh_11 (by omega) (by omega) (by decide) rfl ?_
          refine x_lload_n (pc := 64) dX11_branches_64 (List.Mem.tail _ (List.Mem.tail _ (List.Mem.head _))) ?_
          refine z_ladd (pc := 65) dX11_branches_65 ?_
          refine z_last (pc := 66) (j := (M 37 - 1).toNat) (v := ((Hm.2 11 ((M 37 - 1).toNat)) + w)) dX11_branches_66 sh_11 (by omega) (by omega) (by decide) ?_
          have ok17 := okJ okl3 11 ((M 37 - 1).toNat) (v := ((Hm.2 11 ((M 37 - 1).toNat)) + w)) (by omega) (by omega)
          refine x_aload_n (pc := 67) dX11_branches_67 (List.Mem.head _) ?_
          refine z_getR (pc := 68) (k := 27) (r := 11) dX11_branches_68 lf_X11_54 sh_0 rfl rf_0_27 ?_
          refine z_iconst (pc := 71) dX11_branches_71 ?_
          refine x_dup2 (pc := 72) dX11_branches_72 rfl rfl ?_
          refine z_lald (pc := 73) (j := 3) (v := (Hm.2 11 3)) dX11_branches_73 sh_11 rfl (Nat.le_of_ble_eq_true rfl) (by decide) (by rw [wJ1k (by omega)]) ?_
          refine x_lload_n (pc := 74) dX11_branches_74 (List.Mem.tail _ (List.Mem.tail _ (List.Mem.head _))) ?_
          refine x_aload_n (pc := 75) dX11_branches_75 (List.Mem.head _) ?_
          refine z_getR (pc := 76) (k := 18) (r := 6) dX11_branches_76 lf_X11_33 sh_0 rfl rf_0_18 ?_
          refine z_bipush (pc := 79) dX11_branches_79 bp_36 ?_
          refine z_iald (pc := 81) (j := 36) (v := (M 36)) dX11_branches_81 sh_6 rfl (Nat.le_of_ble_eq_true rfl) (by decide) (congrFun e6 36) ?_
          refine z_i2l (pc := 82) dX11_branches_82 (by omega) (by omega) ?_
          refine z_lmul (pc := 83) dX11_branches_83 ?_
          refine z_ladd (pc := 84) dX11_branches_84 ?_
          refine z_last (pc := 85) (j := 3) (v := (((Hm.2 11 3)) + (w * ((M 36))))) dX11_branches_85 sh_11 rfl (Nat.le_of_ble_eq_true rfl) (by decide) ?_
          have ok18 := okJ ok17 11 3 (v := (((Hm.2 11 3)) + (w * ((M 36))))) (by omega) (by omega)
          refine x_aload_n (pc := 86) dX11_branches_86 (List.Mem.head _) ?_
          refine z_getR (pc := 87) (k := 27) (r := 11) dX11_branches_87 lf_X11_54 sh_0 rfl rf_0_27 ?_
          refine z_iconst (pc := 90) dX11_branches_90 ?_
          refine x_dup2 (pc := 91) dX11_branches_91 rfl rfl ?_
          refine z_lald (pc := 92) (j := 4) (v := (Hm.2 11 4)) dX11_branches_92 sh_11 rfl (Nat.le_of_ble_eq_true rfl) (by decide) (by rw [wJ1k (by omega), wJ1k (by omega)]) ?_
          refine x_lload_n (pc := 93) dX11_branches_93 (List.Mem.tail _ (List.Mem.tail _ (List.Mem.head _))) ?_
          refine x_aload_n (pc := 94) dX11_branches_94 (List.Mem.head _) ?_
          refine z_getR (pc := 95) (k := 18) (r := 6) dX11_branches_95 lf_X11_33 sh_0 rfl rf_0_18 ?_
          refine z_bipush (pc := 98) dX11_branches_98 bp_38 ?_
          refine z_iald (pc := 100) (j := 38) (v := (M 38)) dX11_branches_100 sh_6 rfl (Nat.le_of_ble_eq_true rfl) (by decide) (congrFun e6 38) ?_
          refine z_i2l (pc := 101) dX11_branches_101 (by omega) (by omega) ?_
          refine z_lmul (pc := 102) dX11_branches_102 ?_
          refine z_ladd (pc := 103) dX11_branches_103 ?_
          refine z_last (pc := 104) (j := 4) (v := (((Hm.2 11 4)) + (w * ((M 38))))) dX11_branches_104 sh_11 rfl (Nat.le_of_ble_eq_true rfl) (by decide) ?_
          have ok19 := okJ ok18 11 4 (v := (((Hm.2 11 4)) + (w * ((M 38))))) (by omega) (by omega)
          refine x_aload_n (pc := 105) dX11_branches_105 (List.Mem.head _) ?_
          refine z_getR (pc := 106) (k := 18) (r := 6) dX11_branches_106 lf_X11_33 sh_0 rfl rf_0_18 ?_
          refine z_bipush (pc := 109) dX11_branches_109 bp_39 ?_
          refine z_iald (pc := 111) (j := 39) (v := (M 39)) dX11_branches_111 sh_6 rfl (Nat.le_of_ble_eq_true rfl) (by decide) (congrFun e6 39) ?_
          refine z_iconst (pc := 112) dX11_branches_112 ?_
          refine z_icmp_eq (pc := 113) (tgt := 132) dX11_branches_113 (by decide) (by omega) (by omega) (by decide) (by decide) (fun hb20 => ?_) (fun hb20 => ?_)
          · skip
            have lf11 : ∀ j, j < 5 → (wJ (wJ (wJ Hm 11 ((M 37 - 1).toNat) (((Hm.2 11 ((M 37 - 1).toNat)) + w))) 11 3 ((((Hm.2 11 3)) + (w * ((M 36)))))) 11 4 ((((Hm.2 11 4)) + (w * ((M 38)))))).2 11 j = Hm.2 11 j + gK j M w := fun j hj => by
              rcases (show j = 3 ∨ j = 4 ∨ j = (M 37 - 1).toNat ∨ (j < 3 ∧ j ≠ (M 37 - 1).toNat) by omega) with q | q | q | q
              · subst q; (repeat first | rw [wJ1c (by omega)] | rw [wJ1k (by omega)] | rw [wJ1]); rfl
              · subst q; (repeat first | rw [wJ1c (by omega)] | rw [wJ1k (by omega)] | rw [wJ1]); rfl
              · subst q; (repeat first | rw [wJ1c (by omega)] | rw [wJ1k (by omega)] | rw [wJ1]); unfold gK; rw [if_neg (by omega), if_neg (by omega), if_pos (by omega)]
              · (repeat first | rw [wJ1c (by omega)] | rw [wJ1k (by omega)]); unfold gK; rw [if_neg (by omega), if_neg (by omega), if_neg (by omega), Int.add_zero]
            have lf12 : ∀ j, j < 8 → (wJ (wJ (wJ Hm 11 ((M 37 - 1).toNat) (((Hm.2 11 ((M 37 - 1).toNat)) + w))) 11 3 ((((Hm.2 11 3)) + (w * ((M 36)))))) 11 4 ((((Hm.2 11 4)) + (w * ((M 38)))))).2 12 j = Hm.2 12 j + gB j M w := fun j hj => by
              unfold gB
              by_cases q : M 39 = (j : Int)
              · rw [if_pos q]; first | (exfalso; omega) | (rw [show j = (M 39).toNat by omega, wJ1])
              · rw [if_neg q, Int.add_zero]; first | (rw [wJ1c (by omega), wJ1c (by omega), wJ1c (by omega)]; done) | (rw [wJ1k (by omega), wJ1c (by omega), wJ1c (by omega), wJ1c (by omega)])
            refine z_iconst (pc := 132) dX11_branches_132 ?_
            refine x_istore (pc := 133) dX11_branches_133 (Nat.le_of_ble_eq_true rfl) ?_
            show Ev _ _ _ _ _ [(5, .int (zN (0))), (0, .ref 0), (1, .int (zN ((lv : Int)))), (2, .long (zL (w))), (4, .int (zN (c)))] _ _
            have lp135 : ∀ (nF : Nat) (k : Nat) (Hl : ZH), okZ Hl → ((k : Int) ≤ H.1 2 1) → (Hl.1 = Hm.1) → (∀ cc j, ¬ (cc = 11 ∨ cc = 12 ∨ cc = 13) → Hl.2 cc j = Hm.2 cc j) → (∀ j, j < 5 → Hl.2 11 j = Hm.2 11 j + gK j M w) → (∀ j, j < 8 → Hl.2 12 j = Hm.2 12 j + gB j M w) → (∀ j, j < k → Hl.2 13 j = Hm.2 13 j + gS j M w) → (∀ j, k ≤ j → Hl.2 13 j = Hm.2 13 j) → (H.1 2 1).toNat - k < nF → Ev zX mX11_branches (EvC zX (d + 5)) (zPv (fun (H1 : ZH) => BrP H H1 lv f w)) 135 [(0, .ref 0), (1, .int (zN ((lv : Int)))), (2, .long (zL (w))), (4, .int (zN (c))), (5, .int (zN ((k : Int))))] [] (eh Hl) := by
              intro nF
              induction nF with
              | zero => intro k Hl okl135 hk l1 l2 l11 l12 l13 l13b hm; exact absurd hm (Nat.not_lt_zero _)
              | succ nF ih135 =>
                intro k Hl okl135 hk l1 l2 l11 l12 l13 l13b hm
                refine x_iload (pc := 135) dX11_branches_135 (List.Mem.tail _ (List.Mem.tail _ (List.Mem.tail _ (List.Mem.tail _ (List.Mem.head _))))) ?_
                refine x_aload_n (pc := 137) dX11_branches_137 (List.Mem.head _) ?_
                refine z_getR (pc := 138) (k := 2) (r := 2) dX11_branches_138 lf_X11_17 sh_0 rfl rf_0_2 ?_
                refine z_iconst (pc := 141) dX11_branches_141 ?_
                refine z_iald (pc := 142) (j := 1) (v := (H.1 2 1)) dX11_branches_142 sh_2 rfl (Nat.le_of_ble_eq_true rfl) (by decide) (by rw [l1, e2]) ?_
                refine z_icmp_ge (pc := 143) (tgt := 181) dX11_branches_143 (by decide) (by omega) (by omega) (by omega) (by omega) (fun hb21 => ?_) (fun hb21 => ?_)
                · skip
                  refine z_vreturn (pc := 181) dX11_branches_181 rfl okl135 ?_
                  refine ⟨⟨fun cc k h => by rw [l1]; exact fr.2 cc k (by omega), fun k h => by rw [l1]; exact fr.2 7 k (by omega), fun j hj => by rw [l1, e6]; exact hR.2.2.2.1 j hj, fun cc k h => by rw [l2 cc k h, fr.1]⟩, fun k hk5 => ?_, fun j hj => ?_, fun j hj => ?_, fun j hj => ?_⟩
                  · rw [hRe, l11 k hk5, h2e]
                  · rw [hRe, l12 j hj, h2e]
                  · rw [hRe, l13 j (by omega), h2e]
                  · rw [l13b j (by omega), h2e]
                · skip
                  have wmk := wmC k (by omega)
                  have ask_ := hae.2.2 k (by omega)
                  rw [← h2e] at ask_
                  refine x_aload_n (pc := 146) dX11_branches_146 (List.Mem.head _) ?_
                  refine z_getR (pc := 147) (k := 29) (r := 13) dX11_branches_147 lf_X11_61 sh_0 rfl rf_0_29 ?_
                  refine x_iload (pc := 150) dX11_branches_150 (List.Mem.tail _ (List.Mem.tail _ (List.Mem.tail _ (List.Mem.tail _ (List.Mem.head _))))) ?_
                  refine x_dup2 (pc := 152) dX11_branches_152 rfl rfl ?_
                  refine z_lald (pc := 153) (j := k) (v := (Hm.2 13 k)) dX11_branches_153 sh_13 rfl (by omega) (by decide) (l13b k (Nat.le_refl _)) ?_
                  refine x_aload_n (pc := 154) dX11_branches_154 (List.Mem.head _) ?_
                  refine z_getR (pc := 155) (k := 18) (r := 6) dX11_branches_155 lf_X11_33 sh_0 rfl rf_0_18 ?_
                  refine z_bipush (pc := 158) dX11_branches_158 bp_16 ?_
                  refine x_iload (pc := 160) dX11_branches_160 (List.Mem.tail _ (List.Mem.tail _ (List.Mem.tail _ (List.Mem.tail _ (List.Mem.head _))))) ?_
                  refine z_iadd (pc := 162) dX11_branches_162 ?_
                  refine z_iald (pc := 163) (j := 16 + k) (v := (M (16 + k))) dX11_branches_163 sh_6 (by omega) (by omega) (by decide) (by rw [l1, e6]) ?_
                  refine z_iconst (pc := 164) dX11_branches_164 ?_
                  refine z_icmp_ne (pc := 165) (tgt := 172) dX11_branches_165 (by decide) (by omega) (by omega) (by decide) (by decide) (fun hb22 => ?_) (fun hb22 => ?_)
                  · skip
                    have hgs : Hm.2 13 k + 0 = Hm.2 13 k + gS k M w := by unfold gS; rw [if_neg (by omega)]
                    refine z_lconst (pc := 172) 0 dX11_branches_172 rfl ?_
                    refine z_ladd (pc := 173) dX11_branches_173 ?_
                    refine z_last (pc := 174) (j := k) (v := (((Hm.2 13 k)) + 0)) dX11_branches_174 sh_13 rfl (by omega) (by decide) ?_
                    have ok23 := okJ okl135 13 k (v := (((Hm.2 13 k)) + 0)) (by omega) (by omega)
                    refine z_iinc (pc := 175) dX11_branches_175 (List.Mem.tail _ (List.Mem.tail _ (List.Mem.tail _ (List.Mem.tail _ (List.Mem.head _))))) (Nat.le_of_ble_eq_true rfl) ?_
                    show Ev _ _ _ _ _ [(5, .int (zN ((k : Int) + 1))), (0, .ref 0), (1, .int (zN ((lv : Int)))), (2, .long (zL (w))), (4, .int (zN (c)))] _ _
                    refine x_goto (pc := 178) (tgt := 135) dX11_branches_178 (by decide) ?_
                    refine x_weaken (L1 := [(0, .ref 0), (1, .int (zN ((lv : Int)))), (2, .long (zL (w))), (4, .int (zN (c))), (5, .int (zN ((((k + 1) : Nat) : Int))))]) (List.forall_mem_cons.mpr ⟨(List.Mem.tail _ (List.Mem.head _)), (List.forall_mem_cons.mpr ⟨(List.Mem.tail _ (List.Mem.tail _ (List.Mem.head _))), (List.forall_mem_cons.mpr ⟨(List.Mem.tail _ (List.Mem.tail _ (List.Mem.tail _ (List.Mem.head _)))), (List.forall_mem_cons.mpr ⟨(List.Mem.tail _ (List.Mem.tail _ (List.Mem.tail _ (List.Mem.tail _ (List.Mem.head _))))), (List.forall_mem_cons.mpr ⟨(mem_ci (by omega) (List.Mem.head _)), (fun _ h => absurd h List.not_mem_nil)⟩)⟩)⟩)⟩)⟩) ?_
                    exact ih135 ((k + 1)) (wJ Hl 13 k ((((Hm.2 13 k)) + 0))) ok23 (by omega) (l1) (fun cc j h => by rw [wJ1c (by omega)]; exact l2 cc j h) (fun j h => by rw [wJ1c (by omega)]; exact l11 j h) (fun j h => by rw [wJ1c (by omega)]; exact l12 j h) (fun j h => by rw [wJp]; exact if q : j = k then (if_pos q).trans (by rw [q]; exact hgs) else (if_neg q).trans (l13 j (by omega))) (fun j h => by rw [wJ1k (by omega)]; exact l13b j (by omega)) (by omega)
                  · skip
                    have hgs : Hm.2 13 k + w = Hm.2 13 k + gS k M w := by unfold gS; rw [if_pos (by omega)]
                    refine x_lload_n (pc := 168) dX11_branches_168 (List.Mem.tail _ (List.Mem.tail _ (List.Mem.head _))) ?_
                    refine x_goto (pc := 169) (tgt := 173) dX11_branches_169 (by decide) ?_
                    refine z_ladd (pc := 173) dX11_branches_173 ?_
                    refine z_last (pc := 174) (j := k) (v := (((Hm.2 13 k)) + w)) dX11_branches_174 sh_13 rfl (by omega) (by decide) ?_
                    have ok24 := okJ okl135 13 k (v := (((Hm.2 13 k)) + w)) (by omega) (by omega)
                    refine z_iinc (pc := 175) dX11_branches_175 (List.Mem.tail _ (List.Mem.tail _ (List.Mem.tail _ (List.Mem.tail _ (List.Mem.head _))))) (Nat.le_of_ble_eq_true rfl) ?_
                    show Ev _ _ _ _ _ [(5, .int (zN ((k : Int) + 1))), (0, .ref 0), (1, .int (zN ((lv : Int)))), (2, .long (zL (w))), (4, .int (zN (c)))] _ _
                    refine x_goto (pc := 178) (tgt := 135) dX11_branches_178 (by decide) ?_
                    refine x_weaken (L1 := [(0, .ref 0), (1, .int (zN ((lv : Int)))), (2, .long (zL (w))), (4, .int (zN (c))), (5, .int (zN ((((k + 1) : Nat) : Int))))]) (List.forall_mem_cons.mpr ⟨(List.Mem.tail _ (List.Mem.head _)), (List.forall_mem_cons.mpr ⟨(List.Mem.tail _ (List.Mem.tail _ (List.Mem.head _))), (List.forall_mem_cons.mpr ⟨(List.Mem.tail _ (List.Mem.tail _ (List.Mem.tail _ (List.Mem.head _)))), (List.forall_mem_cons.mpr ⟨(List.Mem.tail _ (List.Mem.tail _ (List.Mem.tail _ (List.Mem.tail _ (List.Mem.head _))))), (List.forall_mem_cons.mpr ⟨(mem_ci (by omega) (List.Mem.head _)), (fun _ h => absurd h List.not_mem_nil)⟩)⟩)⟩)⟩)⟩) ?_
                    exact ih135 ((k + 1)) (wJ Hl 13 k ((((Hm.2 13 k)) + w))) ok24 (by omega) (l1) (fun cc j h => by rw [wJ1c (by omega)]; exact l2 cc j h) (fun j h => by rw [wJ1c (by omega)]; exact l11 j h) (fun j h => by rw [wJ1c (by omega)]; exact l12 j h) (fun j h => by rw [wJp]; exact if q : j = k then (if_pos q).trans (by rw [q]; exact hgs) else (if_neg q).trans (l13 j (by omega))) (fun j h => by rw [wJ1k (by omega)]; exact l13b j (by omega)) (by omega)
            refine x_weaken (L1 := [(0, .ref 0), (1, .int (zN ((lv : Int)))), (2, .long (zL (w))), (4, .int (zN (c))), (5, .int (zN (((0 : Nat) : Int))))]) (List.forall_mem_cons.mpr ⟨(List.Mem.tail _ (List.Mem.head _)), (List.forall_mem_cons.mpr ⟨(List.Mem.tail _ (List.Mem.tail _ (List.Mem.head _))), (List.forall_mem_cons.mpr ⟨(List.Mem.tail _ (List.Mem.tail _ (List.Mem.tail _ (List.Mem.head _)))), (List.forall_mem_cons.mpr ⟨(List.Mem.tail _ (List.Mem.tail _ (List.Mem.tail _ (List.Mem.tail _ (List.Mem.head _))))), (List.forall_mem_cons.mpr ⟨(mem_ci (by omega) (List.Mem.head _)), (fun _ h => absurd h List.not_mem_nil)⟩)⟩)⟩)⟩)⟩) ?_
            exact lp135 ((H.1 2 1).toNat - 0 + 1) (0) (wJ (wJ (wJ Hm 11 ((M 37 - 1).toNat) (((Hm.2 11 ((M 37 - 1).toNat)) + w))) 11 3 ((((Hm.2 11 3)) + (w * ((M 36)))))) 11 4 ((((Hm.2 11 4)) + (w * ((M 38)))))) ok19 (by omega) (rfl) (fun cc j h => by (repeat rw [wJ1c (by omega)])) (lf11) (lf12) (fun j h => absurd h (Nat.not_lt_zero _)) (fun j h => by (repeat rw [wJ1c (by omega)])) (Nat.lt_succ_self _)
          · skip
            have ab := hae.2.1 (M 39).toNat (by omega)
            rw [← h2e] at ab
            refine x_aload_n (pc := 116) dX11_branches_116 (List.Mem.head _) ?_
            refine z_getR (pc := 117) (k := 28) (r := 12) dX11_branches_117 lf_X11_58 sh_0 rfl rf_0_28 ?_
            refine x_aload_n (pc := 120) dX11_branches_120 (List.Mem.head _) ?_
            refine z_getR (pc := 121) (k := 18) (r := 6) dX11_branches_121 lf_X11_33 sh_0 rfl rf_0_18 ?_
            refine z_bipush (pc := 124) dX11_branches_124 bp_39 ?_
            refine z_iald (pc := 126) (j := 39) (v := (M 39)) dX11_branches_126 sh_6 rfl (Nat.le_of_ble_eq_true rfl) (by decide) (congrFun e6 39) ?_
            refine x_dup2 (pc := 127) dX11_branches_127 rfl rfl ?_
            have rd25 := okl3.2 12 ((M 39).toNat)
            refine z_lald (pc := 128) (j := (M 39).toNat) (v := Hm.2 12 ((M 39).toNat)) dX11_branches_128 sh_12 (by omega) (by omega) (by decide) (by rw [wJ1c (by omega), wJ1c (by omega), wJ1c (by omega)]) ?_
            refine x_lload_n (pc := 129) dX11_branches_129 (List.Mem.tail _ (List.Mem.tail _ (List.Mem.head _))) ?_
            refine z_ladd (pc := 130) dX11_branches_130 ?_
            refine z_last (pc := 131) (j := (M 39).toNat) (v := ((Hm.2 12 ((M 39).toNat)) + w)) dX11_branches_131 sh_12 (by omega) (by omega) (by decide) ?_
            have ok26 := okJ ok19 12 ((M 39).toNat) (v := ((Hm.2 12 ((M 39).toNat)) + w)) (by omega) (by omega)
            have lf11 : ∀ j, j < 5 → (wJ (wJ (wJ (wJ Hm 11 ((M 37 - 1).toNat) (((Hm.2 11 ((M 37 - 1).toNat)) + w))) 11 3 ((((Hm.2 11 3)) + (w * ((M 36)))))) 11 4 ((((Hm.2 11 4)) + (w * ((M 38)))))) 12 ((M 39).toNat) (((Hm.2 12 ((M 39).toNat)) + w))).2 11 j = Hm.2 11 j + gK j M w := fun j hj => by
              rcases (show j = 3 ∨ j = 4 ∨ j = (M 37 - 1).toNat ∨ (j < 3 ∧ j ≠ (M 37 - 1).toNat) by omega) with q | q | q | q
              · subst q; (repeat first | rw [wJ1c (by omega)] | rw [wJ1k (by omega)] | rw [wJ1]); rfl
              · subst q; (repeat first | rw [wJ1c (by omega)] | rw [wJ1k (by omega)] | rw [wJ1]); rfl
              · subst q; (repeat first | rw [wJ1c (by omega)] | rw [wJ1k (by omega)] | rw [wJ1]); unfold gK; rw [if_neg (by omega), if_neg (by omega), if_pos (by omega)]
              · (repeat first | rw [wJ1c (by omega)] | rw [wJ1k (by omega)]); unfold gK; rw [if_neg (by omega), if_neg (by omega), if_neg (by omega), Int.add_zero]
            have lf12 : ∀ j, j < 8 → (wJ (wJ (wJ (wJ Hm 11 ((M 37 - 1).toNat) (((Hm.2 11 ((M 37 - 1).toNat)) + w))) 11 3 ((((Hm.2 11 3)) + (w * ((M 36)))))) 11 4 ((((Hm.2 11 4)) + (w * ((M 38)))))) 12 ((M 39).toNat) (((Hm.2 12 ((M 39).toNat)) + w))).2 12 j = Hm.2 12 j + gB j M w := fun j hj => by
              unfold gB
              by_cases q : M 39 = (j : Int)
              · rw [if_pos q]; first | (exfalso; omega) | (rw [show j = (M 39).toNat by omega, wJ1])
              · rw [if_neg q, Int.add_zero]; first | (rw [wJ1c (by omega), wJ1c (by omega), wJ1c (by omega)]; done) | (rw [wJ1k (by omega), wJ1c (by omega), wJ1c (by omega), wJ1c (by omega)])
            refine z_iconst (pc := 132) dX11_branches_132 ?_
            refine x_istore (pc := 133) dX11_branches_133 (Nat.le_of_ble_eq_true rfl) ?_
            show Ev _ _ _ _ _ [(5, .int (zN (0))), (0, .ref 0), (1, .int (zN ((lv : Int)))), (2, .long (zL (w))), (4, .int (zN (c)))] _ _
            have lp135 : ∀ (nF : Nat) (k : Nat) (Hl : ZH), okZ Hl → ((k : Int) ≤ H.1 2 1) → (Hl.1 = Hm.1) → (∀ cc j, ¬ (cc = 11 ∨ cc = 12 ∨ cc = 13) → Hl.2 cc j = Hm.2 cc j) → (∀ j, j < 5 → Hl.2 11 j = Hm.2 11 j + gK j M w) → (∀ j, j < 8 → Hl.2 12 j = Hm.2 12 j + gB j M w) → (∀ j, j < k → Hl.2 13 j = Hm.2 13 j + gS j M w) → (∀ j, k ≤ j → Hl.2 13 j = Hm.2 13 j) → (H.1 2 1).toNat - k < nF → Ev zX mX11_branches (EvC zX (d + 5)) (zPv (fun (H1 : ZH) => BrP H H1 lv f w)) 135 [(0, .ref 0), (1, .int (zN ((lv : Int)))), (2, .long (zL (w))), (4, .int (zN (c))), (5, .int (zN ((k : Int))))] [] (eh Hl) := by
              intro nF
              induction nF with
              | zero => intro k Hl okl135 hk l1 l2 l11 l12 l13 l13b hm; exact absurd hm (Nat.not_lt_zero _)
              | succ nF ih135 =>
                intro k Hl okl135 hk l1 l2 l11 l12 l13 l13b hm
                refine x_iload (pc := 135) dX11_branches_135 (List.Mem.tail _ (List.Mem.tail _ (List.Mem.tail _ (List.Mem.tail _ (List.Mem.head _))))) ?_
                refine x_aload_n (pc := 137) dX11_branches_137 (List.Mem.head _) ?_
                refine z_getR (pc := 138) (k := 2) (r := 2) dX11_branches_138 lf_X11_17 sh_0 rfl rf_0_2 ?_
                refine z_iconst (pc := 141) dX11_branches_141 ?_
                refine z_iald (pc := 142) (j := 1) (v := (H.1 2 1)) dX11_branches_142 sh_2 rfl (Nat.le_of_ble_eq_true rfl) (by decide) (by rw [l1, e2]) ?_
                refine z_icmp_ge (pc := 143) (tgt := 181) dX11_branches_143 (by decide) (by omega) (by omega) (by omega) (by omega) (fun hb27 => ?_) (fun hb27 => ?_)
                · skip
                  refine z_vreturn (pc := 181) dX11_branches_181 rfl okl135 ?_
                  refine ⟨⟨fun cc k h => by rw [l1]; exact fr.2 cc k (by omega), fun k h => by rw [l1]; exact fr.2 7 k (by omega), fun j hj => by rw [l1, e6]; exact hR.2.2.2.1 j hj, fun cc k h => by rw [l2 cc k h, fr.1]⟩, fun k hk5 => ?_, fun j hj => ?_, fun j hj => ?_, fun j hj => ?_⟩
                  · rw [hRe, l11 k hk5, h2e]
                  · rw [hRe, l12 j hj, h2e]
                  · rw [hRe, l13 j (by omega), h2e]
                  · rw [l13b j (by omega), h2e]
                · skip
                  have wmk := wmC k (by omega)
                  have ask_ := hae.2.2 k (by omega)
                  rw [← h2e] at ask_
                  refine x_aload_n (pc := 146) dX11_branches_146 (List.Mem.head _) ?_
                  refine z_getR (pc := 147) (k := 29) (r := 13) dX11_branches_147 lf_X11_61 sh_0 rfl rf_0_29 ?_
                  refine x_iload (pc := 150) dX11_branches_150 (List.Mem.tail _ (List.Mem.tail _ (List.Mem.tail _ (List.Mem.tail _ (List.Mem.head _))))) ?_
                  refine x_dup2 (pc := 152) dX11_branches_152 rfl rfl ?_
                  refine z_lald (pc := 153) (j := k) (v := (Hm.2 13 k)) dX11_branches_153 sh_13 rfl (by omega) (by decide) (l13b k (Nat.le_refl _)) ?_
                  refine x_aload_n (pc := 154) dX11_branches_154 (List.Mem.head _) ?_
                  refine z_getR (pc := 155) (k := 18) (r := 6) dX11_branches_155 lf_X11_33 sh_0 rfl rf_0_18 ?_
                  refine z_bipush (pc := 158) dX11_branches_158 bp_16 ?_
                  refine x_iload (pc := 160) dX11_branches_160 (List.Mem.tail _ (List.Mem.tail _ (List.Mem.tail _ (List.Mem.tail _ (List.Mem.head _))))) ?_
                  refine z_iadd (pc := 162) dX11_branches_162 ?_
                  refine z_iald (pc := 163) (j := 16 + k) (v := (M (16 + k))) dX11_branches_163 sh_6 (by omega) (by omega) (by decide) (by rw [l1, e6]) ?_
                  refine z_iconst (pc := 164) dX11_branches_164 ?_
                  refine z_icmp_ne (pc := 165) (tgt := 172) dX11_branches_165 (by decide) (by omega) (by omega) (by decide) (by decide) (fun hb28 => ?_) (fun hb28 => ?_)
                  · skip
                    have hgs : Hm.2 13 k + 0 = Hm.2 13 k + gS k M w := by unfold gS; rw [if_neg (by omega)]
                    refine z_lconst (pc := 172) 0 dX11_branches_172 rfl ?_
                    refine z_ladd (pc := 173) dX11_branches_173 ?_
                    refine z_last (pc := 174) (j := k) (v := (((Hm.2 13 k)) + 0)) dX11_branches_174 sh_13 rfl (by omega) (by decide) ?_
                    have ok29 := okJ okl135 13 k (v := (((Hm.2 13 k)) + 0)) (by omega) (by omega)
                    refine z_iinc (pc := 175) dX11_branches_175 (List.Mem.tail _ (List.Mem.tail _ (List.Mem.tail _ (List.Mem.tail _ (List.Mem.head _))))) (Nat.le_of_ble_eq_true rfl) ?_
                    show Ev _ _ _ _ _ [(5, .int (zN ((k : Int) + 1))), (0, .ref 0), (1, .int (zN ((lv : Int)))), (2, .long (zL (w))), (4, .int (zN (c)))] _ _
                    refine x_goto (pc := 178) (tgt := 135) dX11_branches_178 (by decide) ?_
                    refine x_weaken (L1 := [(0, .ref 0), (1, .int (zN ((lv : Int)))), (2, .long (zL (w))), (4, .int (zN (c))), (5, .int (zN ((((k + 1) : Nat) : Int))))]) (List.forall_mem_cons.mpr ⟨(List.Mem.tail _ (List.Mem.head _)), (List.forall_mem_cons.mpr ⟨(List.Mem.tail _ (List.Mem.tail _ (List.Mem.head _))), (List.forall_mem_cons.mpr ⟨(List.Mem.tail _ (List.Mem.tail _ (List.Mem.tail _ (List.Mem.head _)))), (List.forall_mem_cons.mpr ⟨(List.Mem.tail _ (List.Mem.tail _ (List.Mem.tail _ (List.Mem.tail _ (List.Mem.head _))))), (List.forall_mem_cons.mpr ⟨(mem_ci (by omega) (List.Mem.head _)), (fun _ h => absurd h List.not_mem_nil)⟩)⟩)⟩)⟩)⟩) ?_
                    exact ih135 ((k + 1)) (wJ Hl 13 k ((((Hm.2 13 k)) + 0))) ok29 (by omega) (l1) (fun cc j h => by rw [wJ1c (by omega)]; exact l2 cc j h) (fun j h => by rw [wJ1c (by omega)]; exact l11 j h) (fun j h => by rw [wJ1c (by omega)]; exact l12 j h) (fun j h => by rw [wJp]; exact if q : j = k then (if_pos q).trans (by rw [q]; exact hgs) else (if_neg q).trans (l13 j (by omega))) (fun j h => by rw [wJ1k (by omega)]; exact l13b j (by omega)) (by omega)
                  · skip
                    have hgs : Hm.2 13 k + w = Hm.2 13 k + gS k M w := by unfold gS; rw [if_pos (by omega)]
                    refine x_lload_n (pc := 168) dX11_branches_168 (List.Mem.tail _ (List.Mem.tail _ (List.Mem.head _))) ?_
                    refine x_goto (pc := 169) (tgt := 173) dX11_branches_169 (by decide) ?_
                    refine z_ladd (pc := 173) dX11_branches_173 ?_
                    refine z_last (pc := 174) (j := k) (v := (((Hm.2 13 k)) + w)) dX11_branches_174 sh_13 rfl (by omega) (by decide) ?_
                    have ok30 := okJ okl135 13 k (v := (((Hm.2 13 k)) + w)) (by omega) (by omega)
                    refine z_iinc (pc := 175) dX11_branches_175 (List.Mem.tail _ (List.Mem.tail _ (List.Mem.tail _ (List.Mem.tail _ (List.Mem.head _))))) (Nat.le_of_ble_eq_true rfl) ?_
                    show Ev _ _ _ _ _ [(5, .int (zN ((k : Int) + 1))), (0, .ref 0), (1, .int (zN ((lv : Int)))), (2, .long (zL (w))), (4, .int (zN (c)))] _ _
                    refine x_goto (pc := 178) (tgt := 135) dX11_branches_178 (by decide) ?_
                    refine x_weaken (L1 := [(0, .ref 0), (1, .int (zN ((lv : Int)))), (2, .long (zL (w))), (4, .int (zN (c))), (5, .int (zN ((((k + 1) : Nat) : Int))))]) (List.forall_mem_cons.mpr ⟨(List.Mem.tail _ (List.Mem.head _)), (List.forall_mem_cons.mpr ⟨(List.Mem.tail _ (List.Mem.tail _ (List.Mem.head _))), (List.forall_mem_cons.mpr ⟨(List.Mem.tail _ (List.Mem.tail _ (List.Mem.tail _ (List.Mem.head _)))), (List.forall_mem_cons.mpr ⟨(List.Mem.tail _ (List.Mem.tail _ (List.Mem.tail _ (List.Mem.tail _ (List.Mem.head _))))), (List.forall_mem_cons.mpr ⟨(mem_ci (by omega) (List.Mem.head _)), (fun _ h => absurd h List.not_mem_nil)⟩)⟩)⟩)⟩)⟩) ?_
                    exact ih135 ((k + 1)) (wJ Hl 13 k ((((Hm.2 13 k)) + w))) ok30 (by omega) (l1) (fun cc j h => by rw [wJ1c (by omega)]; exact l2 cc j h) (fun j h => by rw [wJ1c (by omega)]; exact l11 j h) (fun j h => by rw [wJ1c (by omega)]; exact l12 j h) (fun j h => by rw [wJp]; exact if q : j = k then (if_pos q).trans (by rw [q]; exact hgs) else (if_neg q).trans (l13 j (by omega))) (fun j h => by rw [wJ1k (by omega)]; exact l13b j (by omega)) (by omega)
            refine x_weaken (L1 := [(0, .ref 0), (1, .int (zN ((lv : Int)))), (2, .long (zL (w))), (4, .int (zN (c))), (5, .int (zN (((0 : Nat) : Int))))]) (List.forall_mem_cons.mpr ⟨(List.Mem.tail _ (List.Mem.head _)), (List.forall_mem_cons.mpr ⟨(List.Mem.tail _ (List.Mem.tail _ (List.Mem.head _))), (List.forall_mem_cons.mpr ⟨(List.Mem.tail _ (List.Mem.tail _ (List.Mem.tail _ (List.Mem.head _)))), (List.forall_mem_cons.mpr ⟨(List.Mem.tail _ (List.Mem.tail _ (List.Mem.tail _ (List.Mem.tail _ (List.Mem.head _))))), (List.forall_mem_cons.mpr ⟨(mem_ci (by omega) (List.Mem.head _)), (fun _ h => absurd h List.not_mem_nil)⟩)⟩)⟩)⟩)⟩) ?_
            exact lp135 ((H.1 2 1).toNat - 0 + 1) (0) (wJ (wJ (wJ (wJ Hm 11 ((M 37 - 1).toNat) (((Hm.2 11 ((M 37 - 1).toNat)) + w))) 11 3 ((((Hm.2 11 3)) + (w * ((M 36)))))) 11 4 ((((Hm.2 11 4)) + (w * ((M 38)))))) 12 ((M 39).toNat) (((Hm.2 12 ((M 39).toNat)) + w))) ok26 (by omega) (rfl) (fun cc j h => by (repeat rw [wJ1c (by omega)])) (lf11) (lf12) (fun j h => absurd h (Nat.not_lt_zero _)) (fun j h => by (repeat rw [wJ1c (by omega)])) (Nat.lt_succ_self _)
      refine z_getR (pc := 4) (k := 18) (r := 6) dX11_branches_4 lf_X11_33 sh_0 rfl rf_0_18 ?_
      refine z_bipush (pc := 7) dX11_branches_7 bp_37 ?_
      refine z_iald (pc := 9) (j := 37) (v := (M 37)) dX11_branches_9 sh_6 rfl (Nat.le_of_ble_eq_true rfl) (by decide) (congrFun e6 37) ?_
      refine z_if_ne (pc := 10) (tgt := 39) dX11_branches_10 (by decide) (by omega) (by omega) (fun hb31 => ?_) (fun hb31 => ?_)
      · skip
        refine x_weaken (L1 := [(0, .ref 0), (1, .int (zN ((lv : Int)))), (2, .long (zL (w))), (4, .int (zN (c)))]) (List.forall_mem_cons.mpr ⟨(List.Mem.head _), (List.forall_mem_cons.mpr ⟨(List.Mem.tail _ (List.Mem.head _)), (List.forall_mem_cons.mpr ⟨(List.Mem.tail _ (List.Mem.tail _ (List.Mem.head _))), (List.forall_mem_cons.mpr ⟨(List.Mem.tail _ (List.Mem.tail _ (List.Mem.tail _ (List.Mem.head _)))), (fun _ h => absurd h List.not_mem_nil)⟩)⟩)⟩)⟩) ?_
        exact jn39  (by first | exact Or.inl (by omega) | exact Or.inr (hc.resolve_left (by omega)))
      · skip
        refine x_iload (pc := 13) dX11_branches_13 (List.Mem.tail _ (List.Mem.tail _ (List.Mem.tail _ (List.Mem.head _)))) ?_
        refine z_iconst (pc := 15) dX11_branches_15 ?_
        refine z_icmp_ne (pc := 16) (tgt := 39) dX11_branches_16 (by decide) (by omega) (by omega) (by decide) (by decide) (fun hb32 => ?_) (fun hb32 => ?_)
        · skip
          refine x_weaken (L1 := [(0, .ref 0), (1, .int (zN ((lv : Int)))), (2, .long (zL (w))), (4, .int (zN (c)))]) (List.forall_mem_cons.mpr ⟨(List.Mem.head _), (List.forall_mem_cons.mpr ⟨(List.Mem.tail _ (List.Mem.head _)), (List.forall_mem_cons.mpr ⟨(List.Mem.tail _ (List.Mem.tail _ (List.Mem.head _))), (List.forall_mem_cons.mpr ⟨(List.Mem.tail _ (List.Mem.tail _ (List.Mem.tail _ (List.Mem.head _)))), (fun _ h => absurd h List.not_mem_nil)⟩)⟩)⟩)⟩) ?_
          exact jn39  (by first | exact Or.inl (by omega) | exact Or.inr (hc.resolve_left (by omega)))
        · skip
          refine x_aload_n (pc := 19) dX11_branches_19 (List.Mem.head _) ?_
          refine z_iconst (pc := 20) dX11_branches_20 ?_
          refine z_callVi (pc := 21) (i := mX11_decides) (S := []) [.int (zN (0))] dX11_branches_21 ml_X11_268 ok_X11_decides rfl sh_0 rfl (Or.inl rfl) (Nat.le_of_ble_eq_true rfl) (c_X11_decides_0 (d := d) (ok := okl3) (ws := (show WFS (Hm.1 2) by rw [e2]; exact ws)) (wl := (show WFL (Hm.1 2) by rw [e2]; exact wl)) (wt := (show WFT (Hm.1 2) (Hm.1 6) by rw [e2, e6]; exact hR.1)) (he := (show Hm.1 6 37 = 0 by rw [e6]; omega))) ?_
          intro r33 H2 r33a r33b ok34 hp35
          obtain ⟨M1, f1, hR10, h371, hor⟩ := hp35
          rw [e2, e21, e6] at hR10
          rw [e2, e21] at hor
          have hR1 : Rch (H.1 2) (H.1 0 21) (H.1 6) M1 := Rch_tr hR hR10
          have rk1 := hR10.2.2.1
          refine x_istore (pc := 24) dX11_branches_24 (Nat.le_of_ble_eq_true rfl) ?_
          show Ev _ _ _ _ _ [(4, .int (zN (r33))), (0, .ref 0), (1, .int (zN ((lv : Int)))), (2, .long (zL (w)))] _ _
          refine x_iload (pc := 26) dX11_branches_26 (List.Mem.head _) ?_
          refine z_iconst (pc := 28) dX11_branches_28 ?_
          refine z_icmp_ne (pc := 29) (tgt := 3) dX11_branches_29 (by decide) (by omega) (by omega) (by decide) (by decide) (fun hb36 => ?_) (fun hb36 => ?_)
          · skip
            obtain ⟨er, x41, hrt, eH2⟩ := hor.resolve_left (fun z => hb36 z.1)
            have fr3 : FrR H H2 := by rw [eH2]; exact FrR_23 (FrR_68 fr)
            have e63 : H2.1 6 = M1 := by rw [eH2, wIf (by omega)]; exact (w68_7 _ _ _).1
            have hR3 := hR1
            have hc3 : r33 = -1 ∨ (r33 = M1 41 ∧ M1 37 = 0 ∧ M1 41 < H.1 2 1 ∧ rnd (H.1 2) (H.1 0 21) M1 = true ∧ H2.1 0 23 = shr (H.1 2) M1 (H.1 0 21) (M1 41).toNat) := Or.inr ⟨er, h371, x41, hrt, by rw [eH2, wI1]⟩
            refine x_weaken (L1 := [(0, .ref 0), (1, .int (zN ((lv : Int)))), (2, .long (zL (w))), (4, .int (zN (r33)))]) (List.forall_mem_cons.mpr ⟨(List.Mem.tail _ (List.Mem.head _)), (List.forall_mem_cons.mpr ⟨(List.Mem.tail _ (List.Mem.tail _ (List.Mem.head _))), (List.forall_mem_cons.mpr ⟨(List.Mem.tail _ (List.Mem.tail _ (List.Mem.tail _ (List.Mem.head _)))), (List.forall_mem_cons.mpr ⟨(List.Mem.head _), (fun _ h => absurd h List.not_mem_nil)⟩)⟩)⟩)⟩) ?_
            exact ih3 (M1) (r33) H2 ok34 (fr3) (e63) (hR3) (hc3) (by have mz := hm; rw [if_pos (by omega)] at mz; first | (rw [if_neg (by omega)]; omega) | (have := rt3.2; rw [if_pos (by omega)]; omega))
          · skip
            obtain ⟨er, x41, eH2⟩ := hor.resolve_right (fun z => by have := z.1; have := hR1.1.2.2.1; omega)
            have fr2 : FrR H H2 := by rw [eH2]; exact FrR_68 fr
            have x6 : H2.1 6 = M1 := by rw [eH2]; exact (w68_7 _ _ _).1
            have x2 := FrR_2 fr2
            refine x_aload_n (pc := 32) dX11_branches_32 (List.Mem.tail _ (List.Mem.head _)) ?_
            refine z_callVv (pc := 33) (i := mX11_ticks) (S := []) [] dX11_branches_33 ml_X11_272 ok_X11_ticks rfl sh_0 rfl rfl (Nat.le_of_ble_eq_true rfl) (c_X11_ticks (d := d + 1) (ok := ok34) (ws := (show WFS (H2.1 2) by rw [x2]; exact ws)) (wn := (show WFN (H2.1 2) (H2.1 6) by rw [x2, x6]; exact hR1.1.1)) (wx := (show WFX (H2.1 2) (H2.1 6) by rw [x2, x6]; exact hR1.1.2.1)) (he := (show H2.1 6 37 = 0 by rw [x6]; exact h371))) ?_
            intro H3 ok38 hp39
            obtain ⟨fc3, e630⟩ := hp39
            rw [x2, x6] at e630
            have fr3 := FrR_C fr2 fc3
            have e63 := e630
            have rt3 := Rch_t ws1 ws0 hR1 h371 x41
            have hR3 := rt3.1
            have hc3 : r33 = -1 ∨ (r33 = tickF (H.1 2) M1 41 ∧ tickF (H.1 2) M1 37 = 0 ∧ tickF (H.1 2) M1 41 < H.1 2 1 ∧ rnd (H.1 2) (H.1 0 21) (tickF (H.1 2) M1) = true ∧ H3.1 0 23 = shr (H.1 2) (tickF (H.1 2) M1) (H.1 0 21) (tickF (H.1 2) M1 41).toNat) := Or.inl (by omega)
            refine x_goto (pc := 36) (tgt := 3) dX11_branches_36 (by decide) ?_
            refine x_weaken (L1 := [(0, .ref 0), (1, .int (zN ((lv : Int)))), (2, .long (zL (w))), (4, .int (zN (r33)))]) (List.forall_mem_cons.mpr ⟨(List.Mem.tail _ (List.Mem.head _)), (List.forall_mem_cons.mpr ⟨(List.Mem.tail _ (List.Mem.tail _ (List.Mem.head _))), (List.forall_mem_cons.mpr ⟨(List.Mem.tail _ (List.Mem.tail _ (List.Mem.tail _ (List.Mem.head _)))), (List.forall_mem_cons.mpr ⟨(List.Mem.head _), (fun _ h => absurd h List.not_mem_nil)⟩)⟩)⟩)⟩) ?_
            exact ih3 ((tickF (H.1 2) M1)) (r33) H3 ok38 (fr3) (e63) (hR3) (hc3) (by have mz := hm; rw [if_pos (by omega)] at mz; first | (rw [if_neg (by omega)]; omega) | (have := rt3.2; rw [if_pos (by omega)]; omega))
  refine x_weaken (L1 := [(0, .ref 0), (1, .int (zN ((lv : Int)))), (2, .long (zL (w))), (4, .int (zN ((-1))))]) (List.forall_mem_cons.mpr ⟨(List.Mem.tail _ (List.Mem.head _)), (List.forall_mem_cons.mpr ⟨(List.Mem.tail _ (List.Mem.tail _ (List.Mem.head _))), (List.forall_mem_cons.mpr ⟨(List.Mem.tail _ (List.Mem.tail _ (List.Mem.tail _ (List.Mem.head _)))), (List.forall_mem_cons.mpr ⟨(List.Mem.head _), (fun _ h => absurd h List.not_mem_nil)⟩)⟩)⟩)⟩) ?_
  exact lp3 ((if (-1) = -1 then rkN (H.1 2) (H.1 6) + 1 else 0) + 1) ((H.1 6)) ((-1)) H ok (⟨rfl, fun _ _ _ => rfl⟩) (rfl) (Rch_0 wt) (Or.inl rfl) (Nat.lt_succ_self _)
