/-! GROUP G4: a TEST of the reference. -/
theorem wI_wA (H : ZH) (c k : Nat) (f : Nat → Int) (v : Int) : wI (wA H c f) c k v = wA H c (fun j => if j = k then v else f j) := by
  unfold wI wA
  refine Prod.ext ?_ rfl
  funext c' k'
  show (if c' = c ∧ k' = k then v else if c' = c then f k' else H.1 c' k') = if c' = c then (if k' = k then v else f k') else H.1 c' k'
  by_cases h1 : c' = c
  · by_cases h2 : k' = k
    · rw [if_pos ⟨h1, h2⟩, if_pos h1, if_pos h2]
    · rw [if_neg (fun q => h2 q.2), if_pos h1, if_pos h1, if_neg h2]
  · rw [if_neg (fun q => h1 q.1), if_neg h1, if_neg h1]
theorem wA_wA (H : ZH) (c : Nat) (f g : Nat → Int) : wA (wA H c f) c g = wA H c g := by
  unfold wA
  refine Prod.ext ?_ rfl
  funext c' k'
  show (if c' = c then g k' else if c' = c then f k' else H.1 c' k') = if c' = c then g k' else H.1 c' k'
  split <;> rfl
def tso (A N : Nat → Int) (l c : Nat) : Bool := match rrun A N c (A (53 + l)).toNat (A (65 + l) - A (53 + l)).toNat with | b :: _ => b | [] => false
theorem len1 {st : List Bool} (h : 1 ≤ (st.length : Int)) : ∃ b t, st = b :: t := by
  cases st with
  | nil => simp at h
  | cons b t => exact ⟨b, t, rfl⟩
theorem len2 {st : List Bool} (h : 2 ≤ (st.length : Int)) : ∃ b a t, st = b :: a :: t := by
  match st, h with
  | [], h => simp at h
  | [b], h => simp at h
  | b :: a :: t, _ => exact ⟨b, a, t, rfl⟩
theorem b01 (b : Bool) : 0 ≤ (if b = true then (1 : Int) else 0) ∧ (if b = true then (1 : Int) else 0) ≤ 1 := by cases b <;> decide

theorem c_X11_isSo {d : Nat} {H : ZH} (ok : okZ H) {l c : Nat} (hl : (l : Int) < H.1 2 40) (hc : (c : Int) < H.1 2 1) (ws : WFS (H.1 2)) (wn : WFN (H.1 2) (H.1 6)) (wl : WFL (H.1 2)) : EvC zX (d + 3) mX11_isSo [.ref 0, .int (zN ((l : Int))), .int (zN ((c : Int)))] (eh H) (zPi (fun (r : Int) (H1 : ZH) => r = (if tso (H.1 2) (H.1 6) l c = true then 1 else 0) ∧ ∃ f, H1 = wA H 8 f)) := by
  show _ ∧ Ev zX mX11_isSo (EvC zX (d + 2)) (zPi (fun (r : Int) (H1 : ZH) => r = (if tso (H.1 2) (H.1 6) l c = true then 1 else 0) ∧ ∃ f, H1 = wA H 8 f)) 0 [(0, .ref 0), (1, .int (zN ((l : Int)))), (2, .int (zN ((c : Int))))] [] (eh H)
  refine ⟨Nat.le_of_ble_eq_true rfl, ?_⟩
  have wlx := wl
  obtain ⟨wl40, wlL⟩ := wlx
  obtain ⟨wlS, wlF, wlP, wlD, wlN⟩ := wlL l hl
  refine z_iconst (pc := 0) dX11_isSo_0 ?_
  refine x_istore_n (pc := 1) dX11_isSo_1 (Nat.le_of_ble_eq_true rfl) ?_
  show Ev _ _ _ _ _ [(3, .int (zN (0))), (0, .ref 0), (1, .int (zN ((l : Int)))), (2, .int (zN ((c : Int))))] _ _
  refine x_aload_n (pc := 2) dX11_isSo_2 (List.Mem.tail _ (List.Mem.head _)) ?_
  refine z_getR (pc := 3) (k := 2) (r := 2) dX11_isSo_3 lf_X11_17 sh_0 rfl rf_0_2 ?_
  refine z_bipush (pc := 6) dX11_isSo_6 bp_53 ?_
  refine x_iload_n (pc := 8) dX11_isSo_8 (List.Mem.tail _ (List.Mem.tail _ (List.Mem.head _))) ?_
  refine z_iadd (pc := 9) dX11_isSo_9 ?_
  have rd1 := ok.1 2 (53 + l)
  refine z_iald (pc := 10) (j := 53 + l) (v := H.1 2 (53 + l)) dX11_isSo_10 sh_2 (by omega) (by omega) (by decide) rfl ?_
  refine x_istore (pc := 11) dX11_isSo_11 (Nat.le_of_ble_eq_true rfl) ?_
  show Ev _ _ _ _ _ [(4, .int (zN ((H.1 2 (53 + l))))), (3, .int (zN (0))), (0, .ref 0), (1, .int (zN ((l : Int)))), (2, .int (zN ((c : Int))))] _ _
  have lp13 : ∀ (nF : Nat) (n : Nat) (f : Nat → Int), okZ (wA H 8 (f)) → (n ≤ (H.1 2 (65 + l) - H.1 2 (53 + l)).toNat) → (PileIs f (rrun (H.1 2) (H.1 6) c (H.1 2 (53 + l)).toNat n)) → (H.1 2 (65 + l) - H.1 2 (53 + l)).toNat - n < nF → Ev zX mX11_isSo (EvC zX (d + 2)) (zPi (fun (r : Int) (H1 : ZH) => r = (if tso (H.1 2) (H.1 6) l c = true then 1 else 0) ∧ ∃ f, H1 = wA H 8 f)) 13 [(0, .ref 0), (1, .int (zN ((l : Int)))), (2, .int (zN ((c : Int)))), (3, .int (zN ((((rrun (H.1 2) (H.1 6) c (H.1 2 (53 + l)).toNat n).length : Nat) : Int)))), (4, .int (zN ((((H.1 2 (53 + l)).toNat + n : Nat) : Int))))] [] (eh (wA H 8 (f))) := by
    intro nF
    induction nF with
    | zero => intro n f okl13 hn hp hm; exact absurd hm (Nat.not_lt_zero _)
    | succ nF ih13 =>
      intro n f okl13 hn hp hm
      have hlen : (((rrun (H.1 2) (H.1 6) c (H.1 2 (53 + l)).toNat n).length : Nat) : Int) = rdep (H.1 2) (H.1 2 (53 + l)).toNat n := rrun_len (fun m hm => ⟨(wlN m (by omega)).2.1, (wlN m (by omega)).2.2.1⟩)
      have hl30 : (((rrun (H.1 2) (H.1 6) c (H.1 2 (53 + l)).toNat n).length : Nat) : Int) ≤ 31 ∧ (n < (H.1 2 (65 + l) - H.1 2 (53 + l)).toNat → (((rrun (H.1 2) (H.1 6) c (H.1 2 (53 + l)).toNat n).length : Nat) : Int) ≤ 30) := by
        rcases Nat.lt_or_ge n (H.1 2 (65 + l) - H.1 2 (53 + l)).toNat with z | z
        · have := (wlN n (by omega)).1; omega
        · rw [show n = (H.1 2 (65 + l) - H.1 2 (53 + l)).toNat by omega] at hlen ⊢; omega
      refine x_iload (pc := 13) dX11_isSo_13 (List.Mem.tail _ (List.Mem.tail _ (List.Mem.tail _ (List.Mem.tail _ (List.Mem.head _))))) ?_
      refine x_aload_n (pc := 15) dX11_isSo_15 (List.Mem.head _) ?_
      refine z_getR (pc := 16) (k := 2) (r := 2) dX11_isSo_16 lf_X11_17 sh_0 rfl rf_0_2 ?_
      refine z_bipush (pc := 19) dX11_isSo_19 bp_65 ?_
      refine x_iload_n (pc := 21) dX11_isSo_21 (List.Mem.tail _ (List.Mem.head _)) ?_
      refine z_iadd (pc := 22) dX11_isSo_22 ?_
      have rd2 := ok.1 2 (65 + l)
      refine z_iald (pc := 23) (j := 65 + l) (v := H.1 2 (65 + l)) dX11_isSo_23 sh_2 (by omega) (by omega) (by decide) (by rw [wA1c (by omega)]) ?_
      refine z_icmp_ge (pc := 24) (tgt := 199) dX11_isSo_24 (by decide) (by omega) (by omega) (by omega) (by omega) (fun hb3 => ?_) (fun hb3 => ?_)
      · skip
        have en : n = (H.1 2 (65 + l) - H.1 2 (53 + l)).toNat := by omega
        obtain ⟨b, t, est⟩ := len1 (st := (rrun (H.1 2) (H.1 6) c (H.1 2 (53 + l)).toNat n)) (by rw [hlen, en]; omega)
        have el : (rrun (H.1 2) (H.1 6) c (H.1 2 (53 + l)).toNat n).length = t.length + 1 := by rw [est]; rfl
        have et : t.length = 0 := by rw [en] at hlen el; omega
        rw [est] at hp
        have ets : tso (H.1 2) (H.1 6) l c = b := by unfold tso; rw [← en, est]
        have hend : f 0 = (if tso (H.1 2) (H.1 6) l c = true then 1 else 0) := by rw [ets, ← et]; exact hp.1
        have bbt := b01 (tso (H.1 2) (H.1 6) l c)
        refine x_aload_n (pc := 199) dX11_isSo_199 (List.Mem.head _) ?_
        refine z_getR (pc := 200) (k := 20) (r := 8) dX11_isSo_200 lf_X11_39 sh_0 rfl rf_0_20 ?_
        refine z_iconst (pc := 203) dX11_isSo_203 ?_
        refine z_zald (pc := 204) (j := 0) (v := (if tso (H.1 2) (H.1 6) l c = true then 1 else 0)) dX11_isSo_204 sh_8 rfl (Nat.le_of_ble_eq_true rfl) (by decide) (by rw [wA1]; exact hend) ?_
        refine z_ireturn (pc := 205) dX11_isSo_205 rfl (Or.inr ⟨rfl, by omega⟩) okl13 (by omega) (by omega) ?_
        exact ⟨rfl, f, rfl⟩
      · skip
        obtain ⟨wn1, wn2, wn3, wn4, wn5⟩ := wlN n (by omega)
        have nx : rrun (H.1 2) (H.1 6) c (H.1 2 (53 + l)).toNat (n + 1) = rstep (H.1 2) (H.1 6) c ((H.1 2 (53 + l)).toNat + n) (rrun (H.1 2) (H.1 6) c (H.1 2 (53 + l)).toNat n) := rfl
        refine x_aload_n (pc := 27) dX11_isSo_27 (List.Mem.head _) ?_
        refine z_getR (pc := 28) (k := 2) (r := 2) dX11_isSo_28 lf_X11_17 sh_0 rfl rf_0_2 ?_
        refine z_bipush (pc := 31) dX11_isSo_31 bp_77 ?_
        refine z_iconst (pc := 33) dX11_isSo_33 ?_
        refine x_iload (pc := 34) dX11_isSo_34 (List.Mem.tail _ (List.Mem.tail _ (List.Mem.tail _ (List.Mem.tail _ (List.Mem.head _))))) ?_
        refine z_imul (pc := 36) dX11_isSo_36 ?_
        refine z_iadd (pc := 37) dX11_isSo_37 ?_
        have rd4 := ok.1 2 (77 + (2 * ((H.1 2 (53 + l)).toNat + n)))
        refine z_iald (pc := 38) (j := (77 + (2 * ((H.1 2 (53 + l)).toNat + n)))) (v := H.1 2 (77 + (2 * ((H.1 2 (53 + l)).toNat + n)))) dX11_isSo_38 sh_2 (by omega) (by omega) (by decide) (by rw [wA1c (by omega)]) ?_
        refine x_istore (pc := 39) dX11_isSo_39 (Nat.le_of_ble_eq_true rfl) ?_
        show Ev _ _ _ _ _ [(5, .int (zN ((H.1 2 (77 + (2 * ((H.1 2 (53 + l)).toNat + n))))))), (0, .ref 0), (1, .int (zN ((l : Int)))), (2, .int (zN ((c : Int)))), (3, .int (zN ((((rrun (H.1 2) (H.1 6) c (H.1 2 (53 + l)).toNat n).length : Nat) : Int)))), (4, .int (zN ((((H.1 2 (53 + l)).toNat + n : Nat) : Int))))] _ _
        refine x_iload (pc := 41) dX11_isSo_41 (List.Mem.head _) ?_
        refine z_bipush (pc := 43) dX11_isSo_43 bp_21 ?_
        refine z_icmp_ne (pc := 45) (tgt := 75) dX11_isSo_45 (by decide) (by omega) (by omega) (by decide) (by decide) (fun hb5 => ?_) (fun hb5 => ?_)
        · skip
          refine x_iload (pc := 75) dX11_isSo_75 (List.Mem.head _) ?_
          refine z_bipush (pc := 77) dX11_isSo_77 bp_20 ?_
          refine z_icmp_eq (pc := 79) (tgt := 89) dX11_isSo_79 (by decide) (by omega) (by omega) (by decide) (by decide) (fun hb6 => ?_) (fun hb6 => ?_)
          · skip
            obtain ⟨b, a, t, est⟩ := len2 (st := (rrun (H.1 2) (H.1 6) c (H.1 2 (53 + l)).toNat n)) (by have := wn3 (by omega); omega)
            have el : (rrun (H.1 2) (H.1 6) c (H.1 2 (53 + l)).toNat n).length = t.length + 2 := by rw [est]; rfl
            have hpb := hp
            rw [est] at hpb
            have hf1 : f ((rrun (H.1 2) (H.1 6) c (H.1 2 (53 + l)).toNat n).length - 1) = (if b = true then 1 else 0) := by rw [show (rrun (H.1 2) (H.1 6) c (H.1 2 (53 + l)).toNat n).length - 1 = (a :: t).length by simp; omega]; exact hpb.1
            have hf2 : f ((rrun (H.1 2) (H.1 6) c (H.1 2 (53 + l)).toNat n).length - 2) = (if a = true then 1 else 0) := by rw [show (rrun (H.1 2) (H.1 6) c (H.1 2 (53 + l)).toNat n).length - 2 = t.length by omega]; exact hpb.2.1
            have bb := b01 b
            have ba := b01 a
            refine z_iinc (pc := 89) dX11_isSo_89 (List.Mem.tail _ (List.Mem.tail _ (List.Mem.tail _ (List.Mem.tail _ (List.Mem.head _))))) (Nat.le_of_ble_eq_true rfl) ?_
            show Ev _ _ _ _ _ [(3, .int (zN ((((rrun (H.1 2) (H.1 6) c (H.1 2 (53 + l)).toNat n).length : Nat) : Int) + (-1)))), (5, .int (zN ((H.1 2 (77 + (2 * ((H.1 2 (53 + l)).toNat + n))))))), (0, .ref 0), (1, .int (zN ((l : Int)))), (2, .int (zN ((c : Int)))), (4, .int (zN ((((H.1 2 (53 + l)).toNat + n : Nat) : Int))))] _ _
            refine x_aload_n (pc := 92) dX11_isSo_92 (List.Mem.tail _ (List.Mem.tail _ (List.Mem.head _))) ?_
            refine z_getR (pc := 93) (k := 20) (r := 8) dX11_isSo_93 lf_X11_39 sh_0 rfl rf_0_20 ?_
            refine x_iload_n (pc := 96) dX11_isSo_96 (List.Mem.head _) ?_
            refine z_iconst (pc := 97) dX11_isSo_97 ?_
            refine z_isub (pc := 98) dX11_isSo_98 ?_
            refine x_iload (pc := 99) dX11_isSo_99 (List.Mem.tail _ (List.Mem.head _)) ?_
            refine z_bipush (pc := 101) dX11_isSo_101 bp_20 ?_
            refine z_icmp_ne (pc := 103) (tgt := 134) dX11_isSo_103 (by decide) (by omega) (by omega) (by decide) (by decide) (fun hb7 => ?_) (fun hb7 => ?_)
            · skip
              refine x_aload_n (pc := 134) dX11_isSo_134 (List.Mem.tail _ (List.Mem.tail _ (List.Mem.head _))) ?_
              refine z_getR (pc := 135) (k := 20) (r := 8) dX11_isSo_135 lf_X11_39 sh_0 rfl rf_0_20 ?_
              refine x_iload_n (pc := 138) dX11_isSo_138 (List.Mem.head _) ?_
              refine z_iconst (pc := 139) dX11_isSo_139 ?_
              refine z_isub (pc := 140) dX11_isSo_140 ?_
              refine z_zald (pc := 141) (j := (rrun (H.1 2) (H.1 6) c (H.1 2 (53 + l)).toNat n).length - 2) (v := (if a = true then 1 else 0)) dX11_isSo_141 sh_8 (by omega) (by omega) (by decide) (by rw [wA1]; exact hf2) ?_
              refine z_if_ne (pc := 142) (tgt := 154) dX11_isSo_142 (by decide) (by omega) (by omega) (fun hb8 => ?_) (fun hb8 => ?_)
              · skip
                have hAt := ite01_1 hb8
                refine z_iconst (pc := 154) dX11_isSo_154 ?_
                refine x_goto (pc := 155) (tgt := 159) dX11_isSo_155 (by decide) ?_
                refine z_zast (pc := 159) (j := (rrun (H.1 2) (H.1 6) c (H.1 2 (53 + l)).toNat n).length - 2) (v := 1) dX11_isSo_159 sh_8 (by omega) (by omega) (by decide) (by omega) ?_
                have ok9 := okI okl13 8 ((rrun (H.1 2) (H.1 6) c (H.1 2 (53 + l)).toNat n).length - 2) (v := 1) (by decide) (by decide)
                refine x_goto (pc := 160) (tgt := 193) dX11_isSo_160 (by decide) ?_
                refine z_iinc (pc := 193) dX11_isSo_193 (List.Mem.tail _ (List.Mem.tail _ (List.Mem.tail _ (List.Mem.tail _ (List.Mem.tail _ (List.Mem.head _)))))) (Nat.le_of_ble_eq_true rfl) ?_
                show Ev _ _ _ _ _ [(4, .int (zN ((((H.1 2 (53 + l)).toNat + n : Nat) : Int) + 1))), (3, .int (zN ((((rrun (H.1 2) (H.1 6) c (H.1 2 (53 + l)).toNat n).length : Nat) : Int) + (-1)))), (5, .int (zN ((H.1 2 (77 + (2 * ((H.1 2 (53 + l)).toNat + n))))))), (0, .ref 0), (1, .int (zN ((l : Int)))), (2, .int (zN ((c : Int))))] _ _
                refine x_goto (pc := 196) (tgt := 13) dX11_isSo_196 (by decide) ?_
                have hv : ∃ x : Bool, rrun (H.1 2) (H.1 6) c (H.1 2 (53 + l)).toNat (n + 1) = x :: t ∧ (1 : Int) = (if x = true then 1 else 0) := by
                  rw [nx, est]; unfold rstep; rw [if_neg (by omega)]
                  first | (rw [if_pos (by omega)]; refine ⟨_, rfl, ?_⟩) | (rw [if_neg (by omega), if_pos (by omega)]; refine ⟨_, rfl, ?_⟩)
                  all_goals first | (exfalso; omega) | (rw [hAf, hBf]; done) | (rw [hAf, hBf]; rfl) | (rw [hAf, hBt]; done) | (rw [hAf, hBt]; rfl) | (rw [hAt, hBf]; done) | (rw [hAt, hBf]; rfl) | (rw [hAt, hBt]; done) | (rw [hAt, hBt]; rfl) | (rw [hAf]; done) | (rw [hAf]; rfl) | (rw [hAt]; done) | (rw [hAt]; rfl)
                obtain ⟨x, nx3, hv⟩ := hv
                have hpn : PileIs (fun j => if j = (rrun (H.1 2) (H.1 6) c (H.1 2 (53 + l)).toNat n).length - 2 then 1 else f j) (rrun (H.1 2) (H.1 6) c (H.1 2 (53 + l)).toNat (n + 1)) := by rw [nx3]; exact ⟨by show (if t.length = (rrun (H.1 2) (H.1 6) c (H.1 2 (53 + l)).toNat n).length - 2 then 1 else f t.length) = _; rw [if_pos (by omega)]; exact hv, PileIs_up hpb.2.2 (by omega)⟩
                have hln : (rrun (H.1 2) (H.1 6) c (H.1 2 (53 + l)).toNat (n + 1)).length + 1 = (rrun (H.1 2) (H.1 6) c (H.1 2 (53 + l)).toNat n).length := by rw [nx3, el]; rfl
                refine x_weaken (L1 := [(0, .ref 0), (1, .int (zN ((l : Int)))), (2, .int (zN ((c : Int)))), (3, .int (zN ((((rrun (H.1 2) (H.1 6) c (H.1 2 (53 + l)).toNat (n + 1)).length : Nat) : Int)))), (4, .int (zN ((((H.1 2 (53 + l)).toNat + (n + 1) : Nat) : Int))))]) (List.forall_mem_cons.mpr ⟨(List.Mem.tail _ (List.Mem.tail _ (List.Mem.tail _ (List.Mem.head _)))), (List.forall_mem_cons.mpr ⟨(List.Mem.tail _ (List.Mem.tail _ (List.Mem.tail _ (List.Mem.tail _ (List.Mem.head _))))), (List.forall_mem_cons.mpr ⟨(List.Mem.tail _ (List.Mem.tail _ (List.Mem.tail _ (List.Mem.tail _ (List.Mem.tail _ (List.Mem.head _)))))), (List.forall_mem_cons.mpr ⟨(mem_ci (by omega) (List.Mem.tail _ (List.Mem.head _))), (List.forall_mem_cons.mpr ⟨(mem_ci (by omega) (List.Mem.head _)), (fun _ h => absurd h List.not_mem_nil)⟩)⟩)⟩)⟩)⟩) ?_
                have he10 : (wI (wA H 8 (f)) 8 ((rrun (H.1 2) (H.1 6) c (H.1 2 (53 + l)).toNat n).length - 2) (1)) = (wA H 8 ((fun j => if j = (rrun (H.1 2) (H.1 6) c (H.1 2 (53 + l)).toNat n).length - 2 then 1 else f j))) := wI_wA H 8 _ f _
                refine Ev_heq he10 ?_
                have ok11 : okZ (wA H 8 ((fun j => if j = (rrun (H.1 2) (H.1 6) c (H.1 2 (53 + l)).toNat n).length - 2 then 1 else f j))) := by rw [← he10]; exact ok9
                exact ih13 ((n + 1)) ((fun j => if j = (rrun (H.1 2) (H.1 6) c (H.1 2 (53 + l)).toNat n).length - 2 then 1 else f j)) ok11 (by omega) (hpn) (by omega)
              · skip
                have hAf := ite01_0 hb8
                refine x_aload_n (pc := 145) dX11_isSo_145 (List.Mem.tail _ (List.Mem.tail _ (List.Mem.head _))) ?_
                refine z_getR (pc := 146) (k := 20) (r := 8) dX11_isSo_146 lf_X11_39 sh_0 rfl rf_0_20 ?_
                refine x_iload_n (pc := 149) dX11_isSo_149 (List.Mem.head _) ?_
                refine z_zald (pc := 150) (j := (rrun (H.1 2) (H.1 6) c (H.1 2 (53 + l)).toNat n).length - 1) (v := (if b = true then 1 else 0)) dX11_isSo_150 sh_8 (by omega) (by omega) (by decide) (by rw [wA1]; exact hf1) ?_
                refine z_if_eq (pc := 151) (tgt := 158) dX11_isSo_151 (by decide) (by omega) (by omega) (fun hb12 => ?_) (fun hb12 => ?_)
                · skip
                  have hBf := ite01_0 hb12
                  refine z_iconst (pc := 158) dX11_isSo_158 ?_
                  refine z_zast (pc := 159) (j := (rrun (H.1 2) (H.1 6) c (H.1 2 (53 + l)).toNat n).length - 2) (v := 0) dX11_isSo_159 sh_8 (by omega) (by omega) (by decide) (by omega) ?_
                  have ok13 := okI okl13 8 ((rrun (H.1 2) (H.1 6) c (H.1 2 (53 + l)).toNat n).length - 2) (v := 0) (by decide) (by decide)
                  refine x_goto (pc := 160) (tgt := 193) dX11_isSo_160 (by decide) ?_
                  refine z_iinc (pc := 193) dX11_isSo_193 (List.Mem.tail _ (List.Mem.tail _ (List.Mem.tail _ (List.Mem.tail _ (List.Mem.tail _ (List.Mem.head _)))))) (Nat.le_of_ble_eq_true rfl) ?_
                  show Ev _ _ _ _ _ [(4, .int (zN ((((H.1 2 (53 + l)).toNat + n : Nat) : Int) + 1))), (3, .int (zN ((((rrun (H.1 2) (H.1 6) c (H.1 2 (53 + l)).toNat n).length : Nat) : Int) + (-1)))), (5, .int (zN ((H.1 2 (77 + (2 * ((H.1 2 (53 + l)).toNat + n))))))), (0, .ref 0), (1, .int (zN ((l : Int)))), (2, .int (zN ((c : Int))))] _ _
                  refine x_goto (pc := 196) (tgt := 13) dX11_isSo_196 (by decide) ?_
                  have hv : ∃ x : Bool, rrun (H.1 2) (H.1 6) c (H.1 2 (53 + l)).toNat (n + 1) = x :: t ∧ (0 : Int) = (if x = true then 1 else 0) := by
                    rw [nx, est]; unfold rstep; rw [if_neg (by omega)]
                    first | (rw [if_pos (by omega)]; refine ⟨_, rfl, ?_⟩) | (rw [if_neg (by omega), if_pos (by omega)]; refine ⟨_, rfl, ?_⟩)
                    all_goals first | (exfalso; omega) | (rw [hAf, hBf]; done) | (rw [hAf, hBf]; rfl) | (rw [hAf, hBt]; done) | (rw [hAf, hBt]; rfl) | (rw [hAt, hBf]; done) | (rw [hAt, hBf]; rfl) | (rw [hAt, hBt]; done) | (rw [hAt, hBt]; rfl) | (rw [hAf]; done) | (rw [hAf]; rfl) | (rw [hAt]; done) | (rw [hAt]; rfl)
                  obtain ⟨x, nx3, hv⟩ := hv
                  have hpn : PileIs (fun j => if j = (rrun (H.1 2) (H.1 6) c (H.1 2 (53 + l)).toNat n).length - 2 then 0 else f j) (rrun (H.1 2) (H.1 6) c (H.1 2 (53 + l)).toNat (n + 1)) := by rw [nx3]; exact ⟨by show (if t.length = (rrun (H.1 2) (H.1 6) c (H.1 2 (53 + l)).toNat n).length - 2 then 0 else f t.length) = _; rw [if_pos (by omega)]; exact hv, PileIs_up hpb.2.2 (by omega)⟩
                  have hln : (rrun (H.1 2) (H.1 6) c (H.1 2 (53 + l)).toNat (n + 1)).length + 1 = (rrun (H.1 2) (H.1 6) c (H.1 2 (53 + l)).toNat n).length := by rw [nx3, el]; rfl
                  refine x_weaken (L1 := [(0, .ref 0), (1, .int (zN ((l : Int)))), (2, .int (zN ((c : Int)))), (3, .int (zN ((((rrun (H.1 2) (H.1 6) c (H.1 2 (53 + l)).toNat (n + 1)).length : Nat) : Int)))), (4, .int (zN ((((H.1 2 (53 + l)).toNat + (n + 1) : Nat) : Int))))]) (List.forall_mem_cons.mpr ⟨(List.Mem.tail _ (List.Mem.tail _ (List.Mem.tail _ (List.Mem.head _)))), (List.forall_mem_cons.mpr ⟨(List.Mem.tail _ (List.Mem.tail _ (List.Mem.tail _ (List.Mem.tail _ (List.Mem.head _))))), (List.forall_mem_cons.mpr ⟨(List.Mem.tail _ (List.Mem.tail _ (List.Mem.tail _ (List.Mem.tail _ (List.Mem.tail _ (List.Mem.head _)))))), (List.forall_mem_cons.mpr ⟨(mem_ci (by omega) (List.Mem.tail _ (List.Mem.head _))), (List.forall_mem_cons.mpr ⟨(mem_ci (by omega) (List.Mem.head _)), (fun _ h => absurd h List.not_mem_nil)⟩)⟩)⟩)⟩)⟩) ?_
                  have he14 : (wI (wA H 8 (f)) 8 ((rrun (H.1 2) (H.1 6) c (H.1 2 (53 + l)).toNat n).length - 2) (0)) = (wA H 8 ((fun j => if j = (rrun (H.1 2) (H.1 6) c (H.1 2 (53 + l)).toNat n).length - 2 then 0 else f j))) := wI_wA H 8 _ f _
                  refine Ev_heq he14 ?_
                  have ok15 : okZ (wA H 8 ((fun j => if j = (rrun (H.1 2) (H.1 6) c (H.1 2 (53 + l)).toNat n).length - 2 then 0 else f j))) := by rw [← he14]; exact ok13
                  exact ih13 ((n + 1)) ((fun j => if j = (rrun (H.1 2) (H.1 6) c (H.1 2 (53 + l)).toNat n).length - 2 then 0 else f j)) ok15 (by omega) (hpn) (by omega)
                · skip
                  have hBt := ite01_1 hb12
                  refine z_iconst (pc := 154) dX11_isSo_154 ?_
                  refine x_goto (pc := 155) (tgt := 159) dX11_isSo_155 (by decide) ?_
                  refine z_zast (pc := 159) (j := (rrun (H.1 2) (H.1 6) c (H.1 2 (53 + l)).toNat n).length - 2) (v := 1) dX11_isSo_159 sh_8 (by omega) (by omega) (by decide) (by omega) ?_
                  have ok16 := okI okl13 8 ((rrun (H.1 2) (H.1 6) c (H.1 2 (53 + l)).toNat n).length - 2) (v := 1) (by decide) (by decide)
                  refine x_goto (pc := 160) (tgt := 193) dX11_isSo_160 (by decide) ?_
                  refine z_iinc (pc := 193) dX11_isSo_193 (List.Mem.tail _ (List.Mem.tail _ (List.Mem.tail _ (List.Mem.tail _ (List.Mem.tail _ (List.Mem.head _)))))) (Nat.le_of_ble_eq_true rfl) ?_
                  show Ev _ _ _ _ _ [(4, .int (zN ((((H.1 2 (53 + l)).toNat + n : Nat) : Int) + 1))), (3, .int (zN ((((rrun (H.1 2) (H.1 6) c (H.1 2 (53 + l)).toNat n).length : Nat) : Int) + (-1)))), (5, .int (zN ((H.1 2 (77 + (2 * ((H.1 2 (53 + l)).toNat + n))))))), (0, .ref 0), (1, .int (zN ((l : Int)))), (2, .int (zN ((c : Int))))] _ _
                  refine x_goto (pc := 196) (tgt := 13) dX11_isSo_196 (by decide) ?_
                  have hv : ∃ x : Bool, rrun (H.1 2) (H.1 6) c (H.1 2 (53 + l)).toNat (n + 1) = x :: t ∧ (1 : Int) = (if x = true then 1 else 0) := by
                    rw [nx, est]; unfold rstep; rw [if_neg (by omega)]
                    first | (rw [if_pos (by omega)]; refine ⟨_, rfl, ?_⟩) | (rw [if_neg (by omega), if_pos (by omega)]; refine ⟨_, rfl, ?_⟩)
                    all_goals first | (exfalso; omega) | (rw [hAf, hBf]; done) | (rw [hAf, hBf]; rfl) | (rw [hAf, hBt]; done) | (rw [hAf, hBt]; rfl) | (rw [hAt, hBf]; done) | (rw [hAt, hBf]; rfl) | (rw [hAt, hBt]; done) | (rw [hAt, hBt]; rfl) | (rw [hAf]; done) | (rw [hAf]; rfl) | (rw [hAt]; done) | (rw [hAt]; rfl)
                  obtain ⟨x, nx3, hv⟩ := hv
                  have hpn : PileIs (fun j => if j = (rrun (H.1 2) (H.1 6) c (H.1 2 (53 + l)).toNat n).length - 2 then 1 else f j) (rrun (H.1 2) (H.1 6) c (H.1 2 (53 + l)).toNat (n + 1)) := by rw [nx3]; exact ⟨by show (if t.length = (rrun (H.1 2) (H.1 6) c (H.1 2 (53 + l)).toNat n).length - 2 then 1 else f t.length) = _; rw [if_pos (by omega)]; exact hv, PileIs_up hpb.2.2 (by omega)⟩
                  have hln : (rrun (H.1 2) (H.1 6) c (H.1 2 (53 + l)).toNat (n + 1)).length + 1 = (rrun (H.1 2) (H.1 6) c (H.1 2 (53 + l)).toNat n).length := by rw [nx3, el]; rfl
                  refine x_weaken (L1 := [(0, .ref 0), (1, .int (zN ((l : Int)))), (2, .int (zN ((c : Int)))), (3, .int (zN ((((rrun (H.1 2) (H.1 6) c (H.1 2 (53 + l)).toNat (n + 1)).length : Nat) : Int)))), (4, .int (zN ((((H.1 2 (53 + l)).toNat + (n + 1) : Nat) : Int))))]) (List.forall_mem_cons.mpr ⟨(List.Mem.tail _ (List.Mem.tail _ (List.Mem.tail _ (List.Mem.head _)))), (List.forall_mem_cons.mpr ⟨(List.Mem.tail _ (List.Mem.tail _ (List.Mem.tail _ (List.Mem.tail _ (List.Mem.head _))))), (List.forall_mem_cons.mpr ⟨(List.Mem.tail _ (List.Mem.tail _ (List.Mem.tail _ (List.Mem.tail _ (List.Mem.tail _ (List.Mem.head _)))))), (List.forall_mem_cons.mpr ⟨(mem_ci (by omega) (List.Mem.tail _ (List.Mem.head _))), (List.forall_mem_cons.mpr ⟨(mem_ci (by omega) (List.Mem.head _)), (fun _ h => absurd h List.not_mem_nil)⟩)⟩)⟩)⟩)⟩) ?_
                  have he17 : (wI (wA H 8 (f)) 8 ((rrun (H.1 2) (H.1 6) c (H.1 2 (53 + l)).toNat n).length - 2) (1)) = (wA H 8 ((fun j => if j = (rrun (H.1 2) (H.1 6) c (H.1 2 (53 + l)).toNat n).length - 2 then 1 else f j))) := wI_wA H 8 _ f _
                  refine Ev_heq he17 ?_
                  have ok18 : okZ (wA H 8 ((fun j => if j = (rrun (H.1 2) (H.1 6) c (H.1 2 (53 + l)).toNat n).length - 2 then 1 else f j))) := by rw [← he17]; exact ok16
                  exact ih13 ((n + 1)) ((fun j => if j = (rrun (H.1 2) (H.1 6) c (H.1 2 (53 + l)).toNat n).length - 2 then 1 else f j)) ok18 (by omega) (hpn) (by omega)
            · skip
              refine x_aload_n (pc := 106) dX11_isSo_106 (List.Mem.tail _ (List.Mem.tail _ (List.Mem.head _))) ?_
              refine z_getR (pc := 107) (k := 20) (r := 8) dX11_isSo_107 lf_X11_39 sh_0 rfl rf_0_20 ?_
              refine x_iload_n (pc := 110) dX11_isSo_110 (List.Mem.head _) ?_
              refine z_iconst (pc := 111) dX11_isSo_111 ?_
              refine z_isub (pc := 112) dX11_isSo_112 ?_
              refine z_zald (pc := 113) (j := (rrun (H.1 2) (H.1 6) c (H.1 2 (53 + l)).toNat n).length - 2) (v := (if a = true then 1 else 0)) dX11_isSo_113 sh_8 (by omega) (by omega) (by decide) (by rw [wA1]; exact hf2) ?_
              refine z_if_eq (pc := 114) (tgt := 130) dX11_isSo_114 (by decide) (by omega) (by omega) (fun hb19 => ?_) (fun hb19 => ?_)
              · skip
                have hAf := ite01_0 hb19
                refine z_iconst (pc := 130) dX11_isSo_130 ?_
                refine x_goto (pc := 131) (tgt := 159) dX11_isSo_131 (by decide) ?_
                refine z_zast (pc := 159) (j := (rrun (H.1 2) (H.1 6) c (H.1 2 (53 + l)).toNat n).length - 2) (v := 0) dX11_isSo_159 sh_8 (by omega) (by omega) (by decide) (by omega) ?_
                have ok20 := okI okl13 8 ((rrun (H.1 2) (H.1 6) c (H.1 2 (53 + l)).toNat n).length - 2) (v := 0) (by decide) (by decide)
                refine x_goto (pc := 160) (tgt := 193) dX11_isSo_160 (by decide) ?_
                refine z_iinc (pc := 193) dX11_isSo_193 (List.Mem.tail _ (List.Mem.tail _ (List.Mem.tail _ (List.Mem.tail _ (List.Mem.tail _ (List.Mem.head _)))))) (Nat.le_of_ble_eq_true rfl) ?_
                show Ev _ _ _ _ _ [(4, .int (zN ((((H.1 2 (53 + l)).toNat + n : Nat) : Int) + 1))), (3, .int (zN ((((rrun (H.1 2) (H.1 6) c (H.1 2 (53 + l)).toNat n).length : Nat) : Int) + (-1)))), (5, .int (zN ((H.1 2 (77 + (2 * ((H.1 2 (53 + l)).toNat + n))))))), (0, .ref 0), (1, .int (zN ((l : Int)))), (2, .int (zN ((c : Int))))] _ _
                refine x_goto (pc := 196) (tgt := 13) dX11_isSo_196 (by decide) ?_
                have hv : ∃ x : Bool, rrun (H.1 2) (H.1 6) c (H.1 2 (53 + l)).toNat (n + 1) = x :: t ∧ (0 : Int) = (if x = true then 1 else 0) := by
                  rw [nx, est]; unfold rstep; rw [if_neg (by omega)]
                  first | (rw [if_pos (by omega)]; refine ⟨_, rfl, ?_⟩) | (rw [if_neg (by omega), if_pos (by omega)]; refine ⟨_, rfl, ?_⟩)
                  all_goals first | (exfalso; omega) | (rw [hAf, hBf]; done) | (rw [hAf, hBf]; rfl) | (rw [hAf, hBt]; done) | (rw [hAf, hBt]; rfl) | (rw [hAt, hBf]; done) | (rw [hAt, hBf]; rfl) | (rw [hAt, hBt]; done) | (rw [hAt, hBt]; rfl) | (rw [hAf]; done) | (rw [hAf]; rfl) | (rw [hAt]; done) | (rw [hAt]; rfl)
                obtain ⟨x, nx3, hv⟩ := hv
                have hpn : PileIs (fun j => if j = (rrun (H.1 2) (H.1 6) c (H.1 2 (53 + l)).toNat n).length - 2 then 0 else f j) (rrun (H.1 2) (H.1 6) c (H.1 2 (53 + l)).toNat (n + 1)) := by rw [nx3]; exact ⟨by show (if t.length = (rrun (H.1 2) (H.1 6) c (H.1 2 (53 + l)).toNat n).length - 2 then 0 else f t.length) = _; rw [if_pos (by omega)]; exact hv, PileIs_up hpb.2.2 (by omega)⟩
                have hln : (rrun (H.1 2) (H.1 6) c (H.1 2 (53 + l)).toNat (n + 1)).length + 1 = (rrun (H.1 2) (H.1 6) c (H.1 2 (53 + l)).toNat n).length := by rw [nx3, el]; rfl
                refine x_weaken (L1 := [(0, .ref 0), (1, .int (zN ((l : Int)))), (2, .int (zN ((c : Int)))), (3, .int (zN ((((rrun (H.1 2) (H.1 6) c (H.1 2 (53 + l)).toNat (n + 1)).length : Nat) : Int)))), (4, .int (zN ((((H.1 2 (53 + l)).toNat + (n + 1) : Nat) : Int))))]) (List.forall_mem_cons.mpr ⟨(List.Mem.tail _ (List.Mem.tail _ (List.Mem.tail _ (List.Mem.head _)))), (List.forall_mem_cons.mpr ⟨(List.Mem.tail _ (List.Mem.tail _ (List.Mem.tail _ (List.Mem.tail _ (List.Mem.head _))))), (List.forall_mem_cons.mpr ⟨(List.Mem.tail _ (List.Mem.tail _ (List.Mem.tail _ (List.Mem.tail _ (List.Mem.tail _ (List.Mem.head _)))))), (List.forall_mem_cons.mpr ⟨(mem_ci (by omega) (List.Mem.tail _ (List.Mem.head _))), (List.forall_mem_cons.mpr ⟨(mem_ci (by omega) (List.Mem.head _)), (fun _ h => absurd h List.not_mem_nil)⟩)⟩)⟩)⟩)⟩) ?_
                have he21 : (wI (wA H 8 (f)) 8 ((rrun (H.1 2) (H.1 6) c (H.1 2 (53 + l)).toNat n).length - 2) (0)) = (wA H 8 ((fun j => if j = (rrun (H.1 2) (H.1 6) c (H.1 2 (53 + l)).toNat n).length - 2 then 0 else f j))) := wI_wA H 8 _ f _
                refine Ev_heq he21 ?_
                have ok22 : okZ (wA H 8 ((fun j => if j = (rrun (H.1 2) (H.1 6) c (H.1 2 (53 + l)).toNat n).length - 2 then 0 else f j))) := by rw [← he21]; exact ok20
                exact ih13 ((n + 1)) ((fun j => if j = (rrun (H.1 2) (H.1 6) c (H.1 2 (53 + l)).toNat n).length - 2 then 0 else f j)) ok22 (by omega) (hpn) (by omega)
              · skip
                have hAt := ite01_1 hb19
                refine x_aload_n (pc := 117) dX11_isSo_117 (List.Mem.tail _ (List.Mem.tail _ (List.Mem.head _))) ?_
                refine z_getR (pc := 118) (k := 20) (r := 8) dX11_isSo_118 lf_X11_39 sh_0 rfl rf_0_20 ?_
                refine x_iload_n (pc := 121) dX11_isSo_121 (List.Mem.head _) ?_
                refine z_zald (pc := 122) (j := (rrun (H.1 2) (H.1 6) c (H.1 2 (53 + l)).toNat n).length - 1) (v := (if b = true then 1 else 0)) dX11_isSo_122 sh_8 (by omega) (by omega) (by decide) (by rw [wA1]; exact hf1) ?_
                refine z_if_eq (pc := 123) (tgt := 130) dX11_isSo_123 (by decide) (by omega) (by omega) (fun hb23 => ?_) (fun hb23 => ?_)
                · skip
                  have hBf := ite01_0 hb23
                  refine z_iconst (pc := 130) dX11_isSo_130 ?_
                  refine x_goto (pc := 131) (tgt := 159) dX11_isSo_131 (by decide) ?_
                  refine z_zast (pc := 159) (j := (rrun (H.1 2) (H.1 6) c (H.1 2 (53 + l)).toNat n).length - 2) (v := 0) dX11_isSo_159 sh_8 (by omega) (by omega) (by decide) (by omega) ?_
                  have ok24 := okI okl13 8 ((rrun (H.1 2) (H.1 6) c (H.1 2 (53 + l)).toNat n).length - 2) (v := 0) (by decide) (by decide)
                  refine x_goto (pc := 160) (tgt := 193) dX11_isSo_160 (by decide) ?_
                  refine z_iinc (pc := 193) dX11_isSo_193 (List.Mem.tail _ (List.Mem.tail _ (List.Mem.tail _ (List.Mem.tail _ (List.Mem.tail _ (List.Mem.head _)))))) (Nat.le_of_ble_eq_true rfl) ?_
                  show Ev _ _ _ _ _ [(4, .int (zN ((((H.1 2 (53 + l)).toNat + n : Nat) : Int) + 1))), (3, .int (zN ((((rrun (H.1 2) (H.1 6) c (H.1 2 (53 + l)).toNat n).length : Nat) : Int) + (-1)))), (5, .int (zN ((H.1 2 (77 + (2 * ((H.1 2 (53 + l)).toNat + n))))))), (0, .ref 0), (1, .int (zN ((l : Int)))), (2, .int (zN ((c : Int))))] _ _
                  refine x_goto (pc := 196) (tgt := 13) dX11_isSo_196 (by decide) ?_
                  have hv : ∃ x : Bool, rrun (H.1 2) (H.1 6) c (H.1 2 (53 + l)).toNat (n + 1) = x :: t ∧ (0 : Int) = (if x = true then 1 else 0) := by
                    rw [nx, est]; unfold rstep; rw [if_neg (by omega)]
                    first | (rw [if_pos (by omega)]; refine ⟨_, rfl, ?_⟩) | (rw [if_neg (by omega), if_pos (by omega)]; refine ⟨_, rfl, ?_⟩)
                    all_goals first | (exfalso; omega) | (rw [hAf, hBf]; done) | (rw [hAf, hBf]; rfl) | (rw [hAf, hBt]; done) | (rw [hAf, hBt]; rfl) | (rw [hAt, hBf]; done) | (rw [hAt, hBf]; rfl) | (rw [hAt, hBt]; done) | (rw [hAt, hBt]; rfl) | (rw [hAf]; done) | (rw [hAf]; rfl) | (rw [hAt]; done) | (rw [hAt]; rfl)
                  obtain ⟨x, nx3, hv⟩ := hv
                  have hpn : PileIs (fun j => if j = (rrun (H.1 2) (H.1 6) c (H.1 2 (53 + l)).toNat n).length - 2 then 0 else f j) (rrun (H.1 2) (H.1 6) c (H.1 2 (53 + l)).toNat (n + 1)) := by rw [nx3]; exact ⟨by show (if t.length = (rrun (H.1 2) (H.1 6) c (H.1 2 (53 + l)).toNat n).length - 2 then 0 else f t.length) = _; rw [if_pos (by omega)]; exact hv, PileIs_up hpb.2.2 (by omega)⟩
                  have hln : (rrun (H.1 2) (H.1 6) c (H.1 2 (53 + l)).toNat (n + 1)).length + 1 = (rrun (H.1 2) (H.1 6) c (H.1 2 (53 + l)).toNat n).length := by rw [nx3, el]; rfl
                  refine x_weaken (L1 := [(0, .ref 0), (1, .int (zN ((l : Int)))), (2, .int (zN ((c : Int)))), (3, .int (zN ((((rrun (H.1 2) (H.1 6) c (H.1 2 (53 + l)).toNat (n + 1)).length : Nat) : Int)))), (4, .int (zN ((((H.1 2 (53 + l)).toNat + (n + 1) : Nat) : Int))))]) (List.forall_mem_cons.mpr ⟨(List.Mem.tail _ (List.Mem.tail _ (List.Mem.tail _ (List.Mem.head _)))), (List.forall_mem_cons.mpr ⟨(List.Mem.tail _ (List.Mem.tail _ (List.Mem.tail _ (List.Mem.tail _ (List.Mem.head _))))), (List.forall_mem_cons.mpr ⟨(List.Mem.tail _ (List.Mem.tail _ (List.Mem.tail _ (List.Mem.tail _ (List.Mem.tail _ (List.Mem.head _)))))), (List.forall_mem_cons.mpr ⟨(mem_ci (by omega) (List.Mem.tail _ (List.Mem.head _))), (List.forall_mem_cons.mpr ⟨(mem_ci (by omega) (List.Mem.head _)), (fun _ h => absurd h List.not_mem_nil)⟩)⟩)⟩)⟩)⟩) ?_
                  have he25 : (wI (wA H 8 (f)) 8 ((rrun (H.1 2) (H.1 6) c (H.1 2 (53 + l)).toNat n).length - 2) (0)) = (wA H 8 ((fun j => if j = (rrun (H.1 2) (H.1 6) c (H.1 2 (53 + l)).toNat n).length - 2 then 0 else f j))) := wI_wA H 8 _ f _
                  refine Ev_heq he25 ?_
                  have ok26 : okZ (wA H 8 ((fun j => if j = (rrun (H.1 2) (H.1 6) c (H.1 2 (53 + l)).toNat n).length - 2 then 0 else f j))) := by rw [← he25]; exact ok24
                  exact ih13 ((n + 1)) ((fun j => if j = (rrun (H.1 2) (H.1 6) c (H.1 2 (53 + l)).toNat n).length - 2 then 0 else f j)) ok26 (by omega) (hpn) (by omega)
                · skip
                  have hBt := ite01_1 hb23
                  refine z_iconst (pc := 126) dX11_isSo_126 ?_
                  refine x_goto (pc := 127) (tgt := 159) dX11_isSo_127 (by decide) ?_
                  refine z_zast (pc := 159) (j := (rrun (H.1 2) (H.1 6) c (H.1 2 (53 + l)).toNat n).length - 2) (v := 1) dX11_isSo_159 sh_8 (by omega) (by omega) (by decide) (by omega) ?_
                  have ok27 := okI okl13 8 ((rrun (H.1 2) (H.1 6) c (H.1 2 (53 + l)).toNat n).length - 2) (v := 1) (by decide) (by decide)
                  refine x_goto (pc := 160) (tgt := 193) dX11_isSo_160 (by decide) ?_
                  refine z_iinc (pc := 193) dX11_isSo_193 (List.Mem.tail _ (List.Mem.tail _ (List.Mem.tail _ (List.Mem.tail _ (List.Mem.tail _ (List.Mem.head _)))))) (Nat.le_of_ble_eq_true rfl) ?_
                  show Ev _ _ _ _ _ [(4, .int (zN ((((H.1 2 (53 + l)).toNat + n : Nat) : Int) + 1))), (3, .int (zN ((((rrun (H.1 2) (H.1 6) c (H.1 2 (53 + l)).toNat n).length : Nat) : Int) + (-1)))), (5, .int (zN ((H.1 2 (77 + (2 * ((H.1 2 (53 + l)).toNat + n))))))), (0, .ref 0), (1, .int (zN ((l : Int)))), (2, .int (zN ((c : Int))))] _ _
                  refine x_goto (pc := 196) (tgt := 13) dX11_isSo_196 (by decide) ?_
                  have hv : ∃ x : Bool, rrun (H.1 2) (H.1 6) c (H.1 2 (53 + l)).toNat (n + 1) = x :: t ∧ (1 : Int) = (if x = true then 1 else 0) := by
                    rw [nx, est]; unfold rstep; rw [if_neg (by omega)]
                    first | (rw [if_pos (by omega)]; refine ⟨_, rfl, ?_⟩) | (rw [if_neg (by omega), if_pos (by omega)]; refine ⟨_, rfl, ?_⟩)
                    all_goals first | (exfalso; omega) | (rw [hAf, hBf]; done) | (rw [hAf, hBf]; rfl) | (rw [hAf, hBt]; done) | (rw [hAf, hBt]; rfl) | (rw [hAt, hBf]; done) | (rw [hAt, hBf]; rfl) | (rw [hAt, hBt]; done) | (rw [hAt, hBt]; rfl) | (rw [hAf]; done) | (rw [hAf]; rfl) | (rw [hAt]; done) | (rw [hAt]; rfl)
                  obtain ⟨x, nx3, hv⟩ := hv
                  have hpn : PileIs (fun j => if j = (rrun (H.1 2) (H.1 6) c (H.1 2 (53 + l)).toNat n).length - 2 then 1 else f j) (rrun (H.1 2) (H.1 6) c (H.1 2 (53 + l)).toNat (n + 1)) := by rw [nx3]; exact ⟨by show (if t.length = (rrun (H.1 2) (H.1 6) c (H.1 2 (53 + l)).toNat n).length - 2 then 1 else f t.length) = _; rw [if_pos (by omega)]; exact hv, PileIs_up hpb.2.2 (by omega)⟩
                  have hln : (rrun (H.1 2) (H.1 6) c (H.1 2 (53 + l)).toNat (n + 1)).length + 1 = (rrun (H.1 2) (H.1 6) c (H.1 2 (53 + l)).toNat n).length := by rw [nx3, el]; rfl
                  refine x_weaken (L1 := [(0, .ref 0), (1, .int (zN ((l : Int)))), (2, .int (zN ((c : Int)))), (3, .int (zN ((((rrun (H.1 2) (H.1 6) c (H.1 2 (53 + l)).toNat (n + 1)).length : Nat) : Int)))), (4, .int (zN ((((H.1 2 (53 + l)).toNat + (n + 1) : Nat) : Int))))]) (List.forall_mem_cons.mpr ⟨(List.Mem.tail _ (List.Mem.tail _ (List.Mem.tail _ (List.Mem.head _)))), (List.forall_mem_cons.mpr ⟨(List.Mem.tail _ (List.Mem.tail _ (List.Mem.tail _ (List.Mem.tail _ (List.Mem.head _))))), (List.forall_mem_cons.mpr ⟨(List.Mem.tail _ (List.Mem.tail _ (List.Mem.tail _ (List.Mem.tail _ (List.Mem.tail _ (List.Mem.head _)))))), (List.forall_mem_cons.mpr ⟨(mem_ci (by omega) (List.Mem.tail _ (List.Mem.head _))), (List.forall_mem_cons.mpr ⟨(mem_ci (by omega) (List.Mem.head _)), (fun _ h => absurd h List.not_mem_nil)⟩)⟩)⟩)⟩)⟩) ?_
                  have he28 : (wI (wA H 8 (f)) 8 ((rrun (H.1 2) (H.1 6) c (H.1 2 (53 + l)).toNat n).length - 2) (1)) = (wA H 8 ((fun j => if j = (rrun (H.1 2) (H.1 6) c (H.1 2 (53 + l)).toNat n).length - 2 then 1 else f j))) := wI_wA H 8 _ f _
                  refine Ev_heq he28 ?_
                  have ok29 : okZ (wA H 8 ((fun j => if j = (rrun (H.1 2) (H.1 6) c (H.1 2 (53 + l)).toNat n).length - 2 then 1 else f j))) := by rw [← he28]; exact ok27
                  exact ih13 ((n + 1)) ((fun j => if j = (rrun (H.1 2) (H.1 6) c (H.1 2 (53 + l)).toNat n).length - 2 then 1 else f j)) ok29 (by omega) (hpn) (by omega)
          · skip
            refine x_iload (pc := 82) dX11_isSo_82 (List.Mem.head _) ?_
            refine z_bipush (pc := 84) dX11_isSo_84 bp_19 ?_
            refine z_icmp_ne (pc := 86) (tgt := 163) dX11_isSo_86 (by decide) (by omega) (by omega) (by decide) (by decide) (fun hb30 => ?_) (fun hb30 => ?_)
            · skip
              refine x_aload_n (pc := 163) dX11_isSo_163 (List.Mem.tail _ (List.Mem.head _)) ?_
              refine z_getR (pc := 164) (k := 20) (r := 8) dX11_isSo_164 lf_X11_39 sh_0 rfl rf_0_20 ?_
              refine x_iload_n (pc := 167) dX11_isSo_167 (List.Mem.tail _ (List.Mem.tail _ (List.Mem.tail _ (List.Mem.tail _ (List.Mem.head _))))) ?_
              refine x_aload_n (pc := 168) dX11_isSo_168 (List.Mem.tail _ (List.Mem.head _)) ?_
              refine x_iload (pc := 169) dX11_isSo_169 (List.Mem.head _) ?_
              refine x_aload_n (pc := 171) dX11_isSo_171 (List.Mem.tail _ (List.Mem.head _)) ?_
              refine z_getR (pc := 172) (k := 2) (r := 2) dX11_isSo_172 lf_X11_17 sh_0 rfl rf_0_2 ?_
              refine z_bipush (pc := 175) dX11_isSo_175 bp_77 ?_
              refine z_iconst (pc := 177) dX11_isSo_177 ?_
              refine x_iload (pc := 178) dX11_isSo_178 (List.Mem.tail _ (List.Mem.tail _ (List.Mem.tail _ (List.Mem.tail _ (List.Mem.tail _ (List.Mem.head _)))))) ?_
              refine z_imul (pc := 180) dX11_isSo_180 ?_
              refine z_iadd (pc := 181) dX11_isSo_181 ?_
              refine z_iconst (pc := 182) dX11_isSo_182 ?_
              refine z_iadd (pc := 183) dX11_isSo_183 ?_
              have rd31 := ok.1 2 (78 + 2 * ((H.1 2 (53 + l)).toNat + n))
              refine z_iald (pc := 184) (j := 78 + 2 * ((H.1 2 (53 + l)).toNat + n)) (v := H.1 2 (78 + 2 * ((H.1 2 (53 + l)).toNat + n))) dX11_isSo_184 sh_2 (by omega) (by omega) (by decide) (by rw [wA1c (by omega)]) ?_
              refine x_iload_n (pc := 185) dX11_isSo_185 (List.Mem.tail _ (List.Mem.tail _ (List.Mem.tail _ (List.Mem.head _)))) ?_
              refine z_callVbp (pc := 186) (i := mX11_fact) (S := [.int (zN ((((rrun (H.1 2) (H.1 6) c (H.1 2 (53 + l)).toNat n).length : Nat) : Int))), .ref 8]) [.int (zN ((H.1 2 (77 + (2 * ((H.1 2 (53 + l)).toNat + n)))))), .int (zN ((H.1 2 (78 + 2 * ((H.1 2 (53 + l)).toNat + n))))), .int (zN ((c : Int)))] dX11_isSo_186 ml_X11_232 ok_X11_fact rfl sh_0 rfl (Or.inr rfl) (Nat.le_of_ble_eq_true rfl) (c_X11_fact (d := d) (k := ((H.1 2 (77 + (2 * ((H.1 2 (53 + l)).toNat + n)))))) (v := ((H.1 2 (78 + 2 * ((H.1 2 (53 + l)).toNat + n))))) (c := c) (hk := (by omega)) (hv := wn5) (hc := hc) (ok := okl13) (ws := ws) (wn := wn)) (fun hc34 ok33 => ?_) (fun hc34 ok33 => ?_)
              · skip
                have hfc : fct (H.1 2) (H.1 6) (H.1 2 (77 + 2 * ((H.1 2 (53 + l)).toNat + n))) (H.1 2 (78 + 2 * ((H.1 2 (53 + l)).toNat + n))) c = true := hc34
                refine z_zast (pc := 189) (j := (rrun (H.1 2) (H.1 6) c (H.1 2 (53 + l)).toNat n).length) (v := 1) dX11_isSo_189 sh_8 (by omega) (by omega) (by decide) (by omega) ?_
                have ok35 := okI ok33 8 ((rrun (H.1 2) (H.1 6) c (H.1 2 (53 + l)).toNat n).length) (v := 1) (by decide) (by decide)
                refine z_iinc (pc := 190) dX11_isSo_190 (List.Mem.tail _ (List.Mem.tail _ (List.Mem.tail _ (List.Mem.tail _ (List.Mem.head _))))) (Nat.le_of_ble_eq_true rfl) ?_
                show Ev _ _ _ _ _ [(3, .int (zN ((((rrun (H.1 2) (H.1 6) c (H.1 2 (53 + l)).toNat n).length : Nat) : Int) + 1))), (5, .int (zN ((H.1 2 (77 + (2 * ((H.1 2 (53 + l)).toNat + n))))))), (0, .ref 0), (1, .int (zN ((l : Int)))), (2, .int (zN ((c : Int)))), (4, .int (zN ((((H.1 2 (53 + l)).toNat + n : Nat) : Int))))] _ _
                refine z_iinc (pc := 193) dX11_isSo_193 (List.Mem.tail _ (List.Mem.tail _ (List.Mem.tail _ (List.Mem.tail _ (List.Mem.tail _ (List.Mem.head _)))))) (Nat.le_of_ble_eq_true rfl) ?_
                show Ev _ _ _ _ _ [(4, .int (zN ((((H.1 2 (53 + l)).toNat + n : Nat) : Int) + 1))), (3, .int (zN ((((rrun (H.1 2) (H.1 6) c (H.1 2 (53 + l)).toNat n).length : Nat) : Int) + 1))), (5, .int (zN ((H.1 2 (77 + (2 * ((H.1 2 (53 + l)).toNat + n))))))), (0, .ref 0), (1, .int (zN ((l : Int)))), (2, .int (zN ((c : Int))))] _ _
                refine x_goto (pc := 196) (tgt := 13) dX11_isSo_196 (by decide) ?_
                have nx3 : rrun (H.1 2) (H.1 6) c (H.1 2 (53 + l)).toNat (n + 1) = fct (H.1 2) (H.1 6) (H.1 2 (77 + 2 * ((H.1 2 (53 + l)).toNat + n))) (H.1 2 (78 + 2 * ((H.1 2 (53 + l)).toNat + n))) c :: (rrun (H.1 2) (H.1 6) c (H.1 2 (53 + l)).toNat n) := by rw [nx]; unfold rstep; rw [if_neg (by omega), if_neg (by omega), if_neg (by omega)]
                have hpn : PileIs (fun j => if j = (rrun (H.1 2) (H.1 6) c (H.1 2 (53 + l)).toNat n).length then 1 else f j) (rrun (H.1 2) (H.1 6) c (H.1 2 (53 + l)).toNat (n + 1)) := by rw [nx3]; exact ⟨by show (if (rrun (H.1 2) (H.1 6) c (H.1 2 (53 + l)).toNat n).length = (rrun (H.1 2) (H.1 6) c (H.1 2 (53 + l)).toNat n).length then 1 else f (rrun (H.1 2) (H.1 6) c (H.1 2 (53 + l)).toNat n).length) = _; rw [if_pos rfl, hfc]; rfl, PileIs_up hp (Nat.le_refl _)⟩
                have hln : (rrun (H.1 2) (H.1 6) c (H.1 2 (53 + l)).toNat (n + 1)).length = (rrun (H.1 2) (H.1 6) c (H.1 2 (53 + l)).toNat n).length + 1 := by rw [nx3]; rfl
                refine x_weaken (L1 := [(0, .ref 0), (1, .int (zN ((l : Int)))), (2, .int (zN ((c : Int)))), (3, .int (zN ((((rrun (H.1 2) (H.1 6) c (H.1 2 (53 + l)).toNat (n + 1)).length : Nat) : Int)))), (4, .int (zN ((((H.1 2 (53 + l)).toNat + (n + 1) : Nat) : Int))))]) (List.forall_mem_cons.mpr ⟨(List.Mem.tail _ (List.Mem.tail _ (List.Mem.tail _ (List.Mem.head _)))), (List.forall_mem_cons.mpr ⟨(List.Mem.tail _ (List.Mem.tail _ (List.Mem.tail _ (List.Mem.tail _ (List.Mem.head _))))), (List.forall_mem_cons.mpr ⟨(List.Mem.tail _ (List.Mem.tail _ (List.Mem.tail _ (List.Mem.tail _ (List.Mem.tail _ (List.Mem.head _)))))), (List.forall_mem_cons.mpr ⟨(mem_ci (by omega) (List.Mem.tail _ (List.Mem.head _))), (List.forall_mem_cons.mpr ⟨(mem_ci (by omega) (List.Mem.head _)), (fun _ h => absurd h List.not_mem_nil)⟩)⟩)⟩)⟩)⟩) ?_
                have he36 : (wI (wA H 8 (f)) 8 ((rrun (H.1 2) (H.1 6) c (H.1 2 (53 + l)).toNat n).length) (1)) = (wA H 8 ((fun j => if j = (rrun (H.1 2) (H.1 6) c (H.1 2 (53 + l)).toNat n).length then 1 else f j))) := wI_wA H 8 _ f _
                refine Ev_heq he36 ?_
                have ok37 : okZ (wA H 8 ((fun j => if j = (rrun (H.1 2) (H.1 6) c (H.1 2 (53 + l)).toNat n).length then 1 else f j))) := by rw [← he36]; exact ok35
                exact ih13 ((n + 1)) ((fun j => if j = (rrun (H.1 2) (H.1 6) c (H.1 2 (53 + l)).toNat n).length then 1 else f j)) ok37 (by omega) (hpn) (by omega)
              · skip
                have hfc : fct (H.1 2) (H.1 6) (H.1 2 (77 + 2 * ((H.1 2 (53 + l)).toNat + n))) (H.1 2 (78 + 2 * ((H.1 2 (53 + l)).toNat + n))) c = false := Bool.eq_false_iff.mpr hc34
                refine z_zast (pc := 189) (j := (rrun (H.1 2) (H.1 6) c (H.1 2 (53 + l)).toNat n).length) (v := 0) dX11_isSo_189 sh_8 (by omega) (by omega) (by decide) (by omega) ?_
                have ok38 := okI ok33 8 ((rrun (H.1 2) (H.1 6) c (H.1 2 (53 + l)).toNat n).length) (v := 0) (by decide) (by decide)
                refine z_iinc (pc := 190) dX11_isSo_190 (List.Mem.tail _ (List.Mem.tail _ (List.Mem.tail _ (List.Mem.tail _ (List.Mem.head _))))) (Nat.le_of_ble_eq_true rfl) ?_
                show Ev _ _ _ _ _ [(3, .int (zN ((((rrun (H.1 2) (H.1 6) c (H.1 2 (53 + l)).toNat n).length : Nat) : Int) + 1))), (5, .int (zN ((H.1 2 (77 + (2 * ((H.1 2 (53 + l)).toNat + n))))))), (0, .ref 0), (1, .int (zN ((l : Int)))), (2, .int (zN ((c : Int)))), (4, .int (zN ((((H.1 2 (53 + l)).toNat + n : Nat) : Int))))] _ _
                refine z_iinc (pc := 193) dX11_isSo_193 (List.Mem.tail _ (List.Mem.tail _ (List.Mem.tail _ (List.Mem.tail _ (List.Mem.tail _ (List.Mem.head _)))))) (Nat.le_of_ble_eq_true rfl) ?_
                show Ev _ _ _ _ _ [(4, .int (zN ((((H.1 2 (53 + l)).toNat + n : Nat) : Int) + 1))), (3, .int (zN ((((rrun (H.1 2) (H.1 6) c (H.1 2 (53 + l)).toNat n).length : Nat) : Int) + 1))), (5, .int (zN ((H.1 2 (77 + (2 * ((H.1 2 (53 + l)).toNat + n))))))), (0, .ref 0), (1, .int (zN ((l : Int)))), (2, .int (zN ((c : Int))))] _ _
                refine x_goto (pc := 196) (tgt := 13) dX11_isSo_196 (by decide) ?_
                have nx3 : rrun (H.1 2) (H.1 6) c (H.1 2 (53 + l)).toNat (n + 1) = fct (H.1 2) (H.1 6) (H.1 2 (77 + 2 * ((H.1 2 (53 + l)).toNat + n))) (H.1 2 (78 + 2 * ((H.1 2 (53 + l)).toNat + n))) c :: (rrun (H.1 2) (H.1 6) c (H.1 2 (53 + l)).toNat n) := by rw [nx]; unfold rstep; rw [if_neg (by omega), if_neg (by omega), if_neg (by omega)]
                have hpn : PileIs (fun j => if j = (rrun (H.1 2) (H.1 6) c (H.1 2 (53 + l)).toNat n).length then 0 else f j) (rrun (H.1 2) (H.1 6) c (H.1 2 (53 + l)).toNat (n + 1)) := by rw [nx3]; exact ⟨by show (if (rrun (H.1 2) (H.1 6) c (H.1 2 (53 + l)).toNat n).length = (rrun (H.1 2) (H.1 6) c (H.1 2 (53 + l)).toNat n).length then 0 else f (rrun (H.1 2) (H.1 6) c (H.1 2 (53 + l)).toNat n).length) = _; rw [if_pos rfl, hfc]; rfl, PileIs_up hp (Nat.le_refl _)⟩
                have hln : (rrun (H.1 2) (H.1 6) c (H.1 2 (53 + l)).toNat (n + 1)).length = (rrun (H.1 2) (H.1 6) c (H.1 2 (53 + l)).toNat n).length + 1 := by rw [nx3]; rfl
                refine x_weaken (L1 := [(0, .ref 0), (1, .int (zN ((l : Int)))), (2, .int (zN ((c : Int)))), (3, .int (zN ((((rrun (H.1 2) (H.1 6) c (H.1 2 (53 + l)).toNat (n + 1)).length : Nat) : Int)))), (4, .int (zN ((((H.1 2 (53 + l)).toNat + (n + 1) : Nat) : Int))))]) (List.forall_mem_cons.mpr ⟨(List.Mem.tail _ (List.Mem.tail _ (List.Mem.tail _ (List.Mem.head _)))), (List.forall_mem_cons.mpr ⟨(List.Mem.tail _ (List.Mem.tail _ (List.Mem.tail _ (List.Mem.tail _ (List.Mem.head _))))), (List.forall_mem_cons.mpr ⟨(List.Mem.tail _ (List.Mem.tail _ (List.Mem.tail _ (List.Mem.tail _ (List.Mem.tail _ (List.Mem.head _)))))), (List.forall_mem_cons.mpr ⟨(mem_ci (by omega) (List.Mem.tail _ (List.Mem.head _))), (List.forall_mem_cons.mpr ⟨(mem_ci (by omega) (List.Mem.head _)), (fun _ h => absurd h List.not_mem_nil)⟩)⟩)⟩)⟩)⟩) ?_
                have he39 : (wI (wA H 8 (f)) 8 ((rrun (H.1 2) (H.1 6) c (H.1 2 (53 + l)).toNat n).length) (0)) = (wA H 8 ((fun j => if j = (rrun (H.1 2) (H.1 6) c (H.1 2 (53 + l)).toNat n).length then 0 else f j))) := wI_wA H 8 _ f _
                refine Ev_heq he39 ?_
                have ok40 : okZ (wA H 8 ((fun j => if j = (rrun (H.1 2) (H.1 6) c (H.1 2 (53 + l)).toNat n).length then 0 else f j))) := by rw [← he39]; exact ok38
                exact ih13 ((n + 1)) ((fun j => if j = (rrun (H.1 2) (H.1 6) c (H.1 2 (53 + l)).toNat n).length then 0 else f j)) ok40 (by omega) (hpn) (by omega)
            · skip
              obtain ⟨b, a, t, est⟩ := len2 (st := (rrun (H.1 2) (H.1 6) c (H.1 2 (53 + l)).toNat n)) (by have := wn3 (by omega); omega)
              have el : (rrun (H.1 2) (H.1 6) c (H.1 2 (53 + l)).toNat n).length = t.length + 2 := by rw [est]; rfl
              have hpb := hp
              rw [est] at hpb
              have hf1 : f ((rrun (H.1 2) (H.1 6) c (H.1 2 (53 + l)).toNat n).length - 1) = (if b = true then 1 else 0) := by rw [show (rrun (H.1 2) (H.1 6) c (H.1 2 (53 + l)).toNat n).length - 1 = (a :: t).length by simp; omega]; exact hpb.1
              have hf2 : f ((rrun (H.1 2) (H.1 6) c (H.1 2 (53 + l)).toNat n).length - 2) = (if a = true then 1 else 0) := by rw [show (rrun (H.1 2) (H.1 6) c (H.1 2 (53 + l)).toNat n).length - 2 = t.length by omega]; exact hpb.2.1
              have bb := b01 b
              have ba := b01 a
              refine z_iinc (pc := 89) dX11_isSo_89 (List.Mem.tail _ (List.Mem.tail _ (List.Mem.tail _ (List.Mem.tail _ (List.Mem.head _))))) (Nat.le_of_ble_eq_true rfl) ?_
              show Ev _ _ _ _ _ [(3, .int (zN ((((rrun (H.1 2) (H.1 6) c (H.1 2 (53 + l)).toNat n).length : Nat) : Int) + (-1)))), (5, .int (zN ((H.1 2 (77 + (2 * ((H.1 2 (53 + l)).toNat + n))))))), (0, .ref 0), (1, .int (zN ((l : Int)))), (2, .int (zN ((c : Int)))), (4, .int (zN ((((H.1 2 (53 + l)).toNat + n : Nat) : Int))))] _ _
              refine x_aload_n (pc := 92) dX11_isSo_92 (List.Mem.tail _ (List.Mem.tail _ (List.Mem.head _))) ?_
              refine z_getR (pc := 93) (k := 20) (r := 8) dX11_isSo_93 lf_X11_39 sh_0 rfl rf_0_20 ?_
              refine x_iload_n (pc := 96) dX11_isSo_96 (List.Mem.head _) ?_
              refine z_iconst (pc := 97) dX11_isSo_97 ?_
              refine z_isub (pc := 98) dX11_isSo_98 ?_
              refine x_iload (pc := 99) dX11_isSo_99 (List.Mem.tail _ (List.Mem.head _)) ?_
              refine z_bipush (pc := 101) dX11_isSo_101 bp_20 ?_
              refine z_icmp_ne (pc := 103) (tgt := 134) dX11_isSo_103 (by decide) (by omega) (by omega) (by decide) (by decide) (fun hb41 => ?_) (fun hb41 => ?_)
              · skip
                refine x_aload_n (pc := 134) dX11_isSo_134 (List.Mem.tail _ (List.Mem.tail _ (List.Mem.head _))) ?_
                refine z_getR (pc := 135) (k := 20) (r := 8) dX11_isSo_135 lf_X11_39 sh_0 rfl rf_0_20 ?_
                refine x_iload_n (pc := 138) dX11_isSo_138 (List.Mem.head _) ?_
                refine z_iconst (pc := 139) dX11_isSo_139 ?_
                refine z_isub (pc := 140) dX11_isSo_140 ?_
                refine z_zald (pc := 141) (j := (rrun (H.1 2) (H.1 6) c (H.1 2 (53 + l)).toNat n).length - 2) (v := (if a = true then 1 else 0)) dX11_isSo_141 sh_8 (by omega) (by omega) (by decide) (by rw [wA1]; exact hf2) ?_
                refine z_if_ne (pc := 142) (tgt := 154) dX11_isSo_142 (by decide) (by omega) (by omega) (fun hb42 => ?_) (fun hb42 => ?_)
                · skip
                  have hAt := ite01_1 hb42
                  refine z_iconst (pc := 154) dX11_isSo_154 ?_
                  refine x_goto (pc := 155) (tgt := 159) dX11_isSo_155 (by decide) ?_
                  refine z_zast (pc := 159) (j := (rrun (H.1 2) (H.1 6) c (H.1 2 (53 + l)).toNat n).length - 2) (v := 1) dX11_isSo_159 sh_8 (by omega) (by omega) (by decide) (by omega) ?_
                  have ok43 := okI okl13 8 ((rrun (H.1 2) (H.1 6) c (H.1 2 (53 + l)).toNat n).length - 2) (v := 1) (by decide) (by decide)
                  refine x_goto (pc := 160) (tgt := 193) dX11_isSo_160 (by decide) ?_
                  refine z_iinc (pc := 193) dX11_isSo_193 (List.Mem.tail _ (List.Mem.tail _ (List.Mem.tail _ (List.Mem.tail _ (List.Mem.tail _ (List.Mem.head _)))))) (Nat.le_of_ble_eq_true rfl) ?_
                  show Ev _ _ _ _ _ [(4, .int (zN ((((H.1 2 (53 + l)).toNat + n : Nat) : Int) + 1))), (3, .int (zN ((((rrun (H.1 2) (H.1 6) c (H.1 2 (53 + l)).toNat n).length : Nat) : Int) + (-1)))), (5, .int (zN ((H.1 2 (77 + (2 * ((H.1 2 (53 + l)).toNat + n))))))), (0, .ref 0), (1, .int (zN ((l : Int)))), (2, .int (zN ((c : Int))))] _ _
                  refine x_goto (pc := 196) (tgt := 13) dX11_isSo_196 (by decide) ?_
                  have hv : ∃ x : Bool, rrun (H.1 2) (H.1 6) c (H.1 2 (53 + l)).toNat (n + 1) = x :: t ∧ (1 : Int) = (if x = true then 1 else 0) := by
                    rw [nx, est]; unfold rstep; rw [if_neg (by omega)]
                    first | (rw [if_pos (by omega)]; refine ⟨_, rfl, ?_⟩) | (rw [if_neg (by omega), if_pos (by omega)]; refine ⟨_, rfl, ?_⟩)
                    all_goals first | (exfalso; omega) | (rw [hAf, hBf]; done) | (rw [hAf, hBf]; rfl) | (rw [hAf, hBt]; done) | (rw [hAf, hBt]; rfl) | (rw [hAt, hBf]; done) | (rw [hAt, hBf]; rfl) | (rw [hAt, hBt]; done) | (rw [hAt, hBt]; rfl) | (rw [hAf]; done) | (rw [hAf]; rfl) | (rw [hAt]; done) | (rw [hAt]; rfl)
                  obtain ⟨x, nx3, hv⟩ := hv
                  have hpn : PileIs (fun j => if j = (rrun (H.1 2) (H.1 6) c (H.1 2 (53 + l)).toNat n).length - 2 then 1 else f j) (rrun (H.1 2) (H.1 6) c (H.1 2 (53 + l)).toNat (n + 1)) := by rw [nx3]; exact ⟨by show (if t.length = (rrun (H.1 2) (H.1 6) c (H.1 2 (53 + l)).toNat n).length - 2 then 1 else f t.length) = _; rw [if_pos (by omega)]; exact hv, PileIs_up hpb.2.2 (by omega)⟩
                  have hln : (rrun (H.1 2) (H.1 6) c (H.1 2 (53 + l)).toNat (n + 1)).length + 1 = (rrun (H.1 2) (H.1 6) c (H.1 2 (53 + l)).toNat n).length := by rw [nx3, el]; rfl
                  refine x_weaken (L1 := [(0, .ref 0), (1, .int (zN ((l : Int)))), (2, .int (zN ((c : Int)))), (3, .int (zN ((((rrun (H.1 2) (H.1 6) c (H.1 2 (53 + l)).toNat (n + 1)).length : Nat) : Int)))), (4, .int (zN ((((H.1 2 (53 + l)).toNat + (n + 1) : Nat) : Int))))]) (List.forall_mem_cons.mpr ⟨(List.Mem.tail _ (List.Mem.tail _ (List.Mem.tail _ (List.Mem.head _)))), (List.forall_mem_cons.mpr ⟨(List.Mem.tail _ (List.Mem.tail _ (List.Mem.tail _ (List.Mem.tail _ (List.Mem.head _))))), (List.forall_mem_cons.mpr ⟨(List.Mem.tail _ (List.Mem.tail _ (List.Mem.tail _ (List.Mem.tail _ (List.Mem.tail _ (List.Mem.head _)))))), (List.forall_mem_cons.mpr ⟨(mem_ci (by omega) (List.Mem.tail _ (List.Mem.head _))), (List.forall_mem_cons.mpr ⟨(mem_ci (by omega) (List.Mem.head _)), (fun _ h => absurd h List.not_mem_nil)⟩)⟩)⟩)⟩)⟩) ?_
                  have he44 : (wI (wA H 8 (f)) 8 ((rrun (H.1 2) (H.1 6) c (H.1 2 (53 + l)).toNat n).length - 2) (1)) = (wA H 8 ((fun j => if j = (rrun (H.1 2) (H.1 6) c (H.1 2 (53 + l)).toNat n).length - 2 then 1 else f j))) := wI_wA H 8 _ f _
                  refine Ev_heq he44 ?_
                  have ok45 : okZ (wA H 8 ((fun j => if j = (rrun (H.1 2) (H.1 6) c (H.1 2 (53 + l)).toNat n).length - 2 then 1 else f j))) := by rw [← he44]; exact ok43
                  exact ih13 ((n + 1)) ((fun j => if j = (rrun (H.1 2) (H.1 6) c (H.1 2 (53 + l)).toNat n).length - 2 then 1 else f j)) ok45 (by omega) (hpn) (by omega)
                · skip
                  have hAf := ite01_0 hb42
                  refine x_aload_n (pc := 145) dX11_isSo_145 (List.Mem.tail _ (List.Mem.tail _ (List.Mem.head _))) ?_
                  refine z_getR (pc := 146) (k := 20) (r := 8) dX11_isSo_146 lf_X11_39 sh_0 rfl rf_0_20 ?_
                  refine x_iload_n (pc := 149) dX11_isSo_149 (List.Mem.head _) ?_
                  refine z_zald (pc := 150) (j := (rrun (H.1 2) (H.1 6) c (H.1 2 (53 + l)).toNat n).length - 1) (v := (if b = true then 1 else 0)) dX11_isSo_150 sh_8 (by omega) (by omega) (by decide) (by rw [wA1]; exact hf1) ?_
                  refine z_if_eq (pc := 151) (tgt := 158) dX11_isSo_151 (by decide) (by omega) (by omega) (fun hb46 => ?_) (fun hb46 => ?_)
                  · skip
                    have hBf := ite01_0 hb46
                    refine z_iconst (pc := 158) dX11_isSo_158 ?_
                    refine z_zast (pc := 159) (j := (rrun (H.1 2) (H.1 6) c (H.1 2 (53 + l)).toNat n).length - 2) (v := 0) dX11_isSo_159 sh_8 (by omega) (by omega) (by decide) (by omega) ?_
                    have ok47 := okI okl13 8 ((rrun (H.1 2) (H.1 6) c (H.1 2 (53 + l)).toNat n).length - 2) (v := 0) (by decide) (by decide)
                    refine x_goto (pc := 160) (tgt := 193) dX11_isSo_160 (by decide) ?_
                    refine z_iinc (pc := 193) dX11_isSo_193 (List.Mem.tail _ (List.Mem.tail _ (List.Mem.tail _ (List.Mem.tail _ (List.Mem.tail _ (List.Mem.head _)))))) (Nat.le_of_ble_eq_true rfl) ?_
                    show Ev _ _ _ _ _ [(4, .int (zN ((((H.1 2 (53 + l)).toNat + n : Nat) : Int) + 1))), (3, .int (zN ((((rrun (H.1 2) (H.1 6) c (H.1 2 (53 + l)).toNat n).length : Nat) : Int) + (-1)))), (5, .int (zN ((H.1 2 (77 + (2 * ((H.1 2 (53 + l)).toNat + n))))))), (0, .ref 0), (1, .int (zN ((l : Int)))), (2, .int (zN ((c : Int))))] _ _
                    refine x_goto (pc := 196) (tgt := 13) dX11_isSo_196 (by decide) ?_
                    have hv : ∃ x : Bool, rrun (H.1 2) (H.1 6) c (H.1 2 (53 + l)).toNat (n + 1) = x :: t ∧ (0 : Int) = (if x = true then 1 else 0) := by
                      rw [nx, est]; unfold rstep; rw [if_neg (by omega)]
                      first | (rw [if_pos (by omega)]; refine ⟨_, rfl, ?_⟩) | (rw [if_neg (by omega), if_pos (by omega)]; refine ⟨_, rfl, ?_⟩)
                      all_goals first | (exfalso; omega) | (rw [hAf, hBf]; done) | (rw [hAf, hBf]; rfl) | (rw [hAf, hBt]; done) | (rw [hAf, hBt]; rfl) | (rw [hAt, hBf]; done) | (rw [hAt, hBf]; rfl) | (rw [hAt, hBt]; done) | (rw [hAt, hBt]; rfl) | (rw [hAf]; done) | (rw [hAf]; rfl) | (rw [hAt]; done) | (rw [hAt]; rfl)
                    obtain ⟨x, nx3, hv⟩ := hv
                    have hpn : PileIs (fun j => if j = (rrun (H.1 2) (H.1 6) c (H.1 2 (53 + l)).toNat n).length - 2 then 0 else f j) (rrun (H.1 2) (H.1 6) c (H.1 2 (53 + l)).toNat (n + 1)) := by rw [nx3]; exact ⟨by show (if t.length = (rrun (H.1 2) (H.1 6) c (H.1 2 (53 + l)).toNat n).length - 2 then 0 else f t.length) = _; rw [if_pos (by omega)]; exact hv, PileIs_up hpb.2.2 (by omega)⟩
                    have hln : (rrun (H.1 2) (H.1 6) c (H.1 2 (53 + l)).toNat (n + 1)).length + 1 = (rrun (H.1 2) (H.1 6) c (H.1 2 (53 + l)).toNat n).length := by rw [nx3, el]; rfl
                    refine x_weaken (L1 := [(0, .ref 0), (1, .int (zN ((l : Int)))), (2, .int (zN ((c : Int)))), (3, .int (zN ((((rrun (H.1 2) (H.1 6) c (H.1 2 (53 + l)).toNat (n + 1)).length : Nat) : Int)))), (4, .int (zN ((((H.1 2 (53 + l)).toNat + (n + 1) : Nat) : Int))))]) (List.forall_mem_cons.mpr ⟨(List.Mem.tail _ (List.Mem.tail _ (List.Mem.tail _ (List.Mem.head _)))), (List.forall_mem_cons.mpr ⟨(List.Mem.tail _ (List.Mem.tail _ (List.Mem.tail _ (List.Mem.tail _ (List.Mem.head _))))), (List.forall_mem_cons.mpr ⟨(List.Mem.tail _ (List.Mem.tail _ (List.Mem.tail _ (List.Mem.tail _ (List.Mem.tail _ (List.Mem.head _)))))), (List.forall_mem_cons.mpr ⟨(mem_ci (by omega) (List.Mem.tail _ (List.Mem.head _))), (List.forall_mem_cons.mpr ⟨(mem_ci (by omega) (List.Mem.head _)), (fun _ h => absurd h List.not_mem_nil)⟩)⟩)⟩)⟩)⟩) ?_
                    have he48 : (wI (wA H 8 (f)) 8 ((rrun (H.1 2) (H.1 6) c (H.1 2 (53 + l)).toNat n).length - 2) (0)) = (wA H 8 ((fun j => if j = (rrun (H.1 2) (H.1 6) c (H.1 2 (53 + l)).toNat n).length - 2 then 0 else f j))) := wI_wA H 8 _ f _
                    refine Ev_heq he48 ?_
                    have ok49 : okZ (wA H 8 ((fun j => if j = (rrun (H.1 2) (H.1 6) c (H.1 2 (53 + l)).toNat n).length - 2 then 0 else f j))) := by rw [← he48]; exact ok47
                    exact ih13 ((n + 1)) ((fun j => if j = (rrun (H.1 2) (H.1 6) c (H.1 2 (53 + l)).toNat n).length - 2 then 0 else f j)) ok49 (by omega) (hpn) (by omega)
                  · skip
                    have hBt := ite01_1 hb46
                    refine z_iconst (pc := 154) dX11_isSo_154 ?_
                    refine x_goto (pc := 155) (tgt := 159) dX11_isSo_155 (by decide) ?_
                    refine z_zast (pc := 159) (j := (rrun (H.1 2) (H.1 6) c (H.1 2 (53 + l)).toNat n).length - 2) (v := 1) dX11_isSo_159 sh_8 (by omega) (by omega) (by decide) (by omega) ?_
                    have ok50 := okI okl13 8 ((rrun (H.1 2) (H.1 6) c (H.1 2 (53 + l)).toNat n).length - 2) (v := 1) (by decide) (by decide)
                    refine x_goto (pc := 160) (tgt := 193) dX11_isSo_160 (by decide) ?_
                    refine z_iinc (pc := 193) dX11_isSo_193 (List.Mem.tail _ (List.Mem.tail _ (List.Mem.tail _ (List.Mem.tail _ (List.Mem.tail _ (List.Mem.head _)))))) (Nat.le_of_ble_eq_true rfl) ?_
                    show Ev _ _ _ _ _ [(4, .int (zN ((((H.1 2 (53 + l)).toNat + n : Nat) : Int) + 1))), (3, .int (zN ((((rrun (H.1 2) (H.1 6) c (H.1 2 (53 + l)).toNat n).length : Nat) : Int) + (-1)))), (5, .int (zN ((H.1 2 (77 + (2 * ((H.1 2 (53 + l)).toNat + n))))))), (0, .ref 0), (1, .int (zN ((l : Int)))), (2, .int (zN ((c : Int))))] _ _
                    refine x_goto (pc := 196) (tgt := 13) dX11_isSo_196 (by decide) ?_
                    have hv : ∃ x : Bool, rrun (H.1 2) (H.1 6) c (H.1 2 (53 + l)).toNat (n + 1) = x :: t ∧ (1 : Int) = (if x = true then 1 else 0) := by
                      rw [nx, est]; unfold rstep; rw [if_neg (by omega)]
                      first | (rw [if_pos (by omega)]; refine ⟨_, rfl, ?_⟩) | (rw [if_neg (by omega), if_pos (by omega)]; refine ⟨_, rfl, ?_⟩)
                      all_goals first | (exfalso; omega) | (rw [hAf, hBf]; done) | (rw [hAf, hBf]; rfl) | (rw [hAf, hBt]; done) | (rw [hAf, hBt]; rfl) | (rw [hAt, hBf]; done) | (rw [hAt, hBf]; rfl) | (rw [hAt, hBt]; done) | (rw [hAt, hBt]; rfl) | (rw [hAf]; done) | (rw [hAf]; rfl) | (rw [hAt]; done) | (rw [hAt]; rfl)
                    obtain ⟨x, nx3, hv⟩ := hv
                    have hpn : PileIs (fun j => if j = (rrun (H.1 2) (H.1 6) c (H.1 2 (53 + l)).toNat n).length - 2 then 1 else f j) (rrun (H.1 2) (H.1 6) c (H.1 2 (53 + l)).toNat (n + 1)) := by rw [nx3]; exact ⟨by show (if t.length = (rrun (H.1 2) (H.1 6) c (H.1 2 (53 + l)).toNat n).length - 2 then 1 else f t.length) = _; rw [if_pos (by omega)]; exact hv, PileIs_up hpb.2.2 (by omega)⟩
                    have hln : (rrun (H.1 2) (H.1 6) c (H.1 2 (53 + l)).toNat (n + 1)).length + 1 = (rrun (H.1 2) (H.1 6) c (H.1 2 (53 + l)).toNat n).length := by rw [nx3, el]; rfl
                    refine x_weaken (L1 := [(0, .ref 0), (1, .int (zN ((l : Int)))), (2, .int (zN ((c : Int)))), (3, .int (zN ((((rrun (H.1 2) (H.1 6) c (H.1 2 (53 + l)).toNat (n + 1)).length : Nat) : Int)))), (4, .int (zN ((((H.1 2 (53 + l)).toNat + (n + 1) : Nat) : Int))))]) (List.forall_mem_cons.mpr ⟨(List.Mem.tail _ (List.Mem.tail _ (List.Mem.tail _ (List.Mem.head _)))), (List.forall_mem_cons.mpr ⟨(List.Mem.tail _ (List.Mem.tail _ (List.Mem.tail _ (List.Mem.tail _ (List.Mem.head _))))), (List.forall_mem_cons.mpr ⟨(List.Mem.tail _ (List.Mem.tail _ (List.Mem.tail _ (List.Mem.tail _ (List.Mem.tail _ (List.Mem.head _)))))), (List.forall_mem_cons.mpr ⟨(mem_ci (by omega) (List.Mem.tail _ (List.Mem.head _))), (List.forall_mem_cons.mpr ⟨(mem_ci (by omega) (List.Mem.head _)), (fun _ h => absurd h List.not_mem_nil)⟩)⟩)⟩)⟩)⟩) ?_
                    have he51 : (wI (wA H 8 (f)) 8 ((rrun (H.1 2) (H.1 6) c (H.1 2 (53 + l)).toNat n).length - 2) (1)) = (wA H 8 ((fun j => if j = (rrun (H.1 2) (H.1 6) c (H.1 2 (53 + l)).toNat n).length - 2 then 1 else f j))) := wI_wA H 8 _ f _
                    refine Ev_heq he51 ?_
                    have ok52 : okZ (wA H 8 ((fun j => if j = (rrun (H.1 2) (H.1 6) c (H.1 2 (53 + l)).toNat n).length - 2 then 1 else f j))) := by rw [← he51]; exact ok50
                    exact ih13 ((n + 1)) ((fun j => if j = (rrun (H.1 2) (H.1 6) c (H.1 2 (53 + l)).toNat n).length - 2 then 1 else f j)) ok52 (by omega) (hpn) (by omega)
              · skip
                refine x_aload_n (pc := 106) dX11_isSo_106 (List.Mem.tail _ (List.Mem.tail _ (List.Mem.head _))) ?_
                refine z_getR (pc := 107) (k := 20) (r := 8) dX11_isSo_107 lf_X11_39 sh_0 rfl rf_0_20 ?_
                refine x_iload_n (pc := 110) dX11_isSo_110 (List.Mem.head _) ?_
                refine z_iconst (pc := 111) dX11_isSo_111 ?_
                refine z_isub (pc := 112) dX11_isSo_112 ?_
                refine z_zald (pc := 113) (j := (rrun (H.1 2) (H.1 6) c (H.1 2 (53 + l)).toNat n).length - 2) (v := (if a = true then 1 else 0)) dX11_isSo_113 sh_8 (by omega) (by omega) (by decide) (by rw [wA1]; exact hf2) ?_
                refine z_if_eq (pc := 114) (tgt := 130) dX11_isSo_114 (by decide) (by omega) (by omega) (fun hb53 => ?_) (fun hb53 => ?_)
                · skip
                  have hAf := ite01_0 hb53
                  refine z_iconst (pc := 130) dX11_isSo_130 ?_
                  refine x_goto (pc := 131) (tgt := 159) dX11_isSo_131 (by decide) ?_
                  refine z_zast (pc := 159) (j := (rrun (H.1 2) (H.1 6) c (H.1 2 (53 + l)).toNat n).length - 2) (v := 0) dX11_isSo_159 sh_8 (by omega) (by omega) (by decide) (by omega) ?_
                  have ok54 := okI okl13 8 ((rrun (H.1 2) (H.1 6) c (H.1 2 (53 + l)).toNat n).length - 2) (v := 0) (by decide) (by decide)
                  refine x_goto (pc := 160) (tgt := 193) dX11_isSo_160 (by decide) ?_
                  refine z_iinc (pc := 193) dX11_isSo_193 (List.Mem.tail _ (List.Mem.tail _ (List.Mem.tail _ (List.Mem.tail _ (List.Mem.tail _ (List.Mem.head _)))))) (Nat.le_of_ble_eq_true rfl) ?_
                  show Ev _ _ _ _ _ [(4, .int (zN ((((H.1 2 (53 + l)).toNat + n : Nat) : Int) + 1))), (3, .int (zN ((((rrun (H.1 2) (H.1 6) c (H.1 2 (53 + l)).toNat n).length : Nat) : Int) + (-1)))), (5, .int (zN ((H.1 2 (77 + (2 * ((H.1 2 (53 + l)).toNat + n))))))), (0, .ref 0), (1, .int (zN ((l : Int)))), (2, .int (zN ((c : Int))))] _ _
                  refine x_goto (pc := 196) (tgt := 13) dX11_isSo_196 (by decide) ?_
                  have hv : ∃ x : Bool, rrun (H.1 2) (H.1 6) c (H.1 2 (53 + l)).toNat (n + 1) = x :: t ∧ (0 : Int) = (if x = true then 1 else 0) := by
                    rw [nx, est]; unfold rstep; rw [if_neg (by omega)]
                    first | (rw [if_pos (by omega)]; refine ⟨_, rfl, ?_⟩) | (rw [if_neg (by omega), if_pos (by omega)]; refine ⟨_, rfl, ?_⟩)
                    all_goals first | (exfalso; omega) | (rw [hAf, hBf]; done) | (rw [hAf, hBf]; rfl) | (rw [hAf, hBt]; done) | (rw [hAf, hBt]; rfl) | (rw [hAt, hBf]; done) | (rw [hAt, hBf]; rfl) | (rw [hAt, hBt]; done) | (rw [hAt, hBt]; rfl) | (rw [hAf]; done) | (rw [hAf]; rfl) | (rw [hAt]; done) | (rw [hAt]; rfl)
                  obtain ⟨x, nx3, hv⟩ := hv
                  have hpn : PileIs (fun j => if j = (rrun (H.1 2) (H.1 6) c (H.1 2 (53 + l)).toNat n).length - 2 then 0 else f j) (rrun (H.1 2) (H.1 6) c (H.1 2 (53 + l)).toNat (n + 1)) := by rw [nx3]; exact ⟨by show (if t.length = (rrun (H.1 2) (H.1 6) c (H.1 2 (53 + l)).toNat n).length - 2 then 0 else f t.length) = _; rw [if_pos (by omega)]; exact hv, PileIs_up hpb.2.2 (by omega)⟩
                  have hln : (rrun (H.1 2) (H.1 6) c (H.1 2 (53 + l)).toNat (n + 1)).length + 1 = (rrun (H.1 2) (H.1 6) c (H.1 2 (53 + l)).toNat n).length := by rw [nx3, el]; rfl
                  refine x_weaken (L1 := [(0, .ref 0), (1, .int (zN ((l : Int)))), (2, .int (zN ((c : Int)))), (3, .int (zN ((((rrun (H.1 2) (H.1 6) c (H.1 2 (53 + l)).toNat (n + 1)).length : Nat) : Int)))), (4, .int (zN ((((H.1 2 (53 + l)).toNat + (n + 1) : Nat) : Int))))]) (List.forall_mem_cons.mpr ⟨(List.Mem.tail _ (List.Mem.tail _ (List.Mem.tail _ (List.Mem.head _)))), (List.forall_mem_cons.mpr ⟨(List.Mem.tail _ (List.Mem.tail _ (List.Mem.tail _ (List.Mem.tail _ (List.Mem.head _))))), (List.forall_mem_cons.mpr ⟨(List.Mem.tail _ (List.Mem.tail _ (List.Mem.tail _ (List.Mem.tail _ (List.Mem.tail _ (List.Mem.head _)))))), (List.forall_mem_cons.mpr ⟨(mem_ci (by omega) (List.Mem.tail _ (List.Mem.head _))), (List.forall_mem_cons.mpr ⟨(mem_ci (by omega) (List.Mem.head _)), (fun _ h => absurd h List.not_mem_nil)⟩)⟩)⟩)⟩)⟩) ?_
                  have he55 : (wI (wA H 8 (f)) 8 ((rrun (H.1 2) (H.1 6) c (H.1 2 (53 + l)).toNat n).length - 2) (0)) = (wA H 8 ((fun j => if j = (rrun (H.1 2) (H.1 6) c (H.1 2 (53 + l)).toNat n).length - 2 then 0 else f j))) := wI_wA H 8 _ f _
                  refine Ev_heq he55 ?_
                  have ok56 : okZ (wA H 8 ((fun j => if j = (rrun (H.1 2) (H.1 6) c (H.1 2 (53 + l)).toNat n).length - 2 then 0 else f j))) := by rw [← he55]; exact ok54
                  exact ih13 ((n + 1)) ((fun j => if j = (rrun (H.1 2) (H.1 6) c (H.1 2 (53 + l)).toNat n).length - 2 then 0 else f j)) ok56 (by omega) (hpn) (by omega)
                · skip
                  have hAt := ite01_1 hb53
                  refine x_aload_n (pc := 117) dX11_isSo_117 (List.Mem.tail _ (List.Mem.tail _ (List.Mem.head _))) ?_
                  refine z_getR (pc := 118) (k := 20) (r := 8) dX11_isSo_118 lf_X11_39 sh_0 rfl rf_0_20 ?_
                  refine x_iload_n (pc := 121) dX11_isSo_121 (List.Mem.head _) ?_
                  refine z_zald (pc := 122) (j := (rrun (H.1 2) (H.1 6) c (H.1 2 (53 + l)).toNat n).length - 1) (v := (if b = true then 1 else 0)) dX11_isSo_122 sh_8 (by omega) (by omega) (by decide) (by rw [wA1]; exact hf1) ?_
                  refine z_if_eq (pc := 123) (tgt := 130) dX11_isSo_123 (by decide) (by omega) (by omega) (fun hb57 => ?_) (fun hb57 => ?_)
                  · skip
                    have hBf := ite01_0 hb57
                    refine z_iconst (pc := 130) dX11_isSo_130 ?_
                    refine x_goto (pc := 131) (tgt := 159) dX11_isSo_131 (by decide) ?_
                    refine z_zast (pc := 159) (j := (rrun (H.1 2) (H.1 6) c (H.1 2 (53 + l)).toNat n).length - 2) (v := 0) dX11_isSo_159 sh_8 (by omega) (by omega) (by decide) (by omega) ?_
                    have ok58 := okI okl13 8 ((rrun (H.1 2) (H.1 6) c (H.1 2 (53 + l)).toNat n).length - 2) (v := 0) (by decide) (by decide)
                    refine x_goto (pc := 160) (tgt := 193) dX11_isSo_160 (by decide) ?_
                    refine z_iinc (pc := 193) dX11_isSo_193 (List.Mem.tail _ (List.Mem.tail _ (List.Mem.tail _ (List.Mem.tail _ (List.Mem.tail _ (List.Mem.head _)))))) (Nat.le_of_ble_eq_true rfl) ?_
                    show Ev _ _ _ _ _ [(4, .int (zN ((((H.1 2 (53 + l)).toNat + n : Nat) : Int) + 1))), (3, .int (zN ((((rrun (H.1 2) (H.1 6) c (H.1 2 (53 + l)).toNat n).length : Nat) : Int) + (-1)))), (5, .int (zN ((H.1 2 (77 + (2 * ((H.1 2 (53 + l)).toNat + n))))))), (0, .ref 0), (1, .int (zN ((l : Int)))), (2, .int (zN ((c : Int))))] _ _
                    refine x_goto (pc := 196) (tgt := 13) dX11_isSo_196 (by decide) ?_
                    have hv : ∃ x : Bool, rrun (H.1 2) (H.1 6) c (H.1 2 (53 + l)).toNat (n + 1) = x :: t ∧ (0 : Int) = (if x = true then 1 else 0) := by
                      rw [nx, est]; unfold rstep; rw [if_neg (by omega)]
                      first | (rw [if_pos (by omega)]; refine ⟨_, rfl, ?_⟩) | (rw [if_neg (by omega), if_pos (by omega)]; refine ⟨_, rfl, ?_⟩)
                      all_goals first | (exfalso; omega) | (rw [hAf, hBf]; done) | (rw [hAf, hBf]; rfl) | (rw [hAf, hBt]; done) | (rw [hAf, hBt]; rfl) | (rw [hAt, hBf]; done) | (rw [hAt, hBf]; rfl) | (rw [hAt, hBt]; done) | (rw [hAt, hBt]; rfl) | (rw [hAf]; done) | (rw [hAf]; rfl) | (rw [hAt]; done) | (rw [hAt]; rfl)
                    obtain ⟨x, nx3, hv⟩ := hv
                    have hpn : PileIs (fun j => if j = (rrun (H.1 2) (H.1 6) c (H.1 2 (53 + l)).toNat n).length - 2 then 0 else f j) (rrun (H.1 2) (H.1 6) c (H.1 2 (53 + l)).toNat (n + 1)) := by rw [nx3]; exact ⟨by show (if t.length = (rrun (H.1 2) (H.1 6) c (H.1 2 (53 + l)).toNat n).length - 2 then 0 else f t.length) = _; rw [if_pos (by omega)]; exact hv, PileIs_up hpb.2.2 (by omega)⟩
                    have hln : (rrun (H.1 2) (H.1 6) c (H.1 2 (53 + l)).toNat (n + 1)).length + 1 = (rrun (H.1 2) (H.1 6) c (H.1 2 (53 + l)).toNat n).length := by rw [nx3, el]; rfl
                    refine x_weaken (L1 := [(0, .ref 0), (1, .int (zN ((l : Int)))), (2, .int (zN ((c : Int)))), (3, .int (zN ((((rrun (H.1 2) (H.1 6) c (H.1 2 (53 + l)).toNat (n + 1)).length : Nat) : Int)))), (4, .int (zN ((((H.1 2 (53 + l)).toNat + (n + 1) : Nat) : Int))))]) (List.forall_mem_cons.mpr ⟨(List.Mem.tail _ (List.Mem.tail _ (List.Mem.tail _ (List.Mem.head _)))), (List.forall_mem_cons.mpr ⟨(List.Mem.tail _ (List.Mem.tail _ (List.Mem.tail _ (List.Mem.tail _ (List.Mem.head _))))), (List.forall_mem_cons.mpr ⟨(List.Mem.tail _ (List.Mem.tail _ (List.Mem.tail _ (List.Mem.tail _ (List.Mem.tail _ (List.Mem.head _)))))), (List.forall_mem_cons.mpr ⟨(mem_ci (by omega) (List.Mem.tail _ (List.Mem.head _))), (List.forall_mem_cons.mpr ⟨(mem_ci (by omega) (List.Mem.head _)), (fun _ h => absurd h List.not_mem_nil)⟩)⟩)⟩)⟩)⟩) ?_
                    have he59 : (wI (wA H 8 (f)) 8 ((rrun (H.1 2) (H.1 6) c (H.1 2 (53 + l)).toNat n).length - 2) (0)) = (wA H 8 ((fun j => if j = (rrun (H.1 2) (H.1 6) c (H.1 2 (53 + l)).toNat n).length - 2 then 0 else f j))) := wI_wA H 8 _ f _
                    refine Ev_heq he59 ?_
                    have ok60 : okZ (wA H 8 ((fun j => if j = (rrun (H.1 2) (H.1 6) c (H.1 2 (53 + l)).toNat n).length - 2 then 0 else f j))) := by rw [← he59]; exact ok58
                    exact ih13 ((n + 1)) ((fun j => if j = (rrun (H.1 2) (H.1 6) c (H.1 2 (53 + l)).toNat n).length - 2 then 0 else f j)) ok60 (by omega) (hpn) (by omega)
                  · skip
                    have hBt := ite01_1 hb57
                    refine z_iconst (pc := 126) dX11_isSo_126 ?_
                    refine x_goto (pc := 127) (tgt := 159) dX11_isSo_127 (by decide) ?_
                    refine z_zast (pc := 159) (j := (rrun (H.1 2) (H.1 6) c (H.1 2 (53 + l)).toNat n).length - 2) (v := 1) dX11_isSo_159 sh_8 (by omega) (by omega) (by decide) (by omega) ?_
                    have ok61 := okI okl13 8 ((rrun (H.1 2) (H.1 6) c (H.1 2 (53 + l)).toNat n).length - 2) (v := 1) (by decide) (by decide)
                    refine x_goto (pc := 160) (tgt := 193) dX11_isSo_160 (by decide) ?_
                    refine z_iinc (pc := 193) dX11_isSo_193 (List.Mem.tail _ (List.Mem.tail _ (List.Mem.tail _ (List.Mem.tail _ (List.Mem.tail _ (List.Mem.head _)))))) (Nat.le_of_ble_eq_true rfl) ?_
                    show Ev _ _ _ _ _ [(4, .int (zN ((((H.1 2 (53 + l)).toNat + n : Nat) : Int) + 1))), (3, .int (zN ((((rrun (H.1 2) (H.1 6) c (H.1 2 (53 + l)).toNat n).length : Nat) : Int) + (-1)))), (5, .int (zN ((H.1 2 (77 + (2 * ((H.1 2 (53 + l)).toNat + n))))))), (0, .ref 0), (1, .int (zN ((l : Int)))), (2, .int (zN ((c : Int))))] _ _
                    refine x_goto (pc := 196) (tgt := 13) dX11_isSo_196 (by decide) ?_
                    have hv : ∃ x : Bool, rrun (H.1 2) (H.1 6) c (H.1 2 (53 + l)).toNat (n + 1) = x :: t ∧ (1 : Int) = (if x = true then 1 else 0) := by
                      rw [nx, est]; unfold rstep; rw [if_neg (by omega)]
                      first | (rw [if_pos (by omega)]; refine ⟨_, rfl, ?_⟩) | (rw [if_neg (by omega), if_pos (by omega)]; refine ⟨_, rfl, ?_⟩)
                      all_goals first | (exfalso; omega) | (rw [hAf, hBf]; done) | (rw [hAf, hBf]; rfl) | (rw [hAf, hBt]; done) | (rw [hAf, hBt]; rfl) | (rw [hAt, hBf]; done) | (rw [hAt, hBf]; rfl) | (rw [hAt, hBt]; done) | (rw [hAt, hBt]; rfl) | (rw [hAf]; done) | (rw [hAf]; rfl) | (rw [hAt]; done) | (rw [hAt]; rfl)
                    obtain ⟨x, nx3, hv⟩ := hv
                    have hpn : PileIs (fun j => if j = (rrun (H.1 2) (H.1 6) c (H.1 2 (53 + l)).toNat n).length - 2 then 1 else f j) (rrun (H.1 2) (H.1 6) c (H.1 2 (53 + l)).toNat (n + 1)) := by rw [nx3]; exact ⟨by show (if t.length = (rrun (H.1 2) (H.1 6) c (H.1 2 (53 + l)).toNat n).length - 2 then 1 else f t.length) = _; rw [if_pos (by omega)]; exact hv, PileIs_up hpb.2.2 (by omega)⟩
                    have hln : (rrun (H.1 2) (H.1 6) c (H.1 2 (53 + l)).toNat (n + 1)).length + 1 = (rrun (H.1 2) (H.1 6) c (H.1 2 (53 + l)).toNat n).length := by rw [nx3, el]; rfl
                    refine x_weaken (L1 := [(0, .ref 0), (1, .int (zN ((l : Int)))), (2, .int (zN ((c : Int)))), (3, .int (zN ((((rrun (H.1 2) (H.1 6) c (H.1 2 (53 + l)).toNat (n + 1)).length : Nat) : Int)))), (4, .int (zN ((((H.1 2 (53 + l)).toNat + (n + 1) : Nat) : Int))))]) (List.forall_mem_cons.mpr ⟨(List.Mem.tail _ (List.Mem.tail _ (List.Mem.tail _ (List.Mem.head _)))), (List.forall_mem_cons.mpr ⟨(List.Mem.tail _ (List.Mem.tail _ (List.Mem.tail _ (List.Mem.tail _ (List.Mem.head _))))), (List.forall_mem_cons.mpr ⟨(List.Mem.tail _ (List.Mem.tail _ (List.Mem.tail _ (List.Mem.tail _ (List.Mem.tail _ (List.Mem.head _)))))), (List.forall_mem_cons.mpr ⟨(mem_ci (by omega) (List.Mem.tail _ (List.Mem.head _))), (List.forall_mem_cons.mpr ⟨(mem_ci (by omega) (List.Mem.head _)), (fun _ h => absurd h List.not_mem_nil)⟩)⟩)⟩)⟩)⟩) ?_
                    have he62 : (wI (wA H 8 (f)) 8 ((rrun (H.1 2) (H.1 6) c (H.1 2 (53 + l)).toNat n).length - 2) (1)) = (wA H 8 ((fun j => if j = (rrun (H.1 2) (H.1 6) c (H.1 2 (53 + l)).toNat n).length - 2 then 1 else f j))) := wI_wA H 8 _ f _
                    refine Ev_heq he62 ?_
                    have ok63 : okZ (wA H 8 ((fun j => if j = (rrun (H.1 2) (H.1 6) c (H.1 2 (53 + l)).toNat n).length - 2 then 1 else f j))) := by rw [← he62]; exact ok61
                    exact ih13 ((n + 1)) ((fun j => if j = (rrun (H.1 2) (H.1 6) c (H.1 2 (53 + l)).toNat n).length - 2 then 1 else f j)) ok63 (by omega) (hpn) (by omega)
        · skip
          obtain ⟨b, t, est⟩ := len1 (st := (rrun (H.1 2) (H.1 6) c (H.1 2 (53 + l)).toNat n)) (by have := wn2 (by omega); omega)
          have el : (rrun (H.1 2) (H.1 6) c (H.1 2 (53 + l)).toNat n).length = t.length + 1 := by rw [est]; rfl
          have hpb := hp
          rw [est] at hpb
          have hf1 : f ((rrun (H.1 2) (H.1 6) c (H.1 2 (53 + l)).toNat n).length - 1) = (if b = true then 1 else 0) := by rw [show (rrun (H.1 2) (H.1 6) c (H.1 2 (53 + l)).toNat n).length - 1 = t.length by omega]; exact hpb.1
          have nx2 : rrun (H.1 2) (H.1 6) c (H.1 2 (53 + l)).toNat (n + 1) = (!b) :: t := by rw [nx, est]; unfold rstep; rw [if_pos (by omega)]
          have bb := b01 b
          refine x_aload_n (pc := 48) dX11_isSo_48 (List.Mem.tail _ (List.Mem.head _)) ?_
          refine z_getR (pc := 49) (k := 20) (r := 8) dX11_isSo_49 lf_X11_39 sh_0 rfl rf_0_20 ?_
          refine x_iload_n (pc := 52) dX11_isSo_52 (List.Mem.tail _ (List.Mem.tail _ (List.Mem.tail _ (List.Mem.tail _ (List.Mem.head _))))) ?_
          refine z_iconst (pc := 53) dX11_isSo_53 ?_
          refine z_isub (pc := 54) dX11_isSo_54 ?_
          refine x_aload_n (pc := 55) dX11_isSo_55 (List.Mem.tail _ (List.Mem.head _)) ?_
          refine z_getR (pc := 56) (k := 20) (r := 8) dX11_isSo_56 lf_X11_39 sh_0 rfl rf_0_20 ?_
          refine x_iload_n (pc := 59) dX11_isSo_59 (List.Mem.tail _ (List.Mem.tail _ (List.Mem.tail _ (List.Mem.tail _ (List.Mem.head _))))) ?_
          refine z_iconst (pc := 60) dX11_isSo_60 ?_
          refine z_isub (pc := 61) dX11_isSo_61 ?_
          refine z_zald (pc := 62) (j := (rrun (H.1 2) (H.1 6) c (H.1 2 (53 + l)).toNat n).length - 1) (v := (if b = true then 1 else 0)) dX11_isSo_62 sh_8 (by omega) (by omega) (by decide) (by rw [wA1]; exact hf1) ?_
          refine z_if_ne (pc := 63) (tgt := 70) dX11_isSo_63 (by decide) (by omega) (by omega) (fun hb64 => ?_) (fun hb64 => ?_)
          · skip
            have hBt := ite01_1 hb64
            refine z_iconst (pc := 70) dX11_isSo_70 ?_
            refine z_zast (pc := 71) (j := (rrun (H.1 2) (H.1 6) c (H.1 2 (53 + l)).toNat n).length - 1) (v := 0) dX11_isSo_71 sh_8 (by omega) (by omega) (by decide) (by omega) ?_
            have ok65 := okI okl13 8 ((rrun (H.1 2) (H.1 6) c (H.1 2 (53 + l)).toNat n).length - 1) (v := 0) (by decide) (by decide)
            refine x_goto (pc := 72) (tgt := 193) dX11_isSo_72 (by decide) ?_
            refine z_iinc (pc := 193) dX11_isSo_193 (List.Mem.tail _ (List.Mem.tail _ (List.Mem.tail _ (List.Mem.tail _ (List.Mem.tail _ (List.Mem.head _)))))) (Nat.le_of_ble_eq_true rfl) ?_
            show Ev _ _ _ _ _ [(4, .int (zN ((((H.1 2 (53 + l)).toNat + n : Nat) : Int) + 1))), (5, .int (zN ((H.1 2 (77 + (2 * ((H.1 2 (53 + l)).toNat + n))))))), (0, .ref 0), (1, .int (zN ((l : Int)))), (2, .int (zN ((c : Int)))), (3, .int (zN ((((rrun (H.1 2) (H.1 6) c (H.1 2 (53 + l)).toNat n).length : Nat) : Int))))] _ _
            refine x_goto (pc := 196) (tgt := 13) dX11_isSo_196 (by decide) ?_
            have nx3 : rrun (H.1 2) (H.1 6) c (H.1 2 (53 + l)).toNat (n + 1) = (!b) :: t := nx2
            have hv : (0 : Int) = (if (!b) = true then 1 else 0) := by first | (rw [hBt]; rfl) | (rw [hBf]; rfl)
            have hpn : PileIs (fun j => if j = (rrun (H.1 2) (H.1 6) c (H.1 2 (53 + l)).toNat n).length - 1 then 0 else f j) (rrun (H.1 2) (H.1 6) c (H.1 2 (53 + l)).toNat (n + 1)) := by rw [nx3]; exact ⟨by show (if t.length = (rrun (H.1 2) (H.1 6) c (H.1 2 (53 + l)).toNat n).length - 1 then 0 else f t.length) = _; rw [if_pos (by omega)]; exact hv, PileIs_up hpb.2 (by omega)⟩
            have hln : (rrun (H.1 2) (H.1 6) c (H.1 2 (53 + l)).toNat (n + 1)).length = (rrun (H.1 2) (H.1 6) c (H.1 2 (53 + l)).toNat n).length := by rw [nx3, el]; rfl
            refine x_weaken (L1 := [(0, .ref 0), (1, .int (zN ((l : Int)))), (2, .int (zN ((c : Int)))), (3, .int (zN ((((rrun (H.1 2) (H.1 6) c (H.1 2 (53 + l)).toNat (n + 1)).length : Nat) : Int)))), (4, .int (zN ((((H.1 2 (53 + l)).toNat + (n + 1) : Nat) : Int))))]) (List.forall_mem_cons.mpr ⟨(List.Mem.tail _ (List.Mem.tail _ (List.Mem.head _))), (List.forall_mem_cons.mpr ⟨(List.Mem.tail _ (List.Mem.tail _ (List.Mem.tail _ (List.Mem.head _)))), (List.forall_mem_cons.mpr ⟨(List.Mem.tail _ (List.Mem.tail _ (List.Mem.tail _ (List.Mem.tail _ (List.Mem.head _))))), (List.forall_mem_cons.mpr ⟨(mem_ci (by omega) (List.Mem.tail _ (List.Mem.tail _ (List.Mem.tail _ (List.Mem.tail _ (List.Mem.tail _ (List.Mem.head _))))))), (List.forall_mem_cons.mpr ⟨(mem_ci (by omega) (List.Mem.head _)), (fun _ h => absurd h List.not_mem_nil)⟩)⟩)⟩)⟩)⟩) ?_
            have he66 : (wI (wA H 8 (f)) 8 ((rrun (H.1 2) (H.1 6) c (H.1 2 (53 + l)).toNat n).length - 1) (0)) = (wA H 8 ((fun j => if j = (rrun (H.1 2) (H.1 6) c (H.1 2 (53 + l)).toNat n).length - 1 then 0 else f j))) := wI_wA H 8 _ f _
            refine Ev_heq he66 ?_
            have ok67 : okZ (wA H 8 ((fun j => if j = (rrun (H.1 2) (H.1 6) c (H.1 2 (53 + l)).toNat n).length - 1 then 0 else f j))) := by rw [← he66]; exact ok65
            exact ih13 ((n + 1)) ((fun j => if j = (rrun (H.1 2) (H.1 6) c (H.1 2 (53 + l)).toNat n).length - 1 then 0 else f j)) ok67 (by omega) (hpn) (by omega)
          · skip
            have hBf := ite01_0 hb64
            refine z_iconst (pc := 66) dX11_isSo_66 ?_
            refine x_goto (pc := 67) (tgt := 71) dX11_isSo_67 (by decide) ?_
            refine z_zast (pc := 71) (j := (rrun (H.1 2) (H.1 6) c (H.1 2 (53 + l)).toNat n).length - 1) (v := 1) dX11_isSo_71 sh_8 (by omega) (by omega) (by decide) (by omega) ?_
            have ok68 := okI okl13 8 ((rrun (H.1 2) (H.1 6) c (H.1 2 (53 + l)).toNat n).length - 1) (v := 1) (by decide) (by decide)
            refine x_goto (pc := 72) (tgt := 193) dX11_isSo_72 (by decide) ?_
            refine z_iinc (pc := 193) dX11_isSo_193 (List.Mem.tail _ (List.Mem.tail _ (List.Mem.tail _ (List.Mem.tail _ (List.Mem.tail _ (List.Mem.head _)))))) (Nat.le_of_ble_eq_true rfl) ?_
            show Ev _ _ _ _ _ [(4, .int (zN ((((H.1 2 (53 + l)).toNat + n : Nat) : Int) + 1))), (5, .int (zN ((H.1 2 (77 + (2 * ((H.1 2 (53 + l)).toNat + n))))))), (0, .ref 0), (1, .int (zN ((l : Int)))), (2, .int (zN ((c : Int)))), (3, .int (zN ((((rrun (H.1 2) (H.1 6) c (H.1 2 (53 + l)).toNat n).length : Nat) : Int))))] _ _
            refine x_goto (pc := 196) (tgt := 13) dX11_isSo_196 (by decide) ?_
            have nx3 : rrun (H.1 2) (H.1 6) c (H.1 2 (53 + l)).toNat (n + 1) = (!b) :: t := nx2
            have hv : (1 : Int) = (if (!b) = true then 1 else 0) := by first | (rw [hBt]; rfl) | (rw [hBf]; rfl)
            have hpn : PileIs (fun j => if j = (rrun (H.1 2) (H.1 6) c (H.1 2 (53 + l)).toNat n).length - 1 then 1 else f j) (rrun (H.1 2) (H.1 6) c (H.1 2 (53 + l)).toNat (n + 1)) := by rw [nx3]; exact ⟨by show (if t.length = (rrun (H.1 2) (H.1 6) c (H.1 2 (53 + l)).toNat n).length - 1 then 1 else f t.length) = _; rw [if_pos (by omega)]; exact hv, PileIs_up hpb.2 (by omega)⟩
            have hln : (rrun (H.1 2) (H.1 6) c (H.1 2 (53 + l)).toNat (n + 1)).length = (rrun (H.1 2) (H.1 6) c (H.1 2 (53 + l)).toNat n).length := by rw [nx3, el]; rfl
            refine x_weaken (L1 := [(0, .ref 0), (1, .int (zN ((l : Int)))), (2, .int (zN ((c : Int)))), (3, .int (zN ((((rrun (H.1 2) (H.1 6) c (H.1 2 (53 + l)).toNat (n + 1)).length : Nat) : Int)))), (4, .int (zN ((((H.1 2 (53 + l)).toNat + (n + 1) : Nat) : Int))))]) (List.forall_mem_cons.mpr ⟨(List.Mem.tail _ (List.Mem.tail _ (List.Mem.head _))), (List.forall_mem_cons.mpr ⟨(List.Mem.tail _ (List.Mem.tail _ (List.Mem.tail _ (List.Mem.head _)))), (List.forall_mem_cons.mpr ⟨(List.Mem.tail _ (List.Mem.tail _ (List.Mem.tail _ (List.Mem.tail _ (List.Mem.head _))))), (List.forall_mem_cons.mpr ⟨(mem_ci (by omega) (List.Mem.tail _ (List.Mem.tail _ (List.Mem.tail _ (List.Mem.tail _ (List.Mem.tail _ (List.Mem.head _))))))), (List.forall_mem_cons.mpr ⟨(mem_ci (by omega) (List.Mem.head _)), (fun _ h => absurd h List.not_mem_nil)⟩)⟩)⟩)⟩)⟩) ?_
            have he69 : (wI (wA H 8 (f)) 8 ((rrun (H.1 2) (H.1 6) c (H.1 2 (53 + l)).toNat n).length - 1) (1)) = (wA H 8 ((fun j => if j = (rrun (H.1 2) (H.1 6) c (H.1 2 (53 + l)).toNat n).length - 1 then 1 else f j))) := wI_wA H 8 _ f _
            refine Ev_heq he69 ?_
            have ok70 : okZ (wA H 8 ((fun j => if j = (rrun (H.1 2) (H.1 6) c (H.1 2 (53 + l)).toNat n).length - 1 then 1 else f j))) := by rw [← he69]; exact ok68
            exact ih13 ((n + 1)) ((fun j => if j = (rrun (H.1 2) (H.1 6) c (H.1 2 (53 + l)).toNat n).length - 1 then 1 else f j)) ok70 (by omega) (hpn) (by omega)
  refine x_weaken (L1 := [(0, .ref 0), (1, .int (zN ((l : Int)))), (2, .int (zN ((c : Int)))), (3, .int (zN ((((rrun (H.1 2) (H.1 6) c (H.1 2 (53 + l)).toNat 0).length : Nat) : Int)))), (4, .int (zN ((((H.1 2 (53 + l)).toNat + 0 : Nat) : Int))))]) (List.forall_mem_cons.mpr ⟨(List.Mem.tail _ (List.Mem.tail _ (List.Mem.head _))), (List.forall_mem_cons.mpr ⟨(List.Mem.tail _ (List.Mem.tail _ (List.Mem.tail _ (List.Mem.head _)))), (List.forall_mem_cons.mpr ⟨(List.Mem.tail _ (List.Mem.tail _ (List.Mem.tail _ (List.Mem.tail _ (List.Mem.head _))))), (List.forall_mem_cons.mpr ⟨(mem_ci (rfl) (List.Mem.tail _ (List.Mem.head _))), (List.forall_mem_cons.mpr ⟨(mem_ci (by omega) (List.Mem.head _)), (fun _ h => absurd h List.not_mem_nil)⟩)⟩)⟩)⟩)⟩) ?_
  have he71 : H = (wA H 8 (H.1 8)) := (wA_self H 8).symm
  refine Ev_heq he71 ?_
  have ok72 : okZ (wA H 8 (H.1 8)) := by rw [← he71]; exact ok
  exact lp13 ((H.1 2 (65 + l) - H.1 2 (53 + l)).toNat - 0 + 1) (0) (H.1 8) ok72 (by omega) (True.intro) (Nat.lt_succ_self _)
