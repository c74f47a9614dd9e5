/-! GROUP G5: by how many a driver stops; the beginning of a run. -/
/-- of the first line from k on that is so (m lines; not line wo) -/
def tsp (A N : Nat → Int) (wo : Int) (c : Nat) : Nat → Nat → Int
  | 0, _ => 0
  | m + 1, k => if (k : Int) ≠ wo ∧ tso A N k c = true then A (41 + k) else tsp A N wo c m (k + 1)
theorem tsp_bd {A N : Nat → Int} {wo : Int} {c : Nat} (h : WFL A) (m k : Nat) (hk : ((k + m : Nat) : Int) ≤ A 40) : 0 ≤ tsp A N wo c m k ∧ tsp A N wo c m k ≤ 100 := by
  induction m generalizing k with
  | zero => exact ⟨Int.le_refl _, (show (0 : Int) ≤ 100 by decide)⟩
  | succ m ih =>
    show 0 ≤ (if (k : Int) ≠ wo ∧ tso A N k c = true then A (41 + k) else tsp A N wo c m (k + 1)) ∧ (if (k : Int) ≠ wo ∧ tso A N k c = true then A (41 + k) else tsp A N wo c m (k + 1)) ≤ 100
    split
    · exact (h.2 k (by omega)).1
    · exact ih (k + 1) (by omega)
/-- the reference's now as a run begins -/
def bg2 (A o : Nat → Int) (wc : Int) (n k : Nat) (j : Nat) : Int := if j < k then (if (j : Int) = wc then 0 else A (10 + j)) else if 8 ≤ j ∧ j < 8 + k then (if A 34 / 2 ^ 6 % 2 = 1 ∧ 4 < A (18 + (j - 8)) then 4 else A (18 + (j - 8))) else if j < n then 0 else o j
def bgn (A o : Nat → Int) (wc sd : Int) (j : Nat) : Int := if j = 40 then sd else if j = 39 then -1 else bg2 A o wc 42 (A 1).toNat j

theorem c_X11_stopsBy {d : Nat} {H : ZH} (ok : okZ H) {c : Nat} (hc : (c : Int) < H.1 2 1) (ws : WFS (H.1 2)) (wn : WFN (H.1 2) (H.1 6)) (wl : WFL (H.1 2)) : EvC zX (d + 4) mX11_stopsBy [.ref 0, .int (zN ((c : Int)))] (eh H) (zPi (fun (r : Int) (H1 : ZH) => r = tsp (H.1 2) (H.1 6) (H.1 0 21) c (H.1 2 40).toNat 0 ∧ ∃ f, H1 = wA H 8 f)) := by
  show _ ∧ Ev zX mX11_stopsBy (EvC zX (d + 3)) (zPi (fun (r : Int) (H1 : ZH) => r = tsp (H.1 2) (H.1 6) (H.1 0 21) c (H.1 2 40).toNat 0 ∧ ∃ f, H1 = wA H 8 f)) 0 [(0, .ref 0), (1, .int (zN ((c : Int))))] [] (eh H)
  refine ⟨Nat.le_of_ble_eq_true rfl, ?_⟩
  have wl40 := wl.1
  refine z_iconst (pc := 0) dX11_stopsBy_0 ?_
  refine x_istore_n (pc := 1) dX11_stopsBy_1 (Nat.le_of_ble_eq_true rfl) ?_
  show Ev _ _ _ _ _ [(2, .int (zN (0))), (0, .ref 0), (1, .int (zN ((c : Int))))] _ _
  have lp2 : ∀ (nF : Nat) (k : Nat) (f : Nat → Int), okZ (wA H 8 (f)) → ((k : Int) ≤ H.1 2 40) → (tsp (H.1 2) (H.1 6) (H.1 0 21) c (H.1 2 40).toNat 0 = tsp (H.1 2) (H.1 6) (H.1 0 21) c ((H.1 2 40).toNat - k) k) → (H.1 2 40).toNat - k < nF → Ev zX mX11_stopsBy (EvC zX (d + 3)) (zPi (fun (r : Int) (H1 : ZH) => r = tsp (H.1 2) (H.1 6) (H.1 0 21) c (H.1 2 40).toNat 0 ∧ ∃ f, H1 = wA H 8 f)) 2 [(0, .ref 0), (1, .int (zN ((c : Int)))), (2, .int (zN ((k : Int))))] [] (eh (wA H 8 (f))) := by
    intro nF
    induction nF with
    | zero => intro k f okl2 hk hz hm; exact absurd hm (Nat.not_lt_zero _)
    | succ nF ih2 =>
      intro k f okl2 hk hz hm
      refine x_iload_n (pc := 2) dX11_stopsBy_2 (List.Mem.tail _ (List.Mem.tail _ (List.Mem.head _))) ?_
      refine x_aload_n (pc := 3) dX11_stopsBy_3 (List.Mem.head _) ?_
      refine z_getR (pc := 4) (k := 2) (r := 2) dX11_stopsBy_4 lf_X11_17 sh_0 rfl rf_0_2 ?_
      refine z_bipush (pc := 7) dX11_stopsBy_7 bp_40 ?_
      have rd1 := ok.1 2 40
      refine z_iald (pc := 9) (j := 40) (v := H.1 2 40) dX11_stopsBy_9 sh_2 rfl (Nat.le_of_ble_eq_true rfl) (by decide) (by rw [wA1c (by omega)]) ?_
      refine z_icmp_ge (pc := 10) (tgt := 46) dX11_stopsBy_10 (by decide) (by omega) (by omega) (by omega) (by omega) (fun hb2 => ?_) (fun hb2 => ?_)
      · skip
        refine z_iconst (pc := 46) dX11_stopsBy_46 ?_
        refine z_ireturn (pc := 47) dX11_stopsBy_47 rfl (Or.inl rfl) okl2 (by decide) (by decide) ?_
        exact ⟨by rw [hz, show (H.1 2 40).toNat - k = 0 by omega]; rfl, _, rfl⟩
      · skip
        refine x_iload_n (pc := 13) dX11_stopsBy_13 (List.Mem.tail _ (List.Mem.tail _ (List.Mem.head _))) ?_
        refine x_aload_n (pc := 14) dX11_stopsBy_14 (List.Mem.head _) ?_
        have rd3 := ok.1 0 21
        refine z_getI (pc := 15) (k := 21) (v := H.1 0 21) dX11_stopsBy_15 lf_X11_42 sh_0 rfl (by rw [wA1c (by omega)]) ?_
        refine z_icmp_eq (pc := 18) (tgt := 40) dX11_stopsBy_18 (by decide) (by omega) (by omega) (by omega) (by omega) (fun hb4 => ?_) (fun hb4 => ?_)
        · skip
          refine z_iinc (pc := 40) dX11_stopsBy_40 (List.Mem.tail _ (List.Mem.tail _ (List.Mem.head _))) (Nat.le_of_ble_eq_true rfl) ?_
          show Ev _ _ _ _ _ [(2, .int (zN ((k : Int) + 1))), (0, .ref 0), (1, .int (zN ((c : Int))))] _ _
          refine x_goto (pc := 43) (tgt := 2) dX11_stopsBy_43 (by decide) ?_
          refine x_weaken (L1 := [(0, .ref 0), (1, .int (zN ((c : Int)))), (2, .int (zN ((((k + 1) : Nat) : Int))))]) (List.forall_mem_cons.mpr ⟨(List.Mem.tail _ (List.Mem.head _)), (List.forall_mem_cons.mpr ⟨(List.Mem.tail _ (List.Mem.tail _ (List.Mem.head _))), (List.forall_mem_cons.mpr ⟨(mem_ci (by omega) (List.Mem.head _)), (fun _ h => absurd h List.not_mem_nil)⟩)⟩)⟩) ?_
          have he5 : (wA H 8 (f)) = (wA H 8 ((f))) := rfl
          refine Ev_heq he5 ?_
          have ok6 : okZ (wA H 8 ((f))) := by rw [← he5]; exact okl2
          exact ih2 ((k + 1)) ((f)) ok6 (by first | assumption | omega) (by rw [hz, show (H.1 2 40).toNat - k = ((H.1 2 40).toNat - (k + 1)) + 1 by omega]; exact if_neg (fun q => by first | exact q.1 (by omega) | (rw [hTf] at q; exact absurd q.2 (by decide)))) (by omega)
        · skip
          refine x_aload_n (pc := 21) dX11_stopsBy_21 (List.Mem.head _) ?_
          refine x_iload_n (pc := 22) dX11_stopsBy_22 (List.Mem.tail _ (List.Mem.tail _ (List.Mem.head _))) ?_
          refine x_iload_n (pc := 23) dX11_stopsBy_23 (List.Mem.tail _ (List.Mem.head _)) ?_
          refine z_callVi (pc := 24) (i := mX11_isSo) (S := []) [.int (zN ((k : Int))), .int (zN ((c : Int)))] dX11_stopsBy_24 ml_X11_236 ok_X11_isSo rfl sh_0 rfl (Or.inr rfl) (Nat.le_of_ble_eq_true rfl) (c_X11_isSo (d := d) (l := k) (c := c) (hl := (show (k : Int) < H.1 2 40 by omega)) (hc := hc) (ok := okl2) (ws := ws) (wn := wn) (wl := wl)) ?_
          intro r7 H10 r7a r7b ok8 hp9
          obtain ⟨er, f2, ef⟩ := hp9
          rw [wA_wA] at ef
          subst ef
          have er2 : r7 = (if tso (H.1 2) (H.1 6) k c = true then 1 else 0) := er
          refine z_if_eq (pc := 27) (tgt := 40) dX11_stopsBy_27 (by decide) (by omega) (by omega) (fun hb11 => ?_) (fun hb11 => ?_)
          · skip
            rw [er2] at hb11
            have hTf := ite01_0 hb11
            refine z_iinc (pc := 40) dX11_stopsBy_40 (List.Mem.tail _ (List.Mem.tail _ (List.Mem.head _))) (Nat.le_of_ble_eq_true rfl) ?_
            show Ev _ _ _ _ _ [(2, .int (zN ((k : Int) + 1))), (0, .ref 0), (1, .int (zN ((c : Int))))] _ _
            refine x_goto (pc := 43) (tgt := 2) dX11_stopsBy_43 (by decide) ?_
            refine x_weaken (L1 := [(0, .ref 0), (1, .int (zN ((c : Int)))), (2, .int (zN ((((k + 1) : Nat) : Int))))]) (List.forall_mem_cons.mpr ⟨(List.Mem.tail _ (List.Mem.head _)), (List.forall_mem_cons.mpr ⟨(List.Mem.tail _ (List.Mem.tail _ (List.Mem.head _))), (List.forall_mem_cons.mpr ⟨(mem_ci (by omega) (List.Mem.head _)), (fun _ h => absurd h List.not_mem_nil)⟩)⟩)⟩) ?_
            have he12 : (wA H 8 (f2)) = (wA H 8 ((f2))) := rfl
            refine Ev_heq he12 ?_
            have ok13 : okZ (wA H 8 ((f2))) := by rw [← he12]; exact ok8
            exact ih2 ((k + 1)) ((f2)) ok13 (by first | assumption | omega) (by rw [hz, show (H.1 2 40).toNat - k = ((H.1 2 40).toNat - (k + 1)) + 1 by omega]; exact if_neg (fun q => by first | exact q.1 (by omega) | (rw [hTf] at q; exact absurd q.2 (by decide)))) (by omega)
          · skip
            rw [er2] at hb11
            have hTt := ite01_1 hb11
            have wlk := (wl.2 k (by omega)).1
            refine x_aload_n (pc := 30) dX11_stopsBy_30 (List.Mem.head _) ?_
            refine z_getR (pc := 31) (k := 2) (r := 2) dX11_stopsBy_31 lf_X11_17 sh_0 rfl rf_0_2 ?_
            refine z_bipush (pc := 34) dX11_stopsBy_34 bp_41 ?_
            refine x_iload_n (pc := 36) dX11_stopsBy_36 (List.Mem.tail _ (List.Mem.tail _ (List.Mem.head _))) ?_
            refine z_iadd (pc := 37) dX11_stopsBy_37 ?_
            refine z_iald (pc := 38) (j := 41 + k) (v := H.1 2 (41 + k)) dX11_stopsBy_38 sh_2 (by omega) (by omega) (by decide) (by rw [wA1c (by omega)]) ?_
            refine z_ireturn (pc := 39) dX11_stopsBy_39 rfl (Or.inl rfl) ok8 (by omega) (by omega) ?_
            exact ⟨by rw [hz, show (H.1 2 40).toNat - k = ((H.1 2 40).toNat - (k + 1)) + 1 by omega]; exact (if_pos ⟨by omega, hTt⟩).symm, _, rfl⟩
  refine x_weaken (L1 := [(0, .ref 0), (1, .int (zN ((c : Int)))), (2, .int (zN (((0 : Nat) : Int))))]) (List.forall_mem_cons.mpr ⟨(List.Mem.tail _ (List.Mem.head _)), (List.forall_mem_cons.mpr ⟨(List.Mem.tail _ (List.Mem.tail _ (List.Mem.head _))), (List.forall_mem_cons.mpr ⟨(mem_ci (by omega) (List.Mem.head _)), (fun _ h => absurd h List.not_mem_nil)⟩)⟩)⟩) ?_
  have he14 : H = (wA H 8 (H.1 8)) := (wA_self H 8).symm
  refine Ev_heq he14 ?_
  have ok15 : okZ (wA H 8 (H.1 8)) := by rw [← he14]; exact ok
  exact lp2 ((H.1 2 40).toNat - 0 + 1) (0) (H.1 8) ok15 (by first | assumption | omega) (rfl) (Nat.lt_succ_self _)
