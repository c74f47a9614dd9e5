/-! GROUP G15: the calls of drawn runs, in the reference. -/
def Z0 : Nat → Int := fun _ => 0
theorem bgn_z {A o : Nat → Int} {wc sd : Int} (h : ∀ j, 42 ≤ j → o j = 0) : bgn A o wc sd = bgn A Z0 wc sd := by
  funext j
  unfold bgn bg2
  by_cases q : j < 42
  · rw [if_pos q, if_pos q]
  · rw [if_neg q, if_neg q, h j (by omega)]
    rfl
theorem tickF_hi {A N : Nat → Int} (h8 : A 1 ≤ 8) {j : Nat} (hj : 42 ≤ j) : tickF A N j = N j := by
  unfold tickF
  rw [tk3_at (by omega), tk2_at (by omega), mvN_hi h8 (by omega), tk1_at (by omega)]
theorem drws_hi {A N : Nat → Int} {wo : Int} (h8 : A 1 ≤ 8) (h : WFN A N) (hx : WFX A N) (e : N 41 = 0) (k : Nat) (hk : (k : Int) ≤ A 1) {j : Nat} (hj : 42 ≤ j) : drws A wo k N j = N j := by
  induction k with
  | zero => rfl
  | succ k ih =>
    show drw1 A wo (drws A wo k N) j = _
    rw [drw1_at (drws_ok h8 h hx e k (by omega)).1 (by omega) (by omega) (by omega)]
    exact ih (by omega)
theorem rnF_hi {A N : Nat → Int} {wo : Int} (ws1 : 0 ≤ A 1 ∧ A 1 ≤ 8) (ws0 : 1 ≤ A 0 ∧ A 0 ≤ 4) (h : RnOK A N 0) (t : Nat) {j : Nat} (hj : 42 ≤ j) : rnF A wo N t j = N j := by
  induction t with
  | zero => rfl
  | succ t ih =>
    show (if rnF A wo N t 37 = 0 then tickF A (drws A wo (A 1).toNat (rnF A wo N t)) else rnF A wo N t) j = N j
    have k := rnF_ok (wo := wo) ws1 ws0 h t
    split
    · rw [tickF_hi ws1.2 hj, drws_hi ws1.2 k.1 k.2.1 k.2.2.1 _ (by omega) hj]
      exact ih
    · exact ih
theorem bgn_hi {A : Nat → Int} {wc sd : Int} {j : Nat} (hj : 42 ≤ j) (h : 0 ≤ A 1 ∧ A 1 ≤ 8) : bgn A Z0 wc sd j = 0 := by
  unfold bgn bg2
  rw [if_neg (by omega), if_neg (by omega), if_neg (by omega), if_neg (by omega), if_neg (by omega)]
  rfl
theorem FrR_68 {H Hm : ZH} {M f : Nat → Int} (h : FrR H Hm) : FrR H (wA (wA Hm 6 M) 8 f) := ⟨h.1, fun cc k q => by rw [wA1c (by omega), wA1c (by omega)]; exact h.2 cc k q⟩
theorem FrR_tr {a b c : ZH} (h1 : FrR a b) (h2 : FrR b c) : FrR a c := ⟨h2.1.trans h1.1, fun cc k h => (h2.2 cc k h).trans (h1.2 cc k h)⟩
/-- the stopping ones, as bits -/
def stB (N : Nat → Int) : Nat → Nat
  | 0 => 0
  | k + 1 => stB N k ||| (if N (16 + k) = 2 then 2 ^ k else 0)
theorem stB_bd (N : Nat → Int) (k : Nat) (hk : k ≤ 8) : stB N k < 2 ^ 8 := by
  induction k with
  | zero => show 0 < 2 ^ 8; decide
  | succ k ih =>
    refine Nat.or_lt_two_pow (ih (by omega)) ?_
    split
    · exact Nat.pow_lt_pow_right (by decide) (by omega)
    · decide
def runV (A N : Nat → Int) (what : Int) : Int := if what = 0 then N 37 else if what = 1 then N 36 else if what = 2 then N 38 else if what = 3 then N 39 else if what = 4 then (stB N (A 1).toNat : Int) else N 35
theorem runV_0 (A N : Nat → Int) : runV A N 0 = N 37 := rfl
theorem runV_1 (A N : Nat → Int) : runV A N 1 = N 36 := rfl
theorem runV_2 (A N : Nat → Int) : runV A N 2 = N 38 := rfl
theorem runV_3 (A N : Nat → Int) : runV A N 3 = N 39 := rfl
theorem runV_4 (A N : Nat → Int) : runV A N 4 = (stB N (A 1).toNat : Int) := rfl
theorem runV_5 (A N : Nat → Int) : runV A N 5 = N 35 := rfl
def trV (N : Nat → Int) (how : Int) : Int := if how = 4 then N 38 else if how = 5 then N 36 else if N 37 = how then 1 else 0
def trS (A : Nat → Int) (wo wc s how : Int) : Nat → Int
  | 0 => 0
  | k + 1 => trS A wo wc s how k + trV (rnF A wo (bgn A Z0 wc ((s + (k : Int)).bmod 4294967296)) 99) how
theorem trV_bd {A N : Nat → Int} {how : Int} {t : Nat} (h : RnOK A N t) : 0 ≤ trV N how ∧ trV N how ≤ 162 := by
  obtain ⟨⟨hC, h32, h33, h34, h35, h36, h37, h38, h39⟩, _⟩ := h
  unfold trV
  (repeat' split) <;> omega
/-- the nearest in her lane, the first k cars -/
def mnl (A N : Nat → Int) (v : Int) : Nat → Int
  | 0 => v
  | k + 1 => if A (2 + k) = N 32 ∧ 0 < N k ∧ (mnl A N v k = -1 ∨ N k < mnl A N v k) then N k else mnl A N v k
theorem mnl_bd {A N : Nat → Int} {v : Int} (h : ∀ c : Nat, (c : Int) < A 1 → N c ≤ 200) (hv : -1 ≤ v ∧ v ≤ 200) (k : Nat) (hk : (k : Int) ≤ A 1) : -1 ≤ mnl A N v k ∧ mnl A N v k ≤ 200 := by
  induction k with
  | zero => exact hv
  | succ k ih =>
    have i := ih (by omega)
    have z := h k (by omega)
    show -1 ≤ (if _ then N k else mnl A N v k) ∧ (if _ then N k else mnl A N v k) ≤ 200
    split <;> omega
def mrF (A : Nat → Int) (wo : Int) (B : Nat → Int) : Nat → Int
  | 0 => -1
  | t + 1 => if rnF A wo B t 37 = 0 ∧ rnF A wo B (t + 1) 33 = 1 then mnl A (rnF A wo B (t + 1)) (mrF A wo B t) (A 1).toNat else mrF A wo B t
theorem mrF_bd {A B : Nat → Int} {wo : Int} (ws1 : 0 ≤ A 1 ∧ A 1 ≤ 8) (ws0 : 1 ≤ A 0 ∧ A 0 ≤ 4) (h : RnOK A B 0) (t : Nat) : -1 ≤ mrF A wo B t ∧ mrF A wo B t ≤ 200 := by
  induction t with
  | zero => show (-1 : Int) ≤ -1 ∧ (-1 : Int) ≤ 200; decide
  | succ t ih =>
    show -1 ≤ (if _ then mnl A (rnF A wo B (t + 1)) (mrF A wo B t) (A 1).toNat else mrF A wo B t) ∧ (if _ then mnl A (rnF A wo B (t + 1)) (mrF A wo B t) (A 1).toNat else mrF A wo B t) ≤ 200
    have k := rnF_ok (wo := wo) ws1 ws0 h (t + 1)
    split
    · exact mnl_bd (fun c hc => (k.1.1 c hc).1.2) ih _ (by omega)
    · exact ih
theorem mrF_st {A B : Nat → Int} {wo : Int} {t : Nat} (h : rnF A wo B t 37 ≠ 0) (d : Nat) : mrF A wo B (t + d) = mrF A wo B t := by
  induction d with
  | zero => rfl
  | succ d ih =>
    show (if rnF A wo B (t + d) 37 = 0 ∧ _ then _ else mrF A wo B (t + d)) = _
    rw [if_neg (fun q => h (by rw [rnF_st h d] at q; exact q.1))]
    exact ih
/-- what a run makes of the memory -/
def RunP (H H1 : ZH) (N : Nat → Int) : Prop := FrR H H1 ∧ H1.1 6 = N

theorem c_X11_runs {d : Nat} {H : ZH} (ok : okZ H) {sd most : Int} (sd1 : -2147483648 ≤ sd) (sd2 : sd ≤ 2147483647) (hmost : 0 ≤ most ∧ most ≤ 99) (ws : WFS (H.1 2)) (wl : WFL (H.1 2)) (h42 : ∀ j, 42 ≤ j → H.1 6 j = 0) : EvC zX (d + 6) mX11_runs [.ref 0, .int (zN (sd)), .int (zN (most))] (eh H) (zPv (fun (H1 : ZH) => RunP H H1 (rnF (H.1 2) (H.1 0 21) (bgn (H.1 2) Z0 (H.1 0 22) sd) most.toNat))) := by
  show _ ∧ Ev zX mX11_runs (EvC zX (d + 5)) (zPv (fun (H1 : ZH) => RunP H H1 (rnF (H.1 2) (H.1 0 21) (bgn (H.1 2) Z0 (H.1 0 22) sd) most.toNat))) 0 [(0, .ref 0), (1, .int (zN (sd))), (2, .int (zN (most)))] [] (eh H)
  refine ⟨Nat.le_of_ble_eq_true rfl, ?_⟩
  have wsx := ws
  obtain ⟨ws0, ws1, wsC, ws34, ws35, ws36, ws37, ws38, ws39⟩ := wsx
  have hb0 := bgn_rn (o := Z0) (wc := H.1 0 22) (sd := sd) ws
  refine x_aload_n (pc := 0) dX11_runs_0 (List.Mem.head _) ?_
  refine x_iload_n (pc := 1) dX11_runs_1 (List.Mem.tail _ (List.Mem.head _)) ?_
  refine z_callVv (pc := 2) (i := mX11_begins) (S := []) [.int (zN (sd))] dX11_runs_2 ml_X11_240 ok_X11_begins rfl sh_0 rfl rfl (Nat.le_of_ble_eq_true rfl) (c_X11_begins (d := d + 3) (sd := sd) (sd1 := (by omega)) (sd2 := (by omega)) (ok := ok) (ws := (by first | assumption | omega))) ?_
  intro H4 ok2 hp3
  subst hp3
  have lp5 : ∀ (nF : Nat) (t : Nat) (Hm : ZH), okZ Hm → (t ≤ most.toNat) → (FrR H Hm) → (Hm.1 6 = (rnF (H.1 2) (H.1 0 21) (bgn (H.1 2) Z0 (H.1 0 22) sd) t)) → most.toNat - t < nF → Ev zX mX11_runs (EvC zX (d + 5)) (zPv (fun (H1 : ZH) => RunP H H1 (rnF (H.1 2) (H.1 0 21) (bgn (H.1 2) Z0 (H.1 0 22) sd) most.toNat))) 5 [(0, .ref 0), (1, .int (zN (sd))), (2, .int (zN (most)))] [] (eh Hm) := by
    intro nF
    induction nF with
    | zero => intro t Hm okl5 ht fr e6 hm; exact absurd hm (Nat.not_lt_zero _)
    | succ nF ih5 =>
      intro t Hm okl5 ht fr e6 hm
      have e2 := FrR_2 fr
      have e21 : Hm.1 0 21 = H.1 0 21 := fr.2 0 21 (by omega)
      obtain ⟨r1, r2, r3, r4, r5⟩ := rnF_ok (wo := H.1 0 21) ws1 ws0 hb0 t
      have r37 := r1.2.2.2.2.2.2.1
      have r36 := r1.2.2.2.2.2.1
      refine x_aload_n (pc := 5) dX11_runs_5 (List.Mem.head _) ?_
      refine z_getR (pc := 6) (k := 18) (r := 6) dX11_runs_6 lf_X11_33 sh_0 rfl rf_0_18 ?_
      refine z_bipush (pc := 9) dX11_runs_9 bp_37 ?_
      refine z_iald (pc := 11) (j := 37) (v := ((rnF (H.1 2) (H.1 0 21) (bgn (H.1 2) Z0 (H.1 0 22) sd) t) 37)) dX11_runs_11 sh_6 rfl (Nat.le_of_ble_eq_true rfl) (by decide) (congrFun e6 37) ?_
      refine z_if_ne (pc := 12) (tgt := 39) dX11_runs_12 (by decide) (by omega) (by omega) (fun hb5 => ?_) (fun hb5 => ?_)
      · skip
        have hst : (rnF (H.1 2) (H.1 0 21) (bgn (H.1 2) Z0 (H.1 0 22) sd) most.toNat) = (rnF (H.1 2) (H.1 0 21) (bgn (H.1 2) Z0 (H.1 0 22) sd) t) := by rw [show most.toNat = t + (most.toNat - t) by omega]; exact rnF_st hb5 _
        refine z_vreturn (pc := 39) dX11_runs_39 rfl okl5 ?_
        first | exact ⟨fr, by rw [e6, hst]⟩ | exact ⟨fr, by rw [e6, show most.toNat = t by omega]⟩
      · skip
        refine x_aload_n (pc := 15) dX11_runs_15 (List.Mem.head _) ?_
        refine z_getR (pc := 16) (k := 18) (r := 6) dX11_runs_16 lf_X11_33 sh_0 rfl rf_0_18 ?_
        refine z_bipush (pc := 19) dX11_runs_19 bp_36 ?_
        refine z_iald (pc := 21) (j := 36) (v := ((rnF (H.1 2) (H.1 0 21) (bgn (H.1 2) Z0 (H.1 0 22) sd) t) 36)) dX11_runs_21 sh_6 rfl (Nat.le_of_ble_eq_true rfl) (by decide) (congrFun e6 36) ?_
        refine x_iload_n (pc := 22) dX11_runs_22 (List.Mem.tail _ (List.Mem.tail _ (List.Mem.head _))) ?_
        refine z_icmp_ge (pc := 23) (tgt := 39) dX11_runs_23 (by decide) (by omega) (by omega) (by omega) (by omega) (fun hb6 => ?_) (fun hb6 => ?_)
        · skip
          refine z_vreturn (pc := 39) dX11_runs_39 rfl okl5 ?_
          first | exact ⟨fr, by rw [e6, hst]⟩ | exact ⟨fr, by rw [e6, show most.toNat = t by omega]⟩
        · skip
          refine x_aload_n (pc := 26) dX11_runs_26 (List.Mem.head _) ?_
          refine z_iconst (pc := 27) dX11_runs_27 ?_
          refine z_callVi (pc := 28) (i := mX11_decides) (S := []) [.int (zN (1))] dX11_runs_28 ml_X11_268 ok_X11_decides rfl sh_0 rfl (Or.inl rfl) (Nat.le_of_ble_eq_true rfl) (c_X11_decides_1 (d := d) (ok := okl5) (ws := (show WFS (Hm.1 2) by rw [e2]; exact ws)) (wn := (show WFN (Hm.1 2) (Hm.1 6) by rw [e2, e6]; exact r1)) (wl := (show WFL (Hm.1 2) by rw [e2]; exact wl)) (wx := (show WFX (Hm.1 2) (Hm.1 6) by rw [e2, e6]; exact r2)) (e41 := (show Hm.1 6 41 = 0 by rw [e6]; exact r3))) ?_
          intro r7 H10 r7a r7b ok8 hp9
          obtain ⟨er, f, ef⟩ := hp9
          have er0 : r7 = -1 := er
          rw [e2, e21, e6] at ef
          subst ef
          have z37 : (rnF (H.1 2) (H.1 0 21) (bgn (H.1 2) Z0 (H.1 0 22) sd) t) 37 = 0 := by omega
          obtain ⟨d1, d2, d3, d4⟩ := drws_ok (wo := (H.1 0 21)) ws1.2 r1 r2 r3 (H.1 2 1).toNat (by omega)
          refine x_pop (pc := 31) dX11_runs_31 rfl ?_
          refine x_aload_n (pc := 32) dX11_runs_32 (List.Mem.head _) ?_
          refine z_callVv (pc := 33) (i := mX11_ticks) (S := []) [] dX11_runs_33 ml_X11_272 ok_X11_ticks rfl sh_0 rfl rfl (Nat.le_of_ble_eq_true rfl) (c_X11_ticks (d := d + 1) (ok := ok8) (ws := (show WFS (Hm.1 2) by rw [e2]; exact ws)) (wn := (show WFN (Hm.1 2) (drws (H.1 2) (H.1 0 21) (H.1 2 1).toNat (rnF (H.1 2) (H.1 0 21) (bgn (H.1 2) Z0 (H.1 0 22) sd) t)) by rw [e2]; exact d2)) (wx := (show WFX (Hm.1 2) (drws (H.1 2) (H.1 0 21) (H.1 2 1).toNat (rnF (H.1 2) (H.1 0 21) (bgn (H.1 2) Z0 (H.1 0 22) sd) t)) by rw [e2]; exact d3)) (he := (show (drws (H.1 2) (H.1 0 21) (H.1 2 1).toNat (rnF (H.1 2) (H.1 0 21) (bgn (H.1 2) Z0 (H.1 0 22) sd) t)) 37 = 0 by rw [d4 37 (by omega) (by omega)]; exact z37))) ?_
          intro H3 ok12 hp13
          obtain ⟨fr2, e62⟩ := hp13
          have fr3 : FrR H H3 := FrR_C (FrR_68 fr) fr2
          have e62b : H3.1 6 = tickF (Hm.1 2) (drws (H.1 2) (H.1 0 21) (H.1 2 1).toNat (rnF (H.1 2) (H.1 0 21) (bgn (H.1 2) Z0 (H.1 0 22) sd) t)) := e62
          have e63 : H3.1 6 = (rnF (H.1 2) (H.1 0 21) (bgn (H.1 2) Z0 (H.1 0 22) sd) (t + 1)) := by
            rw [e62b, e2]
            exact (if_pos z37).symm
          refine x_goto (pc := 36) (tgt := 5) dX11_runs_36 (by decide) ?_
          refine x_weaken (L1 := [(0, .ref 0), (1, .int (zN (sd))), (2, .int (zN (most)))]) (List.forall_mem_cons.mpr ⟨(List.Mem.head _), (List.forall_mem_cons.mpr ⟨(List.Mem.tail _ (List.Mem.head _)), (List.forall_mem_cons.mpr ⟨(List.Mem.tail _ (List.Mem.tail _ (List.Mem.head _))), (fun _ h => absurd h List.not_mem_nil)⟩)⟩)⟩) ?_
          exact ih5 ((t + 1)) H3 ok12 (by omega) (fr3) (e63) (by omega)
  refine x_weaken (L1 := [(0, .ref 0), (1, .int (zN (sd))), (2, .int (zN (most)))]) (List.forall_mem_cons.mpr ⟨(List.Mem.head _), (List.forall_mem_cons.mpr ⟨(List.Mem.tail _ (List.Mem.head _)), (List.forall_mem_cons.mpr ⟨(List.Mem.tail _ (List.Mem.tail _ (List.Mem.head _))), (fun _ h => absurd h List.not_mem_nil)⟩)⟩)⟩) ?_
  exact lp5 (most.toNat - 0 + 1) (0) (wA H 6 ((bgn (H.1 2) (H.1 6) (H.1 0 22) sd))) ok2 (by omega) (⟨rfl, fun cc k q => by rw [wA1c (by omega)]⟩) (by rw [wA1]; exact bgn_z h42) (Nat.lt_succ_self _)

theorem c_X11_stopped {d : Nat} {H : ZH} (ok : okZ H)  (ws : WFS (H.1 2)) : EvC zX (d + 1) mX11_stopped [.ref 0] (eh H) (zPi (fun (rz : Int) (Hz : ZH) => rz = ((stB (H.1 6) (H.1 2 1).toNat : Int)) ∧ Hz = H)) := by
  show _ ∧ Ev zX mX11_stopped (EvC zX d) (zPi (fun (rz : Int) (Hz : ZH) => rz = ((stB (H.1 6) (H.1 2 1).toNat : Int)) ∧ Hz = H)) 0 [(0, .ref 0)] [] (eh H)
  refine ⟨Nat.le_of_ble_eq_true rfl, ?_⟩
  have wsx := ws
  obtain ⟨ws0, ws1, wsC, ws34, ws35, ws36, ws37, ws38, ws39⟩ := wsx
  refine z_iconst (pc := 0) dX11_stopped_0 ?_
  refine x_istore_n (pc := 1) dX11_stopped_1 (Nat.le_of_ble_eq_true rfl) ?_
  show Ev _ _ _ _ _ [(1, .int (zN (0))), (0, .ref 0)] _ _
  refine z_iconst (pc := 2) dX11_stopped_2 ?_
  refine x_istore_n (pc := 3) dX11_stopped_3 (Nat.le_of_ble_eq_true rfl) ?_
  show Ev _ _ _ _ _ [(2, .int (zN (0))), (1, .int (zN (0))), (0, .ref 0)] _ _
  have lp4 : ∀ (nF : Nat) (k : Nat), ((k : Int) ≤ H.1 2 1) → (H.1 2 1).toNat - k < nF → Ev zX mX11_stopped (EvC zX d) (zPi (fun (rz : Int) (Hz : ZH) => rz = ((stB (H.1 6) (H.1 2 1).toNat : Int)) ∧ Hz = H)) 4 [(0, .ref 0), (1, .int (zN (((stB (H.1 6) k : Nat) : Int)))), (2, .int (zN ((k : Int))))] [] (eh H) := by
    intro nF
    induction nF with
    | zero => intro k hk hm; exact absurd hm (Nat.not_lt_zero _)
    | succ nF ih4 =>
      intro k hk hm
      have sb := stB_bd (H.1 6) k (by omega)
      refine x_iload_n (pc := 4) dX11_stopped_4 (List.Mem.tail _ (List.Mem.tail _ (List.Mem.head _))) ?_
      refine x_aload_n (pc := 5) dX11_stopped_5 (List.Mem.head _) ?_
      refine z_getR (pc := 6) (k := 2) (r := 2) dX11_stopped_6 lf_X11_17 sh_0 rfl rf_0_2 ?_
      refine z_iconst (pc := 9) dX11_stopped_9 ?_
      have rd1 := ok.1 2 1
      refine z_iald (pc := 10) (j := 1) (v := H.1 2 1) dX11_stopped_10 sh_2 rfl (Nat.le_of_ble_eq_true rfl) (by decide) rfl ?_
      refine z_icmp_ge (pc := 11) (tgt := 43) dX11_stopped_11 (by decide) (by omega) (by omega) (by omega) (by omega) (fun hb2 => ?_) (fun hb2 => ?_)
      · skip
        refine x_iload_n (pc := 43) dX11_stopped_43 (List.Mem.tail _ (List.Mem.head _)) ?_
        refine z_ireturn (pc := 44) dX11_stopped_44 rfl (Or.inl rfl) ok (by omega) (by omega) ?_
        exact ⟨by rw [show (H.1 2 1).toNat = k by omega], rfl⟩
      · skip
        refine x_iload_n (pc := 14) dX11_stopped_14 (List.Mem.tail _ (List.Mem.head _)) ?_
        refine x_aload_n (pc := 15) dX11_stopped_15 (List.Mem.head _) ?_
        refine z_getR (pc := 16) (k := 18) (r := 6) dX11_stopped_16 lf_X11_33 sh_0 rfl rf_0_18 ?_
        refine z_bipush (pc := 19) dX11_stopped_19 bp_16 ?_
        refine x_iload_n (pc := 21) dX11_stopped_21 (List.Mem.tail _ (List.Mem.tail _ (List.Mem.head _))) ?_
        refine z_iadd (pc := 22) dX11_stopped_22 ?_
        have rd3 := ok.1 6 (16 + k)
        refine z_iald (pc := 23) (j := 16 + k) (v := H.1 6 (16 + k)) dX11_stopped_23 sh_6 (by omega) (by omega) (by decide) rfl ?_
        refine z_iconst (pc := 24) dX11_stopped_24 ?_
        refine z_icmp_ne (pc := 25) (tgt := 34) dX11_stopped_25 (by decide) (by omega) (by omega) (by decide) (by decide) (fun hb4 => ?_) (fun hb4 => ?_)
        · skip
          have hS : stB (H.1 6) (k + 1) = stB (H.1 6) k ||| 0 := by show stB (H.1 6) k ||| (if H.1 6 (16 + k) = 2 then 2 ^ k else 0) = _; rw [if_neg (by omega)]
          refine z_iconst (pc := 34) dX11_stopped_34 ?_
          refine z_ior (pc := 35) (m := (stB (H.1 6) k)) (n := 0) dX11_stopped_35 (by omega) rfl ?_
          refine x_istore_n (pc := 36) dX11_stopped_36 (Nat.le_of_ble_eq_true rfl) ?_
          show Ev _ _ _ _ _ [(1, .int (zN (((((stB (H.1 6) k)) ||| (0) : Nat) : Int)))), (0, .ref 0), (2, .int (zN ((k : Int))))] _ _
          refine z_iinc (pc := 37) dX11_stopped_37 (List.Mem.tail _ (List.Mem.tail _ (List.Mem.head _))) (Nat.le_of_ble_eq_true rfl) ?_
          show Ev _ _ _ _ _ [(2, .int (zN ((k : Int) + 1))), (1, .int (zN (((((stB (H.1 6) k)) ||| (0) : Nat) : Int)))), (0, .ref 0)] _ _
          refine x_goto (pc := 40) (tgt := 4) dX11_stopped_40 (by decide) ?_
          refine x_weaken (L1 := [(0, .ref 0), (1, .int (zN (((stB (H.1 6) (k + 1) : Nat) : Int)))), (2, .int (zN ((((k + 1) : Nat) : Int))))]) (List.forall_mem_cons.mpr ⟨(List.Mem.tail _ (List.Mem.tail _ (List.Mem.head _))), (List.forall_mem_cons.mpr ⟨(mem_ci (congrArg (fun x : Nat => (x : Int)) hS) (List.Mem.tail _ (List.Mem.head _))), (List.forall_mem_cons.mpr ⟨(mem_ci (by omega) (List.Mem.head _)), (fun _ h => absurd h List.not_mem_nil)⟩)⟩)⟩) ?_
          exact ih4 ((k + 1)) (by first | assumption | omega) (by omega)
        · skip
          have hS : stB (H.1 6) (k + 1) = stB (H.1 6) k ||| 2 ^ k := by show stB (H.1 6) k ||| (if H.1 6 (16 + k) = 2 then 2 ^ k else 0) = _; rw [if_pos (by omega)]
          refine z_iconst (pc := 28) dX11_stopped_28 ?_
          refine x_iload_n (pc := 29) dX11_stopped_29 (List.Mem.tail _ (List.Mem.tail _ (List.Mem.head _))) ?_
          refine z_ishl1 (pc := 30) (k := k) dX11_stopped_30 rfl (by omega) ?_
          refine x_goto (pc := 31) (tgt := 35) dX11_stopped_31 (by decide) ?_
          refine z_ior (pc := 35) (m := (stB (H.1 6) k)) (n := (2 ^ k)) dX11_stopped_35 (by omega) (by omega) ?_
          refine x_istore_n (pc := 36) dX11_stopped_36 (Nat.le_of_ble_eq_true rfl) ?_
          show Ev _ _ _ _ _ [(1, .int (zN (((((stB (H.1 6) k)) ||| ((2 ^ k)) : Nat) : Int)))), (0, .ref 0), (2, .int (zN ((k : Int))))] _ _
          refine z_iinc (pc := 37) dX11_stopped_37 (List.Mem.tail _ (List.Mem.tail _ (List.Mem.head _))) (Nat.le_of_ble_eq_true rfl) ?_
          show Ev _ _ _ _ _ [(2, .int (zN ((k : Int) + 1))), (1, .int (zN (((((stB (H.1 6) k)) ||| ((2 ^ k)) : Nat) : Int)))), (0, .ref 0)] _ _
          refine x_goto (pc := 40) (tgt := 4) dX11_stopped_40 (by decide) ?_
          refine x_weaken (L1 := [(0, .ref 0), (1, .int (zN (((stB (H.1 6) (k + 1) : Nat) : Int)))), (2, .int (zN ((((k + 1) : Nat) : Int))))]) (List.forall_mem_cons.mpr ⟨(List.Mem.tail _ (List.Mem.tail _ (List.Mem.head _))), (List.forall_mem_cons.mpr ⟨(mem_ci (congrArg (fun x : Nat => (x : Int)) hS) (List.Mem.tail _ (List.Mem.head _))), (List.forall_mem_cons.mpr ⟨(mem_ci (by omega) (List.Mem.head _)), (fun _ h => absurd h List.not_mem_nil)⟩)⟩)⟩) ?_
          exact ih4 ((k + 1)) (by first | assumption | omega) (by omega)
  refine x_weaken (L1 := [(0, .ref 0), (1, .int (zN (((stB (H.1 6) 0 : Nat) : Int)))), (2, .int (zN (((0 : Nat) : Int))))]) (List.forall_mem_cons.mpr ⟨(List.Mem.tail _ (List.Mem.tail _ (List.Mem.head _))), (List.forall_mem_cons.mpr ⟨(mem_ci (rfl) (List.Mem.tail _ (List.Mem.head _))), (List.forall_mem_cons.mpr ⟨(mem_ci (by omega) (List.Mem.head _)), (fun _ h => absurd h List.not_mem_nil)⟩)⟩)⟩) ?_
  exact lp4 ((H.1 2 1).toNat - 0 + 1) (0) (by first | assumption | omega) (Nat.lt_succ_self _)

theorem c_X11_run {d : Nat} {H : ZH} (ok : okZ H) {sd what : Int} (sd1 : -2147483648 ≤ sd) (sd2 : sd ≤ 2147483647) (what1 : -2147483648 ≤ what) (what2 : what ≤ 2147483647) (cm : cntOK H 1) (th : H.1 0 0 = 0) (ws : WFS (H.1 2)) (wl : WFL (H.1 2)) (h42 : ∀ j, 42 ≤ j → H.1 6 j = 0) : EvC zX (d + 7) mX11_run [.ref 0, .int (zN (sd)), .int (zN (what))] (eh H) (zPi (fun (r : Int) (H1 : ZH) => ((0 ≤ what ∧ what ≤ 5) ∧ r = runV (H.1 2) (rnF (H.1 2) (H.1 0 21) (bgn (H.1 2) Z0 (H.1 0 22) sd) 99) what ∧ RunP H H1 (rnF (H.1 2) (H.1 0 21) (bgn (H.1 2) Z0 (H.1 0 22) sd) 99)) ∨ (¬ (0 ≤ what ∧ what ≤ 5) ∧ r = -2 ∧ H1 = bumpM 0 H))) := by
  show _ ∧ Ev zX mX11_run (EvC zX (d + 6)) (zPi (fun (r : Int) (H1 : ZH) => ((0 ≤ what ∧ what ≤ 5) ∧ r = runV (H.1 2) (rnF (H.1 2) (H.1 0 21) (bgn (H.1 2) Z0 (H.1 0 22) sd) 99) what ∧ RunP H H1 (rnF (H.1 2) (H.1 0 21) (bgn (H.1 2) Z0 (H.1 0 22) sd) 99)) ∨ (¬ (0 ≤ what ∧ what ≤ 5) ∧ r = -2 ∧ H1 = bumpM 0 H))) 0 [(0, .ref 0), (1, .int (zN (sd))), (2, .int (zN (what)))] [] (eh H)
  refine ⟨Nat.le_of_ble_eq_true rfl, ?_⟩
  have wsx := ws
  obtain ⟨ws0, ws1, wsC, ws34, ws35, ws36, ws37, ws38, ws39⟩ := wsx
  have rk := rnF_ok (wo := H.1 0 21) ws1 ws0 (bgn_rn (o := Z0) (wc := H.1 0 22) (sd := sd) ws) 99
  have rw1 := rk.1.2
  refine x_aload_n (pc := 0) dX11_run_0 (List.Mem.head _) ?_
  refine z_iconst (pc := 1) dX11_run_1 ?_
  refine z_putI (pc := 2) (k := 0) dX11_run_2 lp_X11_1 sh_0 rfl ?_
  have ok1 := okI ok 0 0 (v := 0) (by decide) (by decide)
  rw [wI_same th]
  refine x_iload_n (pc := 5) dX11_run_5 (List.Mem.tail _ (List.Mem.tail _ (List.Mem.head _))) ?_
  refine z_i2l (pc := 6) dX11_run_6 (by omega) (by omega) ?_
  refine z_lconst (pc := 7) 0 dX11_run_7 rfl ?_
  refine z_ldc2_w (pc := 8) 5 dX11_run_8 cl_X11_172 (by decide) ?_
  refine z_callSbp (pc := 11) (i := mX11_within) (S := []) [.long (zL (what)), .long (zL (0)), .long (zL (5))] dX11_run_11 ml_X11_152 ok_X11_within rfl (Or.inr rfl) (Nat.le_of_ble_eq_true rfl) (c_X11_within (d := d + 5) (v := what) (lo := 0) (hi := 5) (v1 := (by omega)) (v2 := (by omega)) (lo1 := (by omega)) (lo2 := (by omega)) (hi1 := (by omega)) (hi2 := (by omega)) (ok := ok)) (fun hc4 ok3 => ?_) (fun hc4 ok3 => ?_)
  · skip
    refine z_if_ne (pc := 14) (tgt := 24) dX11_run_14 (by decide) (by decide) (by decide) (fun _ => ?_) (fun h => absurd h (by decide))
    refine x_aload_n (pc := 24) dX11_run_24 (List.Mem.head _) ?_
    refine x_iload_n (pc := 25) dX11_run_25 (List.Mem.tail _ (List.Mem.head _)) ?_
    refine z_bipush (pc := 26) dX11_run_26 bp_99 ?_
    refine z_callVv (pc := 28) (i := mX11_runs) (S := []) [.int (zN (sd)), .int (zN (99))] dX11_run_28 ml_X11_275 ok_X11_runs rfl sh_0 rfl rfl (Nat.le_of_ble_eq_true rfl) (c_X11_runs (d := d) (sd := sd) (most := 99) (sd1 := (by omega)) (sd2 := (by omega)) (hmost := (by omega)) (ok := ok3) (ws := ws) (wl := wl) (h42 := h42)) ?_
    intro Hm ok7 hp8
    obtain ⟨fr, e60⟩ := hp8
    have e6 : Hm.1 6 = (rnF (H.1 2) (H.1 0 21) (bgn (H.1 2) Z0 (H.1 0 22) sd) 99) := e60
    clear e60
    have e2 := FrR_2 fr
    refine x_iload_n (pc := 31) dX11_run_31 (List.Mem.tail _ (List.Mem.tail _ (List.Mem.head _))) ?_
    rcases Int.decEq (what) (0) with hk9_0 | hk9_0
    rotate_left
    · skip
      refine z_tabIn (pc := 32) (0) (tgt := 68) dX11_run_32 hk9_0 (by omega) (by omega) (by decide) (by decide) rfl (by decide) ?_
      refine x_aload_n (pc := 68) dX11_run_68 (List.Mem.head _) ?_
      refine z_getR (pc := 69) (k := 18) (r := 6) dX11_run_69 lf_X11_33 sh_0 rfl rf_0_18 ?_
      refine z_bipush (pc := 72) dX11_run_72 bp_37 ?_
      refine z_iald (pc := 74) (j := 37) (v := ((rnF (H.1 2) (H.1 0 21) (bgn (H.1 2) Z0 (H.1 0 22) sd) 99) 37)) dX11_run_74 sh_6 rfl (Nat.le_of_ble_eq_true rfl) (by decide) (congrFun e6 37) ?_
      refine z_ireturn (pc := 75) dX11_run_75 rfl (Or.inl rfl) ok7 (by omega) (by omega) ?_
      refine Or.inl ⟨by omega, ?_, fr, e6⟩
      rw [show what = 0 by omega, runV_0]
    rcases Int.decEq (what) (1) with hk9_1 | hk9_1
    rotate_left
    · skip
      refine z_tabIn (pc := 32) (1) (tgt := 76) dX11_run_32 hk9_1 (by omega) (by omega) (by decide) (by decide) rfl (by decide) ?_
      refine x_aload_n (pc := 76) dX11_run_76 (List.Mem.head _) ?_
      refine z_getR (pc := 77) (k := 18) (r := 6) dX11_run_77 lf_X11_33 sh_0 rfl rf_0_18 ?_
      refine z_bipush (pc := 80) dX11_run_80 bp_36 ?_
      refine z_iald (pc := 82) (j := 36) (v := ((rnF (H.1 2) (H.1 0 21) (bgn (H.1 2) Z0 (H.1 0 22) sd) 99) 36)) dX11_run_82 sh_6 rfl (Nat.le_of_ble_eq_true rfl) (by decide) (congrFun e6 36) ?_
      refine z_ireturn (pc := 83) dX11_run_83 rfl (Or.inl rfl) ok7 (by omega) (by omega) ?_
      refine Or.inl ⟨by omega, ?_, fr, e6⟩
      rw [show what = 1 by omega, runV_1]
    rcases Int.decEq (what) (2) with hk9_2 | hk9_2
    rotate_left
    · skip
      refine z_tabIn (pc := 32) (2) (tgt := 84) dX11_run_32 hk9_2 (by omega) (by omega) (by decide) (by decide) rfl (by decide) ?_
      refine x_aload_n (pc := 84) dX11_run_84 (List.Mem.head _) ?_
      refine z_getR (pc := 85) (k := 18) (r := 6) dX11_run_85 lf_X11_33 sh_0 rfl rf_0_18 ?_
      refine z_bipush (pc := 88) dX11_run_88 bp_38 ?_
      refine z_iald (pc := 90) (j := 38) (v := ((rnF (H.1 2) (H.1 0 21) (bgn (H.1 2) Z0 (H.1 0 22) sd) 99) 38)) dX11_run_90 sh_6 rfl (Nat.le_of_ble_eq_true rfl) (by decide) (congrFun e6 38) ?_
      refine z_ireturn (pc := 91) dX11_run_91 rfl (Or.inl rfl) ok7 (by omega) (by omega) ?_
      refine Or.inl ⟨by omega, ?_, fr, e6⟩
      rw [show what = 2 by omega, runV_2]
    rcases Int.decEq (what) (3) with hk9_3 | hk9_3
    rotate_left
    · skip
      refine z_tabIn (pc := 32) (3) (tgt := 92) dX11_run_32 hk9_3 (by omega) (by omega) (by decide) (by decide) rfl (by decide) ?_
      refine x_aload_n (pc := 92) dX11_run_92 (List.Mem.head _) ?_
      refine z_getR (pc := 93) (k := 18) (r := 6) dX11_run_93 lf_X11_33 sh_0 rfl rf_0_18 ?_
      refine z_bipush (pc := 96) dX11_run_96 bp_39 ?_
      refine z_iald (pc := 98) (j := 39) (v := ((rnF (H.1 2) (H.1 0 21) (bgn (H.1 2) Z0 (H.1 0 22) sd) 99) 39)) dX11_run_98 sh_6 rfl (Nat.le_of_ble_eq_true rfl) (by decide) (congrFun e6 39) ?_
      refine z_ireturn (pc := 99) dX11_run_99 rfl (Or.inl rfl) ok7 (by omega) (by omega) ?_
      refine Or.inl ⟨by omega, ?_, fr, e6⟩
      rw [show what = 3 by omega, runV_3]
    rcases Int.decEq (what) (4) with hk9_4 | hk9_4
    rotate_left
    · skip
      refine z_tabIn (pc := 32) (4) (tgt := 100) dX11_run_32 hk9_4 (by omega) (by omega) (by decide) (by decide) rfl (by decide) ?_
      refine x_aload_n (pc := 100) dX11_run_100 (List.Mem.head _) ?_
      have sb := stB_bd (rnF (H.1 2) (H.1 0 21) (bgn (H.1 2) Z0 (H.1 0 22) sd) 99) (H.1 2 1).toNat (by omega)
      refine z_callVip (pc := 101) (i := mX11_stopped) (S := []) [] dX11_run_101 ml_X11_278 ok_X11_stopped rfl sh_0 rfl (Or.inl rfl) (Nat.le_of_ble_eq_true rfl) (c_X11_stopped (d := d + 5) (ok := ok7) (ws := (show WFS (Hm.1 2) by rw [e2]; exact ws))) (fun r10a r10b ok11 => ?_)
      refine z_ireturn (pc := 104) dX11_run_104 rfl (Or.inl rfl) ok11 (by omega) (by omega) ?_
      refine Or.inl ⟨by omega, ?_, fr, e6⟩
      rw [show what = 4 by omega, runV_4, e6, e2]
    refine z_tabOut (pc := 32) (tgt := 105) dX11_run_32 (by omega) (by omega) (by omega) (by decide) ?_
    refine x_aload_n (pc := 105) dX11_run_105 (List.Mem.head _) ?_
    refine z_getR (pc := 106) (k := 18) (r := 6) dX11_run_106 lf_X11_33 sh_0 rfl rf_0_18 ?_
    refine z_bipush (pc := 109) dX11_run_109 bp_35 ?_
    refine z_iald (pc := 111) (j := 35) (v := ((rnF (H.1 2) (H.1 0 21) (bgn (H.1 2) Z0 (H.1 0 22) sd) 99) 35)) dX11_run_111 sh_6 rfl (Nat.le_of_ble_eq_true rfl) (by decide) (congrFun e6 35) ?_
    refine z_ireturn (pc := 112) dX11_run_112 rfl (Or.inl rfl) ok7 (by omega) (by omega) ?_
    refine Or.inl ⟨by omega, ?_, fr, e6⟩
    rw [show what = 5 by omega, runV_5]
  · skip
    refine z_if_ne (pc := 14) (tgt := 24) dX11_run_14 (by decide) (by decide) (by decide) (fun h => absurd h (by decide)) (fun _ => ?_)
    refine x_aload_n (pc := 17) dX11_run_17 (List.Mem.head _) ?_
    refine z_bipush (pc := 18) dX11_run_18 bp_m2 ?_
    refine z_callVip (pc := 20) (i := mX11_no) (S := []) [.int (zN ((-2)))] dX11_run_20 ml_X11_89 ok_X11_no rfl sh_0 rfl (Or.inl rfl) (Nat.le_of_ble_eq_true rfl) (c_X11_no (d := d + 5) (code := ((-2))) (code1 := (by omega)) (code2 := (by omega)) (ok := ok3) (cn := (by first | assumption | omega))) (fun r13a r13b ok14 => ?_)
    show Ev _ _ _ _ _ _ _ (eh (wI H 1 ((refIx ((-2)))) (H.1 1 (refIx ((-2))) + 1)))
    refine z_ireturn (pc := 23) dX11_run_23 rfl (Or.inl rfl) ok14 (by omega) (by omega) ?_
    exact Or.inr ⟨by omega, rfl, rfl⟩

theorem c_X11_watch {d : Nat} {H : ZH} (ok : okZ H) {sd t c what : Int} (sd1 : -2147483648 ≤ sd) (sd2 : sd ≤ 2147483647) (t1 : -2147483648 ≤ t) (t2 : t ≤ 2147483647) (c1 : -2147483648 ≤ c) (c2 : c ≤ 2147483647) (what1 : -2147483648 ≤ what) (what2 : what ≤ 2147483647) (cm : cntOK H 1) (th : H.1 0 0 = 0) (ws : WFS (H.1 2)) (wl : WFL (H.1 2)) (h42 : ∀ j, 42 ≤ j → H.1 6 j = 0) : EvC zX (d + 7) mX11_watch [.ref 0, .int (zN (sd)), .int (zN (t)), .int (zN (c)), .int (zN (what))] (eh H) (zPi (fun (r : Int) (H1 : ZH) => (((0 ≤ c ∧ c ≤ H.1 2 1 - 1) ∧ (0 ≤ t ∧ t ≤ 99) ∧ (0 ≤ what ∧ what ≤ 3)) ∧ r = (rnF (H.1 2) (H.1 0 21) (bgn (H.1 2) Z0 (H.1 0 22) sd) t.toNat) (8 * what.toNat + c.toNat) ∧ RunP H H1 (rnF (H.1 2) (H.1 0 21) (bgn (H.1 2) Z0 (H.1 0 22) sd) t.toNat)) ∨ (¬ ((0 ≤ c ∧ c ≤ H.1 2 1 - 1) ∧ (0 ≤ t ∧ t ≤ 99) ∧ (0 ≤ what ∧ what ≤ 3)) ∧ r = -1000 ∧ H1 = bumpM 0 H))) := by
  show _ ∧ Ev zX mX11_watch (EvC zX (d + 6)) (zPi (fun (r : Int) (H1 : ZH) => (((0 ≤ c ∧ c ≤ H.1 2 1 - 1) ∧ (0 ≤ t ∧ t ≤ 99) ∧ (0 ≤ what ∧ what ≤ 3)) ∧ r = (rnF (H.1 2) (H.1 0 21) (bgn (H.1 2) Z0 (H.1 0 22) sd) t.toNat) (8 * what.toNat + c.toNat) ∧ RunP H H1 (rnF (H.1 2) (H.1 0 21) (bgn (H.1 2) Z0 (H.1 0 22) sd) t.toNat)) ∨ (¬ ((0 ≤ c ∧ c ≤ H.1 2 1 - 1) ∧ (0 ≤ t ∧ t ≤ 99) ∧ (0 ≤ what ∧ what ≤ 3)) ∧ r = -1000 ∧ H1 = bumpM 0 H))) 0 [(0, .ref 0), (1, .int (zN (sd))), (2, .int (zN (t))), (3, .int (zN (c))), (4, .int (zN (what)))] [] (eh H)
  refine ⟨Nat.le_of_ble_eq_true rfl, ?_⟩
  have wsx := ws
  obtain ⟨ws0, ws1, wsC, ws34, ws35, ws36, ws37, ws38, ws39⟩ := wsx
  refine x_aload_n (pc := 0) dX11_watch_0 (List.Mem.head _) ?_
  refine z_iconst (pc := 1) dX11_watch_1 ?_
  refine z_putI (pc := 2) (k := 0) dX11_watch_2 lp_X11_1 sh_0 rfl ?_
  have ok1 := okI ok 0 0 (v := 0) (by decide) (by decide)
  rw [wI_same th]
  refine x_aload_n (pc := 5) dX11_watch_5 (List.Mem.head _) ?_
  refine x_iload_n (pc := 6) dX11_watch_6 (List.Mem.tail _ (List.Mem.tail _ (List.Mem.tail _ (List.Mem.head _)))) ?_
  refine z_callVbp (pc := 7) (i := mX11_isCar) (S := []) [.int (zN (c))] dX11_watch_7 ml_X11_210 ok_X11_isCar rfl sh_0 rfl (Or.inr rfl) (Nat.le_of_ble_eq_true rfl) (c_X11_isCar (d := d + 4) (a := c) (a1 := (by omega)) (a2 := (by omega)) (ok := ok) (ws := (by first | assumption | omega))) (fun hc4 ok3 => ?_) (fun hc4 ok3 => ?_)
  · skip
    refine z_if_eq (pc := 10) (tgt := 38) dX11_watch_10 (by decide) (by decide) (by decide) (fun h => absurd h (by decide)) (fun _ => ?_)
    refine x_iload_n (pc := 13) dX11_watch_13 (List.Mem.tail _ (List.Mem.tail _ (List.Mem.head _))) ?_
    refine z_i2l (pc := 14) dX11_watch_14 (by omega) (by omega) ?_
    refine z_lconst (pc := 15) 0 dX11_watch_15 rfl ?_
    refine z_ldc2_w (pc := 16) 99 dX11_watch_16 cl_X11_281 (by decide) ?_
    refine z_callSbp (pc := 19) (i := mX11_within) (S := []) [.long (zL (t)), .long (zL (0)), .long (zL (99))] dX11_watch_19 ml_X11_152 ok_X11_within rfl (Or.inr rfl) (Nat.le_of_ble_eq_true rfl) (c_X11_within (d := d + 5) (v := t) (lo := 0) (hi := 99) (v1 := (by omega)) (v2 := (by omega)) (lo1 := (by omega)) (lo2 := (by omega)) (hi1 := (by omega)) (hi2 := (by omega)) (ok := ok3)) (fun hc8 ok7 => ?_) (fun hc8 ok7 => ?_)
    · skip
      refine z_if_eq (pc := 22) (tgt := 38) dX11_watch_22 (by decide) (by decide) (by decide) (fun h => absurd h (by decide)) (fun _ => ?_)
      refine x_iload (pc := 25) dX11_watch_25 (List.Mem.tail _ (List.Mem.tail _ (List.Mem.tail _ (List.Mem.tail _ (List.Mem.head _))))) ?_
      refine z_i2l (pc := 27) dX11_watch_27 (by omega) (by omega) ?_
      refine z_lconst (pc := 28) 0 dX11_watch_28 rfl ?_
      refine z_ldc2_w (pc := 29) 3 dX11_watch_29 cl_X11_213 (by decide) ?_
      refine z_callSbp (pc := 32) (i := mX11_within) (S := []) [.long (zL (what)), .long (zL (0)), .long (zL (3))] dX11_watch_32 ml_X11_152 ok_X11_within rfl (Or.inr rfl) (Nat.le_of_ble_eq_true rfl) (c_X11_within (d := d + 5) (v := what) (lo := 0) (hi := 3) (v1 := (by omega)) (v2 := (by omega)) (lo1 := (by omega)) (lo2 := (by omega)) (hi1 := (by omega)) (hi2 := (by omega)) (ok := ok7)) (fun hc12 ok11 => ?_) (fun hc12 ok11 => ?_)
      · skip
        refine z_if_ne (pc := 35) (tgt := 46) dX11_watch_35 (by decide) (by decide) (by decide) (fun _ => ?_) (fun h => absurd h (by decide))
        refine x_aload_n (pc := 46) dX11_watch_46 (List.Mem.head _) ?_
        refine x_iload_n (pc := 47) dX11_watch_47 (List.Mem.tail _ (List.Mem.head _)) ?_
        refine x_iload_n (pc := 48) dX11_watch_48 (List.Mem.tail _ (List.Mem.tail _ (List.Mem.head _))) ?_
        refine z_callVv (pc := 49) (i := mX11_runs) (S := []) [.int (zN (sd)), .int (zN (t))] dX11_watch_49 ml_X11_275 ok_X11_runs rfl sh_0 rfl rfl (Nat.le_of_ble_eq_true rfl) (c_X11_runs (d := d) (sd := sd) (most := t) (sd1 := (by omega)) (sd2 := (by omega)) (hmost := (by omega)) (ok := ok11) (ws := ws) (wl := wl) (h42 := h42)) ?_
        intro Hm ok15 hp16
        obtain ⟨fr, e60⟩ := hp16
        have e6 : Hm.1 6 = (rnF (H.1 2) (H.1 0 21) (bgn (H.1 2) Z0 (H.1 0 22) sd) t.toNat) := e60
        clear e60
        have e2 := FrR_2 fr
        refine x_aload_n (pc := 52) dX11_watch_52 (List.Mem.head _) ?_
        refine z_getR (pc := 53) (k := 18) (r := 6) dX11_watch_53 lf_X11_33 sh_0 rfl rf_0_18 ?_
        refine z_iconst (pc := 56) dX11_watch_56 ?_
        refine z_bipush (pc := 57) dX11_watch_57 bp_8 ?_
        refine x_iload (pc := 59) dX11_watch_59 (List.Mem.tail _ (List.Mem.tail _ (List.Mem.tail _ (List.Mem.tail _ (List.Mem.head _))))) ?_
        refine z_imul (pc := 61) dX11_watch_61 ?_
        refine z_iadd (pc := 62) dX11_watch_62 ?_
        refine x_iload_n (pc := 63) dX11_watch_63 (List.Mem.tail _ (List.Mem.tail _ (List.Mem.tail _ (List.Mem.head _)))) ?_
        refine z_iadd (pc := 64) dX11_watch_64 ?_
        have okz := ok15.1 6 (8 * what.toNat + c.toNat)
        rw [e6] at okz
        refine z_iald (pc := 65) (j := 8 * what.toNat + c.toNat) (v := ((rnF (H.1 2) (H.1 0 21) (bgn (H.1 2) Z0 (H.1 0 22) sd) t.toNat) (8 * what.toNat + c.toNat))) dX11_watch_65 sh_6 (by omega) (by omega) (by decide) (congrFun e6 _) ?_
        refine z_ireturn (pc := 66) dX11_watch_66 rfl (Or.inl rfl) ok15 (by omega) (by omega) ?_
        exact Or.inl ⟨by omega, rfl, fr, e6⟩
      · skip
        refine z_if_ne (pc := 35) (tgt := 46) dX11_watch_35 (by decide) (by decide) (by decide) (fun h => absurd h (by decide)) (fun _ => ?_)
        refine x_aload_n (pc := 38) dX11_watch_38 (List.Mem.head _) ?_
        refine z_sipush (pc := 39) dX11_watch_39 sp_m1000 ?_
        refine z_callVip (pc := 42) (i := mX11_none) (S := []) [.int (zN ((-1000)))] dX11_watch_42 ml_X11_283 ok_X11_none rfl sh_0 rfl (Or.inl rfl) (Nat.le_of_ble_eq_true rfl) (c_X11_none (d := d + 5) (a := ((-1000))) (a1 := (by omega)) (a2 := (by omega)) (ok := ok11) (cn := (by first | assumption | omega))) (fun r18a r18b ok19 => ?_)
        show Ev _ _ _ _ _ _ _ (eh (wI H 1 0 (H.1 1 0 + 1)))
        refine z_ireturn (pc := 45) dX11_watch_45 rfl (Or.inl rfl) ok19 (by omega) (by omega) ?_
        exact Or.inr ⟨by omega, rfl, rfl⟩
    · skip
      refine z_if_eq (pc := 22) (tgt := 38) dX11_watch_22 (by decide) (by decide) (by decide) (fun _ => ?_) (fun h => absurd h (by decide))
      refine x_aload_n (pc := 38) dX11_watch_38 (List.Mem.head _) ?_
      refine z_sipush (pc := 39) dX11_watch_39 sp_m1000 ?_
      refine z_callVip (pc := 42) (i := mX11_none) (S := []) [.int (zN ((-1000)))] dX11_watch_42 ml_X11_283 ok_X11_none rfl sh_0 rfl (Or.inl rfl) (Nat.le_of_ble_eq_true rfl) (c_X11_none (d := d + 5) (a := ((-1000))) (a1 := (by omega)) (a2 := (by omega)) (ok := ok7) (cn := (by first | assumption | omega))) (fun r21a r21b ok22 => ?_)
      show Ev _ _ _ _ _ _ _ (eh (wI H 1 0 (H.1 1 0 + 1)))
      refine z_ireturn (pc := 45) dX11_watch_45 rfl (Or.inl rfl) ok22 (by omega) (by omega) ?_
      exact Or.inr ⟨by omega, rfl, rfl⟩
  · skip
    refine z_if_eq (pc := 10) (tgt := 38) dX11_watch_10 (by decide) (by decide) (by decide) (fun _ => ?_) (fun h => absurd h (by decide))
    refine x_aload_n (pc := 38) dX11_watch_38 (List.Mem.head _) ?_
    refine z_sipush (pc := 39) dX11_watch_39 sp_m1000 ?_
    refine z_callVip (pc := 42) (i := mX11_none) (S := []) [.int (zN ((-1000)))] dX11_watch_42 ml_X11_283 ok_X11_none rfl sh_0 rfl (Or.inl rfl) (Nat.le_of_ble_eq_true rfl) (c_X11_none (d := d + 5) (a := ((-1000))) (a1 := (by omega)) (a2 := (by omega)) (ok := ok3) (cn := (by first | assumption | omega))) (fun r24a r24b ok25 => ?_)
    show Ev _ _ _ _ _ _ _ (eh (wI H 1 0 (H.1 1 0 + 1)))
    refine z_ireturn (pc := 45) dX11_watch_45 rfl (Or.inl rfl) ok25 (by omega) (by omega) ?_
    exact Or.inr ⟨by omega, rfl, rfl⟩

theorem c_X11_stands {d : Nat} {H : ZH} (ok : okZ H) {sd t : Int} (sd1 : -2147483648 ≤ sd) (sd2 : sd ≤ 2147483647) (t1 : -2147483648 ≤ t) (t2 : t ≤ 2147483647) (cm : cntOK H 1) (th : H.1 0 0 = 0) (ws : WFS (H.1 2)) (wl : WFL (H.1 2)) (h42 : ∀ j, 42 ≤ j → H.1 6 j = 0) : EvC zX (d + 7) mX11_stands [.ref 0, .int (zN (sd)), .int (zN (t))] (eh H) (zPi (fun (r : Int) (H1 : ZH) => ((0 ≤ t ∧ t ≤ 99) ∧ r = 10 * (rnF (H.1 2) (H.1 0 21) (bgn (H.1 2) Z0 (H.1 0 22) sd) t.toNat) 32 + (rnF (H.1 2) (H.1 0 21) (bgn (H.1 2) Z0 (H.1 0 22) sd) t.toNat) 33 ∧ RunP H H1 (rnF (H.1 2) (H.1 0 21) (bgn (H.1 2) Z0 (H.1 0 22) sd) t.toNat)) ∨ (¬ (0 ≤ t ∧ t ≤ 99) ∧ r = -3 ∧ H1 = bumpM 1 H))) := by
  show _ ∧ Ev zX mX11_stands (EvC zX (d + 6)) (zPi (fun (r : Int) (H1 : ZH) => ((0 ≤ t ∧ t ≤ 99) ∧ r = 10 * (rnF (H.1 2) (H.1 0 21) (bgn (H.1 2) Z0 (H.1 0 22) sd) t.toNat) 32 + (rnF (H.1 2) (H.1 0 21) (bgn (H.1 2) Z0 (H.1 0 22) sd) t.toNat) 33 ∧ RunP H H1 (rnF (H.1 2) (H.1 0 21) (bgn (H.1 2) Z0 (H.1 0 22) sd) t.toNat)) ∨ (¬ (0 ≤ t ∧ t ≤ 99) ∧ r = -3 ∧ H1 = bumpM 1 H))) 0 [(0, .ref 0), (1, .int (zN (sd))), (2, .int (zN (t)))] [] (eh H)
  refine ⟨Nat.le_of_ble_eq_true rfl, ?_⟩
  have wsx := ws
  obtain ⟨ws0, ws1, wsC, ws34, ws35, ws36, ws37, ws38, ws39⟩ := wsx
  have rk := rnF_ok (wo := H.1 0 21) ws1 ws0 (bgn_rn (o := Z0) (wc := H.1 0 22) (sd := sd) ws) t.toNat
  have rw1 := rk.1.2
  refine x_aload_n (pc := 0) dX11_stands_0 (List.Mem.head _) ?_
  refine z_iconst (pc := 1) dX11_stands_1 ?_
  refine z_putI (pc := 2) (k := 0) dX11_stands_2 lp_X11_1 sh_0 rfl ?_
  have ok1 := okI ok 0 0 (v := 0) (by decide) (by decide)
  rw [wI_same th]
  refine x_iload_n (pc := 5) dX11_stands_5 (List.Mem.tail _ (List.Mem.tail _ (List.Mem.head _))) ?_
  refine z_i2l (pc := 6) dX11_stands_6 (by omega) (by omega) ?_
  refine z_lconst (pc := 7) 0 dX11_stands_7 rfl ?_
  refine z_ldc2_w (pc := 8) 99 dX11_stands_8 cl_X11_281 (by decide) ?_
  refine z_callSbp (pc := 11) (i := mX11_within) (S := []) [.long (zL (t)), .long (zL (0)), .long (zL (99))] dX11_stands_11 ml_X11_152 ok_X11_within rfl (Or.inr rfl) (Nat.le_of_ble_eq_true rfl) (c_X11_within (d := d + 5) (v := t) (lo := 0) (hi := 99) (v1 := (by omega)) (v2 := (by omega)) (lo1 := (by omega)) (lo2 := (by omega)) (hi1 := (by omega)) (hi2 := (by omega)) (ok := ok)) (fun hc4 ok3 => ?_) (fun hc4 ok3 => ?_)
  · skip
    refine z_if_ne (pc := 14) (tgt := 24) dX11_stands_14 (by decide) (by decide) (by decide) (fun _ => ?_) (fun h => absurd h (by decide))
    refine x_aload_n (pc := 24) dX11_stands_24 (List.Mem.head _) ?_
    refine x_iload_n (pc := 25) dX11_stands_25 (List.Mem.tail _ (List.Mem.head _)) ?_
    refine x_iload_n (pc := 26) dX11_stands_26 (List.Mem.tail _ (List.Mem.tail _ (List.Mem.head _))) ?_
    refine z_callVv (pc := 27) (i := mX11_runs) (S := []) [.int (zN (sd)), .int (zN (t))] dX11_stands_27 ml_X11_275 ok_X11_runs rfl sh_0 rfl rfl (Nat.le_of_ble_eq_true rfl) (c_X11_runs (d := d) (sd := sd) (most := t) (sd1 := (by omega)) (sd2 := (by omega)) (hmost := (by omega)) (ok := ok3) (ws := ws) (wl := wl) (h42 := h42)) ?_
    intro Hm ok7 hp8
    obtain ⟨fr, e60⟩ := hp8
    have e6 : Hm.1 6 = (rnF (H.1 2) (H.1 0 21) (bgn (H.1 2) Z0 (H.1 0 22) sd) t.toNat) := e60
    clear e60
    have e2 := FrR_2 fr
    refine z_bipush (pc := 30) dX11_stands_30 bp_10 ?_
    refine x_aload_n (pc := 32) dX11_stands_32 (List.Mem.head _) ?_
    refine z_getR (pc := 33) (k := 18) (r := 6) dX11_stands_33 lf_X11_33 sh_0 rfl rf_0_18 ?_
    refine z_bipush (pc := 36) dX11_stands_36 bp_32 ?_
    refine z_iald (pc := 38) (j := 32) (v := ((rnF (H.1 2) (H.1 0 21) (bgn (H.1 2) Z0 (H.1 0 22) sd) t.toNat) 32)) dX11_stands_38 sh_6 rfl (Nat.le_of_ble_eq_true rfl) (by decide) (congrFun e6 32) ?_
    refine z_imul (pc := 39) dX11_stands_39 ?_
    refine x_aload_n (pc := 40) dX11_stands_40 (List.Mem.head _) ?_
    refine z_getR (pc := 41) (k := 18) (r := 6) dX11_stands_41 lf_X11_33 sh_0 rfl rf_0_18 ?_
    refine z_bipush (pc := 44) dX11_stands_44 bp_33 ?_
    refine z_iald (pc := 46) (j := 33) (v := ((rnF (H.1 2) (H.1 0 21) (bgn (H.1 2) Z0 (H.1 0 22) sd) t.toNat) 33)) dX11_stands_46 sh_6 rfl (Nat.le_of_ble_eq_true rfl) (by decide) (congrFun e6 33) ?_
    refine z_iadd (pc := 47) dX11_stands_47 ?_
    refine z_ireturn (pc := 48) dX11_stands_48 rfl (Or.inl rfl) ok7 (by omega) (by omega) ?_
    exact Or.inl ⟨by omega, rfl, fr, e6⟩
  · skip
    refine z_if_ne (pc := 14) (tgt := 24) dX11_stands_14 (by decide) (by decide) (by decide) (fun h => absurd h (by decide)) (fun _ => ?_)
    refine x_aload_n (pc := 17) dX11_stands_17 (List.Mem.head _) ?_
    refine z_bipush (pc := 18) dX11_stands_18 bp_m3 ?_
    refine z_callVip (pc := 20) (i := mX11_no) (S := []) [.int (zN ((-3)))] dX11_stands_20 ml_X11_89 ok_X11_no rfl sh_0 rfl (Or.inl rfl) (Nat.le_of_ble_eq_true rfl) (c_X11_no (d := d + 5) (code := ((-3))) (code1 := (by omega)) (code2 := (by omega)) (ok := ok3) (cn := (by first | assumption | omega))) (fun r10a r10b ok11 => ?_)
    show Ev _ _ _ _ _ _ _ (eh (wI H 1 ((refIx ((-3)))) (H.1 1 (refIx ((-3))) + 1)))
    refine z_ireturn (pc := 23) dX11_stands_23 rfl (Or.inl rfl) ok11 (by omega) (by omega) ?_
    exact Or.inr ⟨by omega, rfl, rfl⟩

theorem c_X11_tries {d : Nat} {H : ZH} (ok : okZ H) {s m how : Int} (s1 : -2147483648 ≤ s) (s2 : s ≤ 2147483647) (m1 : -2147483648 ≤ m) (m2 : m ≤ 2147483647) (how1 : -2147483648 ≤ how) (how2 : how ≤ 2147483647) (cm : cntOK H 1) (th : H.1 0 0 = 0) (ws : WFS (H.1 2)) (wl : WFL (H.1 2)) (h42 : ∀ j, 42 ≤ j → H.1 6 j = 0) : EvC zX (d + 7) mX11_tries [.ref 0, .int (zN (s)), .int (zN (m)), .int (zN (how))] (eh H) (zPi (fun (r : Int) (H1 : ZH) => ((1 ≤ how ∧ how ≤ 5) ∧ (1 ≤ m ∧ m ≤ 60) ∧ r = trS (H.1 2) (H.1 0 21) (H.1 0 22) s how m.toNat ∧ FrR H H1 ∧ ∀ j, 42 ≤ j → H1.1 6 j = 0) ∨ (¬ (1 ≤ how ∧ how ≤ 5) ∧ r = -2 ∧ H1 = bumpM 0 H) ∨ ((1 ≤ how ∧ how ≤ 5) ∧ ¬ (1 ≤ m ∧ m ≤ 60) ∧ r = -3 ∧ H1 = bumpM 1 H))) := by
  show _ ∧ Ev zX mX11_tries (EvC zX (d + 6)) (zPi (fun (r : Int) (H1 : ZH) => ((1 ≤ how ∧ how ≤ 5) ∧ (1 ≤ m ∧ m ≤ 60) ∧ r = trS (H.1 2) (H.1 0 21) (H.1 0 22) s how m.toNat ∧ FrR H H1 ∧ ∀ j, 42 ≤ j → H1.1 6 j = 0) ∨ (¬ (1 ≤ how ∧ how ≤ 5) ∧ r = -2 ∧ H1 = bumpM 0 H) ∨ ((1 ≤ how ∧ how ≤ 5) ∧ ¬ (1 ≤ m ∧ m ≤ 60) ∧ r = -3 ∧ H1 = bumpM 1 H))) 0 [(0, .ref 0), (1, .int (zN (s))), (2, .int (zN (m))), (3, .int (zN (how)))] [] (eh H)
  refine ⟨Nat.le_of_ble_eq_true rfl, ?_⟩
  have wsx := ws
  obtain ⟨ws0, ws1, wsC, ws34, ws35, ws36, ws37, ws38, ws39⟩ := wsx
  refine x_aload_n (pc := 0) dX11_tries_0 (List.Mem.head _) ?_
  refine z_iconst (pc := 1) dX11_tries_1 ?_
  refine z_putI (pc := 2) (k := 0) dX11_tries_2 lp_X11_1 sh_0 rfl ?_
  have ok1 := okI ok 0 0 (v := 0) (by decide) (by decide)
  rw [wI_same th]
  refine x_iload_n (pc := 5) dX11_tries_5 (List.Mem.tail _ (List.Mem.tail _ (List.Mem.tail _ (List.Mem.head _)))) ?_
  refine z_i2l (pc := 6) dX11_tries_6 (by omega) (by omega) ?_
  refine z_lconst (pc := 7) 1 dX11_tries_7 rfl ?_
  refine z_ldc2_w (pc := 8) 5 dX11_tries_8 cl_X11_172 (by decide) ?_
  refine z_callSbp (pc := 11) (i := mX11_within) (S := []) [.long (zL (how)), .long (zL (1)), .long (zL (5))] dX11_tries_11 ml_X11_152 ok_X11_within rfl (Or.inr rfl) (Nat.le_of_ble_eq_true rfl) (c_X11_within (d := d + 5) (v := how) (lo := 1) (hi := 5) (v1 := (by omega)) (v2 := (by omega)) (lo1 := (by omega)) (lo2 := (by omega)) (hi1 := (by omega)) (hi2 := (by omega)) (ok := ok)) (fun hc4 ok3 => ?_) (fun hc4 ok3 => ?_)
  · skip
    refine z_if_ne (pc := 14) (tgt := 24) dX11_tries_14 (by decide) (by decide) (by decide) (fun _ => ?_) (fun h => absurd h (by decide))
    refine x_iload_n (pc := 24) dX11_tries_24 (List.Mem.tail _ (List.Mem.tail _ (List.Mem.head _))) ?_
    refine z_i2l (pc := 25) dX11_tries_25 (by omega) (by omega) ?_
    refine z_lconst (pc := 26) 1 dX11_tries_26 rfl ?_
    refine z_ldc2_w (pc := 27) 60 dX11_tries_27 cl_X11_221 (by decide) ?_
    refine z_callSbp (pc := 30) (i := mX11_within) (S := []) [.long (zL (m)), .long (zL (1)), .long (zL (60))] dX11_tries_30 ml_X11_152 ok_X11_within rfl (Or.inr rfl) (Nat.le_of_ble_eq_true rfl) (c_X11_within (d := d + 5) (v := m) (lo := 1) (hi := 60) (v1 := (by omega)) (v2 := (by omega)) (lo1 := (by omega)) (lo2 := (by omega)) (hi1 := (by omega)) (hi2 := (by omega)) (ok := ok3)) (fun hc8 ok7 => ?_) (fun hc8 ok7 => ?_)
    · skip
      refine z_if_ne (pc := 33) (tgt := 43) dX11_tries_33 (by decide) (by decide) (by decide) (fun _ => ?_) (fun h => absurd h (by decide))
      refine z_iconst (pc := 43) dX11_tries_43 ?_
      refine x_istore (pc := 44) dX11_tries_44 (Nat.le_of_ble_eq_true rfl) ?_
      show Ev _ _ _ _ _ [(4, .int (zN (0))), (0, .ref 0), (1, .int (zN (s))), (2, .int (zN (m))), (3, .int (zN (how)))] _ _
      refine z_iconst (pc := 46) dX11_tries_46 ?_
      refine x_istore (pc := 47) dX11_tries_47 (Nat.le_of_ble_eq_true rfl) ?_
      show Ev _ _ _ _ _ [(5, .int (zN (0))), (4, .int (zN (0))), (0, .ref 0), (1, .int (zN (s))), (2, .int (zN (m))), (3, .int (zN (how)))] _ _
      have lp49 : ∀ (nF : Nat) (k : Nat) (Hm : ZH), okZ Hm → ((k : Int) ≤ m) → (0 ≤ trS (H.1 2) (H.1 0 21) (H.1 0 22) s how k ∧ trS (H.1 2) (H.1 0 21) (H.1 0 22) s how k ≤ 162 * (k : Int)) → (FrR H Hm) → (∀ j, 42 ≤ j → Hm.1 6 j = 0) → m.toNat - k < nF → Ev zX mX11_tries (EvC zX (d + 6)) (zPi (fun (r : Int) (H1 : ZH) => ((1 ≤ how ∧ how ≤ 5) ∧ (1 ≤ m ∧ m ≤ 60) ∧ r = trS (H.1 2) (H.1 0 21) (H.1 0 22) s how m.toNat ∧ FrR H H1 ∧ ∀ j, 42 ≤ j → H1.1 6 j = 0) ∨ (¬ (1 ≤ how ∧ how ≤ 5) ∧ r = -2 ∧ H1 = bumpM 0 H) ∨ ((1 ≤ how ∧ how ≤ 5) ∧ ¬ (1 ≤ m ∧ m ≤ 60) ∧ r = -3 ∧ H1 = bumpM 1 H))) 49 [(0, .ref 0), (1, .int (zN (s))), (2, .int (zN (m))), (3, .int (zN (how))), (4, .int (zN (trS (H.1 2) (H.1 0 21) (H.1 0 22) s how k))), (5, .int (zN ((k : Int))))] [] (eh Hm) := by
        intro nF
        induction nF with
        | zero => intro k Hm okl49 hk hsb fr z42 hm; exact absurd hm (Nat.not_lt_zero _)
        | succ nF ih49 =>
          intro k Hm okl49 hk hsb fr z42 hm
          have e2 := FrR_2 fr
          have e21 : Hm.1 0 21 = H.1 0 21 := fr.2 0 21 (by omega)
          have e22 : Hm.1 0 22 = H.1 0 22 := fr.2 0 22 (by omega)
          have hb0 := bgn_rn (o := Z0) (wc := H.1 0 22) (sd := ((s + (k : Int)).bmod 4294967296)) ws
          have rk := rnF_ok (wo := H.1 0 21) ws1 ws0 hb0 99
          have rw1 := rk.1.2
          have tv := trV_bd (how := how) rk
          have hsb2 : 0 ≤ trS (H.1 2) (H.1 0 21) (H.1 0 22) s how (k + 1) ∧ trS (H.1 2) (H.1 0 21) (H.1 0 22) s how (k + 1) ≤ 162 * ((k + 1 : Nat) : Int) := by
            show 0 ≤ trS (H.1 2) (H.1 0 21) (H.1 0 22) s how k + trV (rnF (H.1 2) (H.1 0 21) (bgn (H.1 2) Z0 (H.1 0 22) ((s + (k : Int)).bmod 4294967296)) 99) how ∧ trS (H.1 2) (H.1 0 21) (H.1 0 22) s how k + trV (rnF (H.1 2) (H.1 0 21) (bgn (H.1 2) Z0 (H.1 0 22) ((s + (k : Int)).bmod 4294967296)) 99) how ≤ 162 * ((k + 1 : Nat) : Int)
            omega
          refine x_iload (pc := 49) dX11_tries_49 (List.Mem.tail _ (List.Mem.tail _ (List.Mem.tail _ (List.Mem.tail _ (List.Mem.tail _ (List.Mem.head _)))))) ?_
          refine x_iload_n (pc := 51) dX11_tries_51 (List.Mem.tail _ (List.Mem.tail _ (List.Mem.head _))) ?_
          refine z_icmp_ge (pc := 52) (tgt := 122) dX11_tries_52 (by decide) (by omega) (by omega) (by omega) (by omega) (fun hb10 => ?_) (fun hb10 => ?_)
          · skip
            refine x_iload (pc := 122) dX11_tries_122 (List.Mem.tail _ (List.Mem.tail _ (List.Mem.tail _ (List.Mem.tail _ (List.Mem.head _))))) ?_
            refine z_ireturn (pc := 124) dX11_tries_124 rfl (Or.inl rfl) okl49 (by omega) (by omega) ?_
            exact Or.inl ⟨by omega, by omega, by rw [show m.toNat = k by omega], fr, z42⟩
          · skip
            refine x_aload_n (pc := 55) dX11_tries_55 (List.Mem.head _) ?_
            refine x_iload_n (pc := 56) dX11_tries_56 (List.Mem.tail _ (List.Mem.head _)) ?_
            refine x_iload (pc := 57) dX11_tries_57 (List.Mem.tail _ (List.Mem.tail _ (List.Mem.tail _ (List.Mem.tail _ (List.Mem.tail _ (List.Mem.head _)))))) ?_
            have rd11 := bm32 (s + (k : Int))
            refine z_iaddw (pc := 59) dX11_tries_59 ?_
            refine z_bipush (pc := 60) dX11_tries_60 bp_99 ?_
            refine z_callVv (pc := 62) (i := mX11_runs) (S := []) [.int (zN (((s + (k : Int)).bmod 4294967296))), .int (zN (99))] dX11_tries_62 ml_X11_275 ok_X11_runs rfl sh_0 rfl rfl (Nat.le_of_ble_eq_true rfl) (c_X11_runs (d := d) (sd := (((s + (k : Int)).bmod 4294967296))) (most := 99) (sd1 := (by omega)) (sd2 := (by omega)) (hmost := (by omega)) (ok := okl49) (ws := (show WFS (Hm.1 2) by rw [e2]; exact ws)) (wl := (show WFL (Hm.1 2) by rw [e2]; exact wl)) (h42 := z42)) ?_
            intro H3 ok13 hp14
            obtain ⟨fr2, e6⟩ := hp14
            rw [e2, e21, e22] at e6
            have e6 : H3.1 6 = (rnF (H.1 2) (H.1 0 21) (bgn (H.1 2) Z0 (H.1 0 22) ((s + (k : Int)).bmod 4294967296)) 99) := e6
            have fr3 := FrR_tr fr fr2
            refine x_iload (pc := 65) dX11_tries_65 (List.Mem.tail _ (List.Mem.tail _ (List.Mem.tail _ (List.Mem.tail _ (List.Mem.head _))))) ?_
            refine x_iload_n (pc := 67) dX11_tries_67 (List.Mem.tail _ (List.Mem.tail _ (List.Mem.tail _ (List.Mem.head _)))) ?_
            refine z_iconst (pc := 68) dX11_tries_68 ?_
            refine z_icmp_ne (pc := 69) (tgt := 82) dX11_tries_69 (by decide) (by omega) (by omega) (by decide) (by decide) (fun hb15 => ?_) (fun hb15 => ?_)
            · skip
              refine x_iload_n (pc := 82) dX11_tries_82 (List.Mem.tail _ (List.Mem.tail _ (List.Mem.tail _ (List.Mem.head _)))) ?_
              refine z_iconst (pc := 83) dX11_tries_83 ?_
              refine z_icmp_ne (pc := 84) (tgt := 97) dX11_tries_84 (by decide) (by omega) (by omega) (by decide) (by decide) (fun hb16 => ?_) (fun hb16 => ?_)
              · skip
                refine x_aload_n (pc := 97) dX11_tries_97 (List.Mem.head _) ?_
                refine z_getR (pc := 98) (k := 18) (r := 6) dX11_tries_98 lf_X11_33 sh_0 rfl rf_0_18 ?_
                refine z_bipush (pc := 101) dX11_tries_101 bp_37 ?_
                refine z_iald (pc := 103) (j := 37) (v := ((rnF (H.1 2) (H.1 0 21) (bgn (H.1 2) Z0 (H.1 0 22) ((s + (k : Int)).bmod 4294967296)) 99) 37)) dX11_tries_103 sh_6 rfl (Nat.le_of_ble_eq_true rfl) (by decide) (congrFun e6 37) ?_
                refine x_iload_n (pc := 104) dX11_tries_104 (List.Mem.tail _ (List.Mem.tail _ (List.Mem.tail _ (List.Mem.head _)))) ?_
                refine z_icmp_ne (pc := 105) (tgt := 112) dX11_tries_105 (by decide) (by omega) (by omega) (by omega) (by omega) (fun hb17 => ?_) (fun hb17 => ?_)
                · skip
                  refine z_iconst (pc := 112) dX11_tries_112 ?_
                  refine z_iadd (pc := 113) dX11_tries_113 ?_
                  refine x_istore (pc := 114) dX11_tries_114 (Nat.le_of_ble_eq_true rfl) ?_
                  show Ev _ _ _ _ _ [(4, .int (zN ((trS (H.1 2) (H.1 0 21) (H.1 0 22) s how k + 0)))), (0, .ref 0), (1, .int (zN (s))), (2, .int (zN (m))), (3, .int (zN (how))), (5, .int (zN ((k : Int))))] _ _
                  refine z_iinc (pc := 116) dX11_tries_116 (List.Mem.tail _ (List.Mem.tail _ (List.Mem.tail _ (List.Mem.tail _ (List.Mem.tail _ (List.Mem.head _)))))) (Nat.le_of_ble_eq_true rfl) ?_
                  show Ev _ _ _ _ _ [(5, .int (zN ((k : Int) + 1))), (4, .int (zN ((trS (H.1 2) (H.1 0 21) (H.1 0 22) s how k + 0)))), (0, .ref 0), (1, .int (zN (s))), (2, .int (zN (m))), (3, .int (zN (how)))] _ _
                  refine x_goto (pc := 119) (tgt := 49) dX11_tries_119 (by decide) ?_
                  refine x_weaken (L1 := [(0, .ref 0), (1, .int (zN (s))), (2, .int (zN (m))), (3, .int (zN (how))), (4, .int (zN (trS (H.1 2) (H.1 0 21) (H.1 0 22) s how (k + 1)))), (5, .int (zN ((((k + 1) : Nat) : Int))))]) (List.forall_mem_cons.mpr ⟨(List.Mem.tail _ (List.Mem.tail _ (List.Mem.head _))), (List.forall_mem_cons.mpr ⟨(List.Mem.tail _ (List.Mem.tail _ (List.Mem.tail _ (List.Mem.head _)))), (List.forall_mem_cons.mpr ⟨(List.Mem.tail _ (List.Mem.tail _ (List.Mem.tail _ (List.Mem.tail _ (List.Mem.head _))))), (List.forall_mem_cons.mpr ⟨(List.Mem.tail _ (List.Mem.tail _ (List.Mem.tail _ (List.Mem.tail _ (List.Mem.tail _ (List.Mem.head _)))))), (List.forall_mem_cons.mpr ⟨(mem_ci (by show trS (H.1 2) (H.1 0 21) (H.1 0 22) s how k + trV (rnF (H.1 2) (H.1 0 21) (bgn (H.1 2) Z0 (H.1 0 22) ((s + (k : Int)).bmod 4294967296)) 99) how = _; unfold trV; first | (rw [if_pos (by omega)]; done) | (rw [if_neg (by omega), if_pos (by omega)]; done) | (rw [if_neg (by omega), if_neg (by omega), if_pos (by omega)]; done) | (rw [if_neg (by omega), if_neg (by omega), if_neg (by omega)]; done)) (List.Mem.tail _ (List.Mem.head _))), (List.forall_mem_cons.mpr ⟨(mem_ci (by omega) (List.Mem.head _)), (fun _ h => absurd h List.not_mem_nil)⟩)⟩)⟩)⟩)⟩)⟩) ?_
                  exact ih49 ((k + 1)) H3 ok13 (by first | assumption | omega) (hsb2) (fr3) (fun j hj => by rw [e6, rnF_hi ws1 ws0 hb0 99 hj, bgn_hi hj ws1]) (by omega)
                · skip
                  refine z_iconst (pc := 108) dX11_tries_108 ?_
                  refine x_goto (pc := 109) (tgt := 113) dX11_tries_109 (by decide) ?_
                  refine z_iadd (pc := 113) dX11_tries_113 ?_
                  refine x_istore (pc := 114) dX11_tries_114 (Nat.le_of_ble_eq_true rfl) ?_
                  show Ev _ _ _ _ _ [(4, .int (zN ((trS (H.1 2) (H.1 0 21) (H.1 0 22) s how k + 1)))), (0, .ref 0), (1, .int (zN (s))), (2, .int (zN (m))), (3, .int (zN (how))), (5, .int (zN ((k : Int))))] _ _
                  refine z_iinc (pc := 116) dX11_tries_116 (List.Mem.tail _ (List.Mem.tail _ (List.Mem.tail _ (List.Mem.tail _ (List.Mem.tail _ (List.Mem.head _)))))) (Nat.le_of_ble_eq_true rfl) ?_
                  show Ev _ _ _ _ _ [(5, .int (zN ((k : Int) + 1))), (4, .int (zN ((trS (H.1 2) (H.1 0 21) (H.1 0 22) s how k + 1)))), (0, .ref 0), (1, .int (zN (s))), (2, .int (zN (m))), (3, .int (zN (how)))] _ _
                  refine x_goto (pc := 119) (tgt := 49) dX11_tries_119 (by decide) ?_
                  refine x_weaken (L1 := [(0, .ref 0), (1, .int (zN (s))), (2, .int (zN (m))), (3, .int (zN (how))), (4, .int (zN (trS (H.1 2) (H.1 0 21) (H.1 0 22) s how (k + 1)))), (5, .int (zN ((((k + 1) : Nat) : Int))))]) (List.forall_mem_cons.mpr ⟨(List.Mem.tail _ (List.Mem.tail _ (List.Mem.head _))), (List.forall_mem_cons.mpr ⟨(List.Mem.tail _ (List.Mem.tail _ (List.Mem.tail _ (List.Mem.head _)))), (List.forall_mem_cons.mpr ⟨(List.Mem.tail _ (List.Mem.tail _ (List.Mem.tail _ (List.Mem.tail _ (List.Mem.head _))))), (List.forall_mem_cons.mpr ⟨(List.Mem.tail _ (List.Mem.tail _ (List.Mem.tail _ (List.Mem.tail _ (List.Mem.tail _ (List.Mem.head _)))))), (List.forall_mem_cons.mpr ⟨(mem_ci (by show trS (H.1 2) (H.1 0 21) (H.1 0 22) s how k + trV (rnF (H.1 2) (H.1 0 21) (bgn (H.1 2) Z0 (H.1 0 22) ((s + (k : Int)).bmod 4294967296)) 99) how = _; unfold trV; first | (rw [if_pos (by omega)]; done) | (rw [if_neg (by omega), if_pos (by omega)]; done) | (rw [if_neg (by omega), if_neg (by omega), if_pos (by omega)]; done) | (rw [if_neg (by omega), if_neg (by omega), if_neg (by omega)]; done)) (List.Mem.tail _ (List.Mem.head _))), (List.forall_mem_cons.mpr ⟨(mem_ci (by omega) (List.Mem.head _)), (fun _ h => absurd h List.not_mem_nil)⟩)⟩)⟩)⟩)⟩)⟩) ?_
                  exact ih49 ((k + 1)) H3 ok13 (by first | assumption | omega) (hsb2) (fr3) (fun j hj => by rw [e6, rnF_hi ws1 ws0 hb0 99 hj, bgn_hi hj ws1]) (by omega)
              · skip
                refine x_aload_n (pc := 87) dX11_tries_87 (List.Mem.head _) ?_
                refine z_getR (pc := 88) (k := 18) (r := 6) dX11_tries_88 lf_X11_33 sh_0 rfl rf_0_18 ?_
                refine z_bipush (pc := 91) dX11_tries_91 bp_36 ?_
                refine z_iald (pc := 93) (j := 36) (v := ((rnF (H.1 2) (H.1 0 21) (bgn (H.1 2) Z0 (H.1 0 22) ((s + (k : Int)).bmod 4294967296)) 99) 36)) dX11_tries_93 sh_6 rfl (Nat.le_of_ble_eq_true rfl) (by decide) (congrFun e6 36) ?_
                refine x_goto (pc := 94) (tgt := 113) dX11_tries_94 (by decide) ?_
                refine z_iadd (pc := 113) dX11_tries_113 ?_
                refine x_istore (pc := 114) dX11_tries_114 (Nat.le_of_ble_eq_true rfl) ?_
                show Ev _ _ _ _ _ [(4, .int (zN ((trS (H.1 2) (H.1 0 21) (H.1 0 22) s how k + (((rnF (H.1 2) (H.1 0 21) (bgn (H.1 2) Z0 (H.1 0 22) ((s + (k : Int)).bmod 4294967296)) 99) 36)))))), (0, .ref 0), (1, .int (zN (s))), (2, .int (zN (m))), (3, .int (zN (how))), (5, .int (zN ((k : Int))))] _ _
                refine z_iinc (pc := 116) dX11_tries_116 (List.Mem.tail _ (List.Mem.tail _ (List.Mem.tail _ (List.Mem.tail _ (List.Mem.tail _ (List.Mem.head _)))))) (Nat.le_of_ble_eq_true rfl) ?_
                show Ev _ _ _ _ _ [(5, .int (zN ((k : Int) + 1))), (4, .int (zN ((trS (H.1 2) (H.1 0 21) (H.1 0 22) s how k + (((rnF (H.1 2) (H.1 0 21) (bgn (H.1 2) Z0 (H.1 0 22) ((s + (k : Int)).bmod 4294967296)) 99) 36)))))), (0, .ref 0), (1, .int (zN (s))), (2, .int (zN (m))), (3, .int (zN (how)))] _ _
                refine x_goto (pc := 119) (tgt := 49) dX11_tries_119 (by decide) ?_
                refine x_weaken (L1 := [(0, .ref 0), (1, .int (zN (s))), (2, .int (zN (m))), (3, .int (zN (how))), (4, .int (zN (trS (H.1 2) (H.1 0 21) (H.1 0 22) s how (k + 1)))), (5, .int (zN ((((k + 1) : Nat) : Int))))]) (List.forall_mem_cons.mpr ⟨(List.Mem.tail _ (List.Mem.tail _ (List.Mem.head _))), (List.forall_mem_cons.mpr ⟨(List.Mem.tail _ (List.Mem.tail _ (List.Mem.tail _ (List.Mem.head _)))), (List.forall_mem_cons.mpr ⟨(List.Mem.tail _ (List.Mem.tail _ (List.Mem.tail _ (List.Mem.tail _ (List.Mem.head _))))), (List.forall_mem_cons.mpr ⟨(List.Mem.tail _ (List.Mem.tail _ (List.Mem.tail _ (List.Mem.tail _ (List.Mem.tail _ (List.Mem.head _)))))), (List.forall_mem_cons.mpr ⟨(mem_ci (by show trS (H.1 2) (H.1 0 21) (H.1 0 22) s how k + trV (rnF (H.1 2) (H.1 0 21) (bgn (H.1 2) Z0 (H.1 0 22) ((s + (k : Int)).bmod 4294967296)) 99) how = _; unfold trV; first | (rw [if_pos (by omega)]; done) | (rw [if_neg (by omega), if_pos (by omega)]; done) | (rw [if_neg (by omega), if_neg (by omega), if_pos (by omega)]; done) | (rw [if_neg (by omega), if_neg (by omega), if_neg (by omega)]; done)) (List.Mem.tail _ (List.Mem.head _))), (List.forall_mem_cons.mpr ⟨(mem_ci (by omega) (List.Mem.head _)), (fun _ h => absurd h List.not_mem_nil)⟩)⟩)⟩)⟩)⟩)⟩) ?_
                exact ih49 ((k + 1)) H3 ok13 (by first | assumption | omega) (hsb2) (fr3) (fun j hj => by rw [e6, rnF_hi ws1 ws0 hb0 99 hj, bgn_hi hj ws1]) (by omega)
            · skip
              refine x_aload_n (pc := 72) dX11_tries_72 (List.Mem.head _) ?_
              refine z_getR (pc := 73) (k := 18) (r := 6) dX11_tries_73 lf_X11_33 sh_0 rfl rf_0_18 ?_
              refine z_bipush (pc := 76) dX11_tries_76 bp_38 ?_
              refine z_iald (pc := 78) (j := 38) (v := ((rnF (H.1 2) (H.1 0 21) (bgn (H.1 2) Z0 (H.1 0 22) ((s + (k : Int)).bmod 4294967296)) 99) 38)) dX11_tries_78 sh_6 rfl (Nat.le_of_ble_eq_true rfl) (by decide) (congrFun e6 38) ?_
              refine x_goto (pc := 79) (tgt := 113) dX11_tries_79 (by decide) ?_
              refine z_iadd (pc := 113) dX11_tries_113 ?_
              refine x_istore (pc := 114) dX11_tries_114 (Nat.le_of_ble_eq_true rfl) ?_
              show Ev _ _ _ _ _ [(4, .int (zN ((trS (H.1 2) (H.1 0 21) (H.1 0 22) s how k + (((rnF (H.1 2) (H.1 0 21) (bgn (H.1 2) Z0 (H.1 0 22) ((s + (k : Int)).bmod 4294967296)) 99) 38)))))), (0, .ref 0), (1, .int (zN (s))), (2, .int (zN (m))), (3, .int (zN (how))), (5, .int (zN ((k : Int))))] _ _
              refine z_iinc (pc := 116) dX11_tries_116 (List.Mem.tail _ (List.Mem.tail _ (List.Mem.tail _ (List.Mem.tail _ (List.Mem.tail _ (List.Mem.head _)))))) (Nat.le_of_ble_eq_true rfl) ?_
              show Ev _ _ _ _ _ [(5, .int (zN ((k : Int) + 1))), (4, .int (zN ((trS (H.1 2) (H.1 0 21) (H.1 0 22) s how k + (((rnF (H.1 2) (H.1 0 21) (bgn (H.1 2) Z0 (H.1 0 22) ((s + (k : Int)).bmod 4294967296)) 99) 38)))))), (0, .ref 0), (1, .int (zN (s))), (2, .int (zN (m))), (3, .int (zN (how)))] _ _
              refine x_goto (pc := 119) (tgt := 49) dX11_tries_119 (by decide) ?_
              refine x_weaken (L1 := [(0, .ref 0), (1, .int (zN (s))), (2, .int (zN (m))), (3, .int (zN (how))), (4, .int (zN (trS (H.1 2) (H.1 0 21) (H.1 0 22) s how (k + 1)))), (5, .int (zN ((((k + 1) : Nat) : Int))))]) (List.forall_mem_cons.mpr ⟨(List.Mem.tail _ (List.Mem.tail _ (List.Mem.head _))), (List.forall_mem_cons.mpr ⟨(List.Mem.tail _ (List.Mem.tail _ (List.Mem.tail _ (List.Mem.head _)))), (List.forall_mem_cons.mpr ⟨(List.Mem.tail _ (List.Mem.tail _ (List.Mem.tail _ (List.Mem.tail _ (List.Mem.head _))))), (List.forall_mem_cons.mpr ⟨(List.Mem.tail _ (List.Mem.tail _ (List.Mem.tail _ (List.Mem.tail _ (List.Mem.tail _ (List.Mem.head _)))))), (List.forall_mem_cons.mpr ⟨(mem_ci (by show trS (H.1 2) (H.1 0 21) (H.1 0 22) s how k + trV (rnF (H.1 2) (H.1 0 21) (bgn (H.1 2) Z0 (H.1 0 22) ((s + (k : Int)).bmod 4294967296)) 99) how = _; unfold trV; first | (rw [if_pos (by omega)]; done) | (rw [if_neg (by omega), if_pos (by omega)]; done) | (rw [if_neg (by omega), if_neg (by omega), if_pos (by omega)]; done) | (rw [if_neg (by omega), if_neg (by omega), if_neg (by omega)]; done)) (List.Mem.tail _ (List.Mem.head _))), (List.forall_mem_cons.mpr ⟨(mem_ci (by omega) (List.Mem.head _)), (fun _ h => absurd h List.not_mem_nil)⟩)⟩)⟩)⟩)⟩)⟩) ?_
              exact ih49 ((k + 1)) H3 ok13 (by first | assumption | omega) (hsb2) (fr3) (fun j hj => by rw [e6, rnF_hi ws1 ws0 hb0 99 hj, bgn_hi hj ws1]) (by omega)
      refine x_weaken (L1 := [(0, .ref 0), (1, .int (zN (s))), (2, .int (zN (m))), (3, .int (zN (how))), (4, .int (zN (trS (H.1 2) (H.1 0 21) (H.1 0 22) s how 0))), (5, .int (zN (((0 : Nat) : Int))))]) (List.forall_mem_cons.mpr ⟨(List.Mem.tail _ (List.Mem.tail _ (List.Mem.head _))), (List.forall_mem_cons.mpr ⟨(List.Mem.tail _ (List.Mem.tail _ (List.Mem.tail _ (List.Mem.head _)))), (List.forall_mem_cons.mpr ⟨(List.Mem.tail _ (List.Mem.tail _ (List.Mem.tail _ (List.Mem.tail _ (List.Mem.head _))))), (List.forall_mem_cons.mpr ⟨(List.Mem.tail _ (List.Mem.tail _ (List.Mem.tail _ (List.Mem.tail _ (List.Mem.tail _ (List.Mem.head _)))))), (List.forall_mem_cons.mpr ⟨(mem_ci (rfl) (List.Mem.tail _ (List.Mem.head _))), (List.forall_mem_cons.mpr ⟨(mem_ci (by omega) (List.Mem.head _)), (fun _ h => absurd h List.not_mem_nil)⟩)⟩)⟩)⟩)⟩)⟩) ?_
      exact lp49 (m.toNat - 0 + 1) (0) H ok7 (by first | assumption | omega) (⟨Int.le_refl _, Int.le_refl _⟩) (⟨rfl, fun _ _ _ => rfl⟩) (h42) (Nat.lt_succ_self _)
    · skip
      refine z_if_ne (pc := 33) (tgt := 43) dX11_tries_33 (by decide) (by decide) (by decide) (fun h => absurd h (by decide)) (fun _ => ?_)
      refine x_aload_n (pc := 36) dX11_tries_36 (List.Mem.head _) ?_
      refine z_bipush (pc := 37) dX11_tries_37 bp_m3 ?_
      refine z_callVip (pc := 39) (i := mX11_no) (S := []) [.int (zN ((-3)))] dX11_tries_39 ml_X11_89 ok_X11_no rfl sh_0 rfl (Or.inl rfl) (Nat.le_of_ble_eq_true rfl) (c_X11_no (d := d + 5) (code := ((-3))) (code1 := (by omega)) (code2 := (by omega)) (ok := ok7) (cn := (by first | assumption | omega))) (fun r19a r19b ok20 => ?_)
      show Ev _ _ _ _ _ _ _ (eh (wI H 1 ((refIx ((-3)))) (H.1 1 (refIx ((-3))) + 1)))
      refine z_ireturn (pc := 42) dX11_tries_42 rfl (Or.inl rfl) ok20 (by omega) (by omega) ?_
      exact Or.inr (Or.inr ⟨by omega, by omega, rfl, rfl⟩)
  · skip
    refine z_if_ne (pc := 14) (tgt := 24) dX11_tries_14 (by decide) (by decide) (by decide) (fun h => absurd h (by decide)) (fun _ => ?_)
    refine x_aload_n (pc := 17) dX11_tries_17 (List.Mem.head _) ?_
    refine z_bipush (pc := 18) dX11_tries_18 bp_m2 ?_
    refine z_callVip (pc := 20) (i := mX11_no) (S := []) [.int (zN ((-2)))] dX11_tries_20 ml_X11_89 ok_X11_no rfl sh_0 rfl (Or.inl rfl) (Nat.le_of_ble_eq_true rfl) (c_X11_no (d := d + 5) (code := ((-2))) (code1 := (by omega)) (code2 := (by omega)) (ok := ok3) (cn := (by first | assumption | omega))) (fun r22a r22b ok23 => ?_)
    show Ev _ _ _ _ _ _ _ (eh (wI H 1 ((refIx ((-2)))) (H.1 1 (refIx ((-2))) + 1)))
    refine z_ireturn (pc := 23) dX11_tries_23 rfl (Or.inl rfl) ok23 (by omega) (by omega) ?_
    exact Or.inr (Or.inl ⟨by omega, rfl, rfl⟩)

theorem c_X11_margin {d : Nat} {H : ZH} (ok : okZ H) {sd : Int} (sd1 : -2147483648 ≤ sd) (sd2 : sd ≤ 2147483647) (th : H.1 0 0 = 0) (ws : WFS (H.1 2)) (wl : WFL (H.1 2)) (h42 : ∀ j, 42 ≤ j → H.1 6 j = 0) : EvC zX (d + 6) mX11_margin [.ref 0, .int (zN (sd))] (eh H) (zPi (fun (r : Int) (H1 : ZH) => r = (mrF (H.1 2) (H.1 0 21) (bgn (H.1 2) Z0 (H.1 0 22) sd) 99) ∧ FrR H H1 ∧ ∀ j, 42 ≤ j → H1.1 6 j = 0)) := by
  show _ ∧ Ev zX mX11_margin (EvC zX (d + 5)) (zPi (fun (r : Int) (H1 : ZH) => r = (mrF (H.1 2) (H.1 0 21) (bgn (H.1 2) Z0 (H.1 0 22) sd) 99) ∧ FrR H H1 ∧ ∀ j, 42 ≤ j → H1.1 6 j = 0)) 0 [(0, .ref 0), (1, .int (zN (sd)))] [] (eh H)
  refine ⟨Nat.le_of_ble_eq_true rfl, ?_⟩
  have wsx := ws
  obtain ⟨ws0, ws1, wsC, ws34, ws35, ws36, ws37, ws38, ws39⟩ := wsx
  have hb0 := bgn_rn (o := Z0) (wc := H.1 0 22) (sd := sd) ws
  refine x_aload_n (pc := 0) dX11_margin_0 (List.Mem.head _) ?_
  refine z_iconst (pc := 1) dX11_margin_1 ?_
  refine z_putI (pc := 2) (k := 0) dX11_margin_2 lp_X11_1 sh_0 rfl ?_
  have ok1 := okI ok 0 0 (v := 0) (by decide) (by decide)
  rw [wI_same th]
  refine x_aload_n (pc := 5) dX11_margin_5 (List.Mem.head _) ?_
  refine x_iload_n (pc := 6) dX11_margin_6 (List.Mem.tail _ (List.Mem.head _)) ?_
  refine z_callVv (pc := 7) (i := mX11_begins) (S := []) [.int (zN (sd))] dX11_margin_7 ml_X11_240 ok_X11_begins rfl sh_0 rfl rfl (Nat.le_of_ble_eq_true rfl) (c_X11_begins (d := d + 3) (sd := sd) (sd1 := (by omega)) (sd2 := (by omega)) (ok := ok) (ws := (by first | assumption | omega))) ?_
  intro H5 ok3 hp4
  subst hp4
  refine z_iconst (pc := 10) dX11_margin_10 ?_
  refine x_istore_n (pc := 11) dX11_margin_11 (Nat.le_of_ble_eq_true rfl) ?_
  show Ev _ _ _ _ _ [(2, .int (zN ((-1)))), (0, .ref 0), (1, .int (zN (sd)))] _ _
  have lp12 : ∀ (nF : Nat) (t : Nat) (Hm : ZH), okZ Hm → (t ≤ 99) → (FrR H Hm) → (Hm.1 6 = (rnF (H.1 2) (H.1 0 21) (bgn (H.1 2) Z0 (H.1 0 22) sd) t)) → 99 - t < nF → Ev zX mX11_margin (EvC zX (d + 5)) (zPi (fun (r : Int) (H1 : ZH) => r = (mrF (H.1 2) (H.1 0 21) (bgn (H.1 2) Z0 (H.1 0 22) sd) 99) ∧ FrR H H1 ∧ ∀ j, 42 ≤ j → H1.1 6 j = 0)) 12 [(0, .ref 0), (1, .int (zN (sd))), (2, .int (zN ((mrF (H.1 2) (H.1 0 21) (bgn (H.1 2) Z0 (H.1 0 22) sd) t))))] [] (eh Hm) := by
    intro nF
    induction nF with
    | zero => intro t Hm okl12 ht fr e6 hm; exact absurd hm (Nat.not_lt_zero _)
    | succ nF ih12 =>
      intro t Hm okl12 ht fr e6 hm
      have e2 := FrR_2 fr
      have e21 : Hm.1 0 21 = H.1 0 21 := fr.2 0 21 (by omega)
      obtain ⟨r1, r2, r3, r4, r5⟩ := rnF_ok (wo := H.1 0 21) ws1 ws0 hb0 t
      have r37 := r1.2.2.2.2.2.2.1
      have r36 := r1.2.2.2.2.2.1
      have mb := mrF_bd (wo := H.1 0 21) ws1 ws0 hb0 t
      refine x_aload_n (pc := 12) dX11_margin_12 (List.Mem.head _) ?_
      refine z_getR (pc := 13) (k := 18) (r := 6) dX11_margin_13 lf_X11_33 sh_0 rfl rf_0_18 ?_
      refine z_bipush (pc := 16) dX11_margin_16 bp_37 ?_
      refine z_iald (pc := 18) (j := 37) (v := ((rnF (H.1 2) (H.1 0 21) (bgn (H.1 2) Z0 (H.1 0 22) sd) t) 37)) dX11_margin_18 sh_6 rfl (Nat.le_of_ble_eq_true rfl) (by decide) (congrFun e6 37) ?_
      refine z_if_ne (pc := 19) (tgt := 119) dX11_margin_19 (by decide) (by omega) (by omega) (fun hb6 => ?_) (fun hb6 => ?_)
      · skip
        have hst : (mrF (H.1 2) (H.1 0 21) (bgn (H.1 2) Z0 (H.1 0 22) sd) 99) = (mrF (H.1 2) (H.1 0 21) (bgn (H.1 2) Z0 (H.1 0 22) sd) t) := by rw [show 99 = t + (99 - t) by omega]; exact mrF_st hb6 _
        refine x_iload_n (pc := 119) dX11_margin_119 (List.Mem.tail _ (List.Mem.tail _ (List.Mem.head _))) ?_
        refine z_ireturn (pc := 120) dX11_margin_120 rfl (Or.inl rfl) okl12 (by omega) (by omega) ?_
        exact ⟨hst.symm, fr, fun j hj => by rw [e6, rnF_hi ws1 ws0 hb0 t hj, bgn_hi hj ws1]⟩
      · skip
        refine x_aload_n (pc := 22) dX11_margin_22 (List.Mem.head _) ?_
        refine z_iconst (pc := 23) dX11_margin_23 ?_
        refine z_callVi (pc := 24) (i := mX11_decides) (S := []) [.int (zN (1))] dX11_margin_24 ml_X11_268 ok_X11_decides rfl sh_0 rfl (Or.inl rfl) (Nat.le_of_ble_eq_true rfl) (c_X11_decides_1 (d := d) (ok := okl12) (ws := (show WFS (Hm.1 2) by rw [e2]; exact ws)) (wn := (show WFN (Hm.1 2) (Hm.1 6) by rw [e2, e6]; exact r1)) (wl := (show WFL (Hm.1 2) by rw [e2]; exact wl)) (wx := (show WFX (Hm.1 2) (Hm.1 6) by rw [e2, e6]; exact r2)) (e41 := (show Hm.1 6 41 = 0 by rw [e6]; exact r3))) ?_
        intro r7 H10 r7a r7b ok8 hp9
        obtain ⟨er, f, ef⟩ := hp9
        have er0 : r7 = -1 := er
        rw [e2, e21, e6] at ef
        subst ef
        have z37 : (rnF (H.1 2) (H.1 0 21) (bgn (H.1 2) Z0 (H.1 0 22) sd) t) 37 = 0 := by omega
        obtain ⟨d1, d2, d3, d4⟩ := drws_ok (wo := (H.1 0 21)) ws1.2 r1 r2 r3 (H.1 2 1).toNat (by omega)
        refine x_pop (pc := 27) dX11_margin_27 rfl ?_
        refine x_aload_n (pc := 28) dX11_margin_28 (List.Mem.head _) ?_
        refine z_callVv (pc := 29) (i := mX11_ticks) (S := []) [] dX11_margin_29 ml_X11_272 ok_X11_ticks rfl sh_0 rfl rfl (Nat.le_of_ble_eq_true rfl) (c_X11_ticks (d := d + 1) (ok := ok8) (ws := (show WFS (Hm.1 2) by rw [e2]; exact ws)) (wn := (show WFN (Hm.1 2) (drws (H.1 2) (H.1 0 21) (H.1 2 1).toNat (rnF (H.1 2) (H.1 0 21) (bgn (H.1 2) Z0 (H.1 0 22) sd) t)) by rw [e2]; exact d2)) (wx := (show WFX (Hm.1 2) (drws (H.1 2) (H.1 0 21) (H.1 2 1).toNat (rnF (H.1 2) (H.1 0 21) (bgn (H.1 2) Z0 (H.1 0 22) sd) t)) by rw [e2]; exact d3)) (he := (show (drws (H.1 2) (H.1 0 21) (H.1 2 1).toNat (rnF (H.1 2) (H.1 0 21) (bgn (H.1 2) Z0 (H.1 0 22) sd) t)) 37 = 0 by rw [d4 37 (by omega) (by omega)]; exact z37))) ?_
        intro H3 ok12 hp13
        obtain ⟨fr2, e62⟩ := hp13
        have fr3 : FrR H H3 := FrR_C (FrR_68 fr) fr2
        have e62b : H3.1 6 = tickF (Hm.1 2) (drws (H.1 2) (H.1 0 21) (H.1 2 1).toNat (rnF (H.1 2) (H.1 0 21) (bgn (H.1 2) Z0 (H.1 0 22) sd) t)) := e62
        have e63 : H3.1 6 = (rnF (H.1 2) (H.1 0 21) (bgn (H.1 2) Z0 (H.1 0 22) sd) (t + 1)) := by
          rw [e62b, e2]
          exact (if_pos z37).symm
        have ht3 : t + 1 ≤ 99 := by have := r2.2.2.2.2.2 z37; omega
        have k1 := rnF_ok (wo := H.1 0 21) ws1 ws0 hb0 (t + 1)
        have k33 := k1.1.2.2.1
        have k32 := k1.1.2.1
        have e23 := FrR_2 fr3
        refine z_iconst (pc := 32) dX11_margin_32 ?_
        refine x_istore_n (pc := 33) dX11_margin_33 (Nat.le_of_ble_eq_true rfl) ?_
        show Ev _ _ _ _ _ [(3, .int (zN (0))), (0, .ref 0), (1, .int (zN (sd))), (2, .int (zN ((mrF (H.1 2) (H.1 0 21) (bgn (H.1 2) Z0 (H.1 0 22) sd) t))))] _ _
        have lp34 : ∀ (nF : Nat) (k : Nat), ((k : Int) ≤ H.1 2 1) → (H.1 2 1).toNat - k < nF → Ev zX mX11_margin (EvC zX (d + 5)) (zPi (fun (r : Int) (H1 : ZH) => r = (mrF (H.1 2) (H.1 0 21) (bgn (H.1 2) Z0 (H.1 0 22) sd) 99) ∧ FrR H H1 ∧ ∀ j, 42 ≤ j → H1.1 6 j = 0)) 34 [(0, .ref 0), (1, .int (zN (sd))), (2, .int (zN ((if (rnF (H.1 2) (H.1 0 21) (bgn (H.1 2) Z0 (H.1 0 22) sd) (t + 1)) 33 = 1 then (mnl (H.1 2) (rnF (H.1 2) (H.1 0 21) (bgn (H.1 2) Z0 (H.1 0 22) sd) (t + 1)) (mrF (H.1 2) (H.1 0 21) (bgn (H.1 2) Z0 (H.1 0 22) sd) t) k) else (mrF (H.1 2) (H.1 0 21) (bgn (H.1 2) Z0 (H.1 0 22) sd) t))))), (3, .int (zN ((k : Int))))] [] (eh H3) := by
          intro nF
          induction nF with
          | zero => intro k hk hm; exact absurd hm (Nat.not_lt_zero _)
          | succ nF ih34 =>
            intro k hk hm
            have mlb := mnl_bd (v := (mrF (H.1 2) (H.1 0 21) (bgn (H.1 2) Z0 (H.1 0 22) sd) t)) (fun c hc => (k1.1.1 c hc).1.2) mb k hk
            refine x_iload_n (pc := 34) dX11_margin_34 (List.Mem.tail _ (List.Mem.tail _ (List.Mem.tail _ (List.Mem.head _)))) ?_
            refine x_aload_n (pc := 35) dX11_margin_35 (List.Mem.head _) ?_
            refine z_getR (pc := 36) (k := 2) (r := 2) dX11_margin_36 lf_X11_17 sh_0 rfl rf_0_2 ?_
            refine z_iconst (pc := 39) dX11_margin_39 ?_
            refine z_iald (pc := 40) (j := 1) (v := (H.1 2 1)) dX11_margin_40 sh_2 rfl (Nat.le_of_ble_eq_true rfl) (by decide) (congrFun e23 1) ?_
            refine z_icmp_ge (pc := 41) (tgt := 116) dX11_margin_41 (by decide) (by omega) (by omega) (by omega) (by omega) (fun hb14 => ?_) (fun hb14 => ?_)
            · skip
              have hn : (mrF (H.1 2) (H.1 0 21) (bgn (H.1 2) Z0 (H.1 0 22) sd) (t + 1)) = (if (rnF (H.1 2) (H.1 0 21) (bgn (H.1 2) Z0 (H.1 0 22) sd) (t + 1)) 33 = 1 then (mnl (H.1 2) (rnF (H.1 2) (H.1 0 21) (bgn (H.1 2) Z0 (H.1 0 22) sd) (t + 1)) (mrF (H.1 2) (H.1 0 21) (bgn (H.1 2) Z0 (H.1 0 22) sd) t) k) else (mrF (H.1 2) (H.1 0 21) (bgn (H.1 2) Z0 (H.1 0 22) sd) t)) := by
                show (if (rnF (H.1 2) (H.1 0 21) (bgn (H.1 2) Z0 (H.1 0 22) sd) t) 37 = 0 ∧ (rnF (H.1 2) (H.1 0 21) (bgn (H.1 2) Z0 (H.1 0 22) sd) (t + 1)) 33 = 1 then mnl (H.1 2) (rnF (H.1 2) (H.1 0 21) (bgn (H.1 2) Z0 (H.1 0 22) sd) (t + 1)) (mrF (H.1 2) (H.1 0 21) (bgn (H.1 2) Z0 (H.1 0 22) sd) t) (H.1 2 1).toNat else (mrF (H.1 2) (H.1 0 21) (bgn (H.1 2) Z0 (H.1 0 22) sd) t)) = _
                by_cases q : (rnF (H.1 2) (H.1 0 21) (bgn (H.1 2) Z0 (H.1 0 22) sd) (t + 1)) 33 = 1
                · rw [if_pos ⟨z37, q⟩, if_pos q, show (H.1 2 1).toNat = k by omega]
                · rw [if_neg (fun z => q z.2), if_neg q]
              refine x_goto (pc := 116) (tgt := 12) dX11_margin_116 (by decide) ?_
              refine x_weaken (L1 := [(0, .ref 0), (1, .int (zN (sd))), (2, .int (zN ((mrF (H.1 2) (H.1 0 21) (bgn (H.1 2) Z0 (H.1 0 22) sd) (t + 1)))))]) (List.forall_mem_cons.mpr ⟨(List.Mem.head _), (List.forall_mem_cons.mpr ⟨(List.Mem.tail _ (List.Mem.head _)), (List.forall_mem_cons.mpr ⟨(mem_ci (by first | exact hn | (rw [hn]; rfl)) (List.Mem.tail _ (List.Mem.tail _ (List.Mem.head _)))), (fun _ h => absurd h List.not_mem_nil)⟩)⟩)⟩) ?_
              exact ih12 ((t + 1)) H3 ok12 (ht3) (fr3) (e63) (by omega)
            · skip
              have hif : ((rnF (H.1 2) (H.1 0 21) (bgn (H.1 2) Z0 (H.1 0 22) sd) (t + 1)) 33 = 1 ∧ (if (rnF (H.1 2) (H.1 0 21) (bgn (H.1 2) Z0 (H.1 0 22) sd) (t + 1)) 33 = 1 then (mnl (H.1 2) (rnF (H.1 2) (H.1 0 21) (bgn (H.1 2) Z0 (H.1 0 22) sd) (t + 1)) (mrF (H.1 2) (H.1 0 21) (bgn (H.1 2) Z0 (H.1 0 22) sd) t) k) else (mrF (H.1 2) (H.1 0 21) (bgn (H.1 2) Z0 (H.1 0 22) sd) t)) = (mnl (H.1 2) (rnF (H.1 2) (H.1 0 21) (bgn (H.1 2) Z0 (H.1 0 22) sd) (t + 1)) (mrF (H.1 2) (H.1 0 21) (bgn (H.1 2) Z0 (H.1 0 22) sd) t) k)) ∨ (¬ (rnF (H.1 2) (H.1 0 21) (bgn (H.1 2) Z0 (H.1 0 22) sd) (t + 1)) 33 = 1 ∧ (if (rnF (H.1 2) (H.1 0 21) (bgn (H.1 2) Z0 (H.1 0 22) sd) (t + 1)) 33 = 1 then (mnl (H.1 2) (rnF (H.1 2) (H.1 0 21) (bgn (H.1 2) Z0 (H.1 0 22) sd) (t + 1)) (mrF (H.1 2) (H.1 0 21) (bgn (H.1 2) Z0 (H.1 0 22) sd) t) k) else (mrF (H.1 2) (H.1 0 21) (bgn (H.1 2) Z0 (H.1 0 22) sd) t)) = (mrF (H.1 2) (H.1 0 21) (bgn (H.1 2) Z0 (H.1 0 22) sd) t)) := by
                by_cases q : (rnF (H.1 2) (H.1 0 21) (bgn (H.1 2) Z0 (H.1 0 22) sd) (t + 1)) 33 = 1
                · exact Or.inl ⟨q, if_pos q⟩
                · exact Or.inr ⟨q, if_neg q⟩
              refine x_aload_n (pc := 44) dX11_margin_44 (List.Mem.head _) ?_
              refine z_getR (pc := 45) (k := 18) (r := 6) dX11_margin_45 lf_X11_33 sh_0 rfl rf_0_18 ?_
              refine z_bipush (pc := 48) dX11_margin_48 bp_33 ?_
              refine z_iald (pc := 50) (j := 33) (v := ((rnF (H.1 2) (H.1 0 21) (bgn (H.1 2) Z0 (H.1 0 22) sd) (t + 1)) 33)) dX11_margin_50 sh_6 rfl (Nat.le_of_ble_eq_true rfl) (by decide) (congrFun e63 33) ?_
              refine z_iconst (pc := 51) dX11_margin_51 ?_
              refine z_icmp_ne (pc := 52) (tgt := 116) dX11_margin_52 (by decide) (by omega) (by omega) (by decide) (by decide) (fun hb15 => ?_) (fun hb15 => ?_)
              · skip
                have hn : (mrF (H.1 2) (H.1 0 21) (bgn (H.1 2) Z0 (H.1 0 22) sd) (t + 1)) = (if (rnF (H.1 2) (H.1 0 21) (bgn (H.1 2) Z0 (H.1 0 22) sd) (t + 1)) 33 = 1 then (mnl (H.1 2) (rnF (H.1 2) (H.1 0 21) (bgn (H.1 2) Z0 (H.1 0 22) sd) (t + 1)) (mrF (H.1 2) (H.1 0 21) (bgn (H.1 2) Z0 (H.1 0 22) sd) t) k) else (mrF (H.1 2) (H.1 0 21) (bgn (H.1 2) Z0 (H.1 0 22) sd) t)) := by
                  show (if (rnF (H.1 2) (H.1 0 21) (bgn (H.1 2) Z0 (H.1 0 22) sd) t) 37 = 0 ∧ (rnF (H.1 2) (H.1 0 21) (bgn (H.1 2) Z0 (H.1 0 22) sd) (t + 1)) 33 = 1 then mnl (H.1 2) (rnF (H.1 2) (H.1 0 21) (bgn (H.1 2) Z0 (H.1 0 22) sd) (t + 1)) (mrF (H.1 2) (H.1 0 21) (bgn (H.1 2) Z0 (H.1 0 22) sd) t) (H.1 2 1).toNat else (mrF (H.1 2) (H.1 0 21) (bgn (H.1 2) Z0 (H.1 0 22) sd) t)) = _
                  by_cases q : (rnF (H.1 2) (H.1 0 21) (bgn (H.1 2) Z0 (H.1 0 22) sd) (t + 1)) 33 = 1
                  · rw [if_pos ⟨z37, q⟩, if_pos q, show (H.1 2 1).toNat = k by omega]
                  · rw [if_neg (fun z => q z.2), if_neg q]
                refine x_goto (pc := 116) (tgt := 12) dX11_margin_116 (by decide) ?_
                refine x_weaken (L1 := [(0, .ref 0), (1, .int (zN (sd))), (2, .int (zN ((mrF (H.1 2) (H.1 0 21) (bgn (H.1 2) Z0 (H.1 0 22) sd) (t + 1)))))]) (List.forall_mem_cons.mpr ⟨(List.Mem.head _), (List.forall_mem_cons.mpr ⟨(List.Mem.tail _ (List.Mem.head _)), (List.forall_mem_cons.mpr ⟨(mem_ci (by first | exact hn | (rw [hn]; rfl)) (List.Mem.tail _ (List.Mem.tail _ (List.Mem.head _)))), (fun _ h => absurd h List.not_mem_nil)⟩)⟩)⟩) ?_
                exact ih12 ((t + 1)) H3 ok12 (ht3) (fr3) (e63) (by omega)
              · skip
                have hI : (rnF (H.1 2) (H.1 0 21) (bgn (H.1 2) Z0 (H.1 0 22) sd) (t + 1)) 33 = 1 := by omega
                have eI : (if (rnF (H.1 2) (H.1 0 21) (bgn (H.1 2) Z0 (H.1 0 22) sd) (t + 1)) 33 = 1 then (mnl (H.1 2) (rnF (H.1 2) (H.1 0 21) (bgn (H.1 2) Z0 (H.1 0 22) sd) (t + 1)) (mrF (H.1 2) (H.1 0 21) (bgn (H.1 2) Z0 (H.1 0 22) sd) t) k) else (mrF (H.1 2) (H.1 0 21) (bgn (H.1 2) Z0 (H.1 0 22) sd) t)) = (mnl (H.1 2) (rnF (H.1 2) (H.1 0 21) (bgn (H.1 2) Z0 (H.1 0 22) sd) (t + 1)) (mrF (H.1 2) (H.1 0 21) (bgn (H.1 2) Z0 (H.1 0 22) sd) t) k) := if_pos hI
                have ck := (k1.1.1 k (by omega)).1
                have wck := wsC k (by omega)
                refine x_aload_n (pc := 55) dX11_margin_55 (List.Mem.head _) ?_
                refine z_getR (pc := 56) (k := 2) (r := 2) dX11_margin_56 lf_X11_17 sh_0 rfl rf_0_2 ?_
                refine z_iconst (pc := 59) dX11_margin_59 ?_
                refine x_iload_n (pc := 60) dX11_margin_60 (List.Mem.tail _ (List.Mem.tail _ (List.Mem.tail _ (List.Mem.head _)))) ?_
                refine z_iadd (pc := 61) dX11_margin_61 ?_
                refine z_iald (pc := 62) (j := 2 + k) (v := (H.1 2 (2 + k))) dX11_margin_62 sh_2 (by omega) (by omega) (by decide) (congrFun e23 _) ?_
                refine x_aload_n (pc := 63) dX11_margin_63 (List.Mem.head _) ?_
                refine z_getR (pc := 64) (k := 18) (r := 6) dX11_margin_64 lf_X11_33 sh_0 rfl rf_0_18 ?_
                refine z_bipush (pc := 67) dX11_margin_67 bp_32 ?_
                refine z_iald (pc := 69) (j := 32) (v := ((rnF (H.1 2) (H.1 0 21) (bgn (H.1 2) Z0 (H.1 0 22) sd) (t + 1)) 32)) dX11_margin_69 sh_6 rfl (Nat.le_of_ble_eq_true rfl) (by decide) (congrFun e63 32) ?_
                refine z_icmp_ne (pc := 70) (tgt := 110) dX11_margin_70 (by decide) (by omega) (by omega) (by omega) (by omega) (fun hb16 => ?_) (fun hb16 => ?_)
                · skip
                  refine z_iinc (pc := 110) dX11_margin_110 (List.Mem.tail _ (List.Mem.tail _ (List.Mem.tail _ (List.Mem.head _)))) (Nat.le_of_ble_eq_true rfl) ?_
                  show Ev _ _ _ _ _ [(3, .int (zN ((k : Int) + 1))), (0, .ref 0), (1, .int (zN (sd))), (2, .int (zN ((if (rnF (H.1 2) (H.1 0 21) (bgn (H.1 2) Z0 (H.1 0 22) sd) (t + 1)) 33 = 1 then (mnl (H.1 2) (rnF (H.1 2) (H.1 0 21) (bgn (H.1 2) Z0 (H.1 0 22) sd) (t + 1)) (mrF (H.1 2) (H.1 0 21) (bgn (H.1 2) Z0 (H.1 0 22) sd) t) k) else (mrF (H.1 2) (H.1 0 21) (bgn (H.1 2) Z0 (H.1 0 22) sd) t)))))] _ _
                  refine x_goto (pc := 113) (tgt := 34) dX11_margin_113 (by decide) ?_
                  refine x_weaken (L1 := [(0, .ref 0), (1, .int (zN (sd))), (2, .int (zN ((if (rnF (H.1 2) (H.1 0 21) (bgn (H.1 2) Z0 (H.1 0 22) sd) (t + 1)) 33 = 1 then (mnl (H.1 2) (rnF (H.1 2) (H.1 0 21) (bgn (H.1 2) Z0 (H.1 0 22) sd) (t + 1)) (mrF (H.1 2) (H.1 0 21) (bgn (H.1 2) Z0 (H.1 0 22) sd) t) (k + 1)) else (mrF (H.1 2) (H.1 0 21) (bgn (H.1 2) Z0 (H.1 0 22) sd) t))))), (3, .int (zN ((((k + 1) : Nat) : Int))))]) (List.forall_mem_cons.mpr ⟨(List.Mem.tail _ (List.Mem.head _)), (List.forall_mem_cons.mpr ⟨(List.Mem.tail _ (List.Mem.tail _ (List.Mem.head _))), (List.forall_mem_cons.mpr ⟨(mem_ci ((if_pos hI).trans (by show (if H.1 2 (2 + k) = (rnF (H.1 2) (H.1 0 21) (bgn (H.1 2) Z0 (H.1 0 22) sd) (t + 1)) 32 ∧ 0 < (rnF (H.1 2) (H.1 0 21) (bgn (H.1 2) Z0 (H.1 0 22) sd) (t + 1)) k ∧ ((mnl (H.1 2) (rnF (H.1 2) (H.1 0 21) (bgn (H.1 2) Z0 (H.1 0 22) sd) (t + 1)) (mrF (H.1 2) (H.1 0 21) (bgn (H.1 2) Z0 (H.1 0 22) sd) t) k) = -1 ∨ (rnF (H.1 2) (H.1 0 21) (bgn (H.1 2) Z0 (H.1 0 22) sd) (t + 1)) k < (mnl (H.1 2) (rnF (H.1 2) (H.1 0 21) (bgn (H.1 2) Z0 (H.1 0 22) sd) (t + 1)) (mrF (H.1 2) (H.1 0 21) (bgn (H.1 2) Z0 (H.1 0 22) sd) t) k)) then (rnF (H.1 2) (H.1 0 21) (bgn (H.1 2) Z0 (H.1 0 22) sd) (t + 1)) k else (mnl (H.1 2) (rnF (H.1 2) (H.1 0 21) (bgn (H.1 2) Z0 (H.1 0 22) sd) (t + 1)) (mrF (H.1 2) (H.1 0 21) (bgn (H.1 2) Z0 (H.1 0 22) sd) t) k)) = _; first | (rw [if_pos (by omega)]; done) | (rw [if_neg (by omega), eI]; done))) (List.Mem.tail _ (List.Mem.tail _ (List.Mem.tail _ (List.Mem.head _))))), (List.forall_mem_cons.mpr ⟨(mem_ci (by omega) (List.Mem.head _)), (fun _ h => absurd h List.not_mem_nil)⟩)⟩)⟩)⟩) ?_
                  exact ih34 ((k + 1)) (by first | assumption | omega) (by omega)
                · skip
                  refine x_aload_n (pc := 73) dX11_margin_73 (List.Mem.head _) ?_
                  refine z_getR (pc := 74) (k := 18) (r := 6) dX11_margin_74 lf_X11_33 sh_0 rfl rf_0_18 ?_
                  refine z_iconst (pc := 77) dX11_margin_77 ?_
                  refine x_iload_n (pc := 78) dX11_margin_78 (List.Mem.tail _ (List.Mem.tail _ (List.Mem.tail _ (List.Mem.head _)))) ?_
                  refine z_iadd (pc := 79) dX11_margin_79 ?_
                  refine z_iald (pc := 80) (j := k) (v := ((rnF (H.1 2) (H.1 0 21) (bgn (H.1 2) Z0 (H.1 0 22) sd) (t + 1)) k)) dX11_margin_80 sh_6 (by omega) (by omega) (by decide) (congrFun e63 k) ?_
                  refine z_if_le (pc := 81) (tgt := 110) dX11_margin_81 (by decide) (by omega) (by omega) (fun hb17 => ?_) (fun hb17 => ?_)
                  · skip
                    refine z_iinc (pc := 110) dX11_margin_110 (List.Mem.tail _ (List.Mem.tail _ (List.Mem.tail _ (List.Mem.head _)))) (Nat.le_of_ble_eq_true rfl) ?_
                    show Ev _ _ _ _ _ [(3, .int (zN ((k : Int) + 1))), (0, .ref 0), (1, .int (zN (sd))), (2, .int (zN ((if (rnF (H.1 2) (H.1 0 21) (bgn (H.1 2) Z0 (H.1 0 22) sd) (t + 1)) 33 = 1 then (mnl (H.1 2) (rnF (H.1 2) (H.1 0 21) (bgn (H.1 2) Z0 (H.1 0 22) sd) (t + 1)) (mrF (H.1 2) (H.1 0 21) (bgn (H.1 2) Z0 (H.1 0 22) sd) t) k) else (mrF (H.1 2) (H.1 0 21) (bgn (H.1 2) Z0 (H.1 0 22) sd) t)))))] _ _
                    refine x_goto (pc := 113) (tgt := 34) dX11_margin_113 (by decide) ?_
                    refine x_weaken (L1 := [(0, .ref 0), (1, .int (zN (sd))), (2, .int (zN ((if (rnF (H.1 2) (H.1 0 21) (bgn (H.1 2) Z0 (H.1 0 22) sd) (t + 1)) 33 = 1 then (mnl (H.1 2) (rnF (H.1 2) (H.1 0 21) (bgn (H.1 2) Z0 (H.1 0 22) sd) (t + 1)) (mrF (H.1 2) (H.1 0 21) (bgn (H.1 2) Z0 (H.1 0 22) sd) t) (k + 1)) else (mrF (H.1 2) (H.1 0 21) (bgn (H.1 2) Z0 (H.1 0 22) sd) t))))), (3, .int (zN ((((k + 1) : Nat) : Int))))]) (List.forall_mem_cons.mpr ⟨(List.Mem.tail _ (List.Mem.head _)), (List.forall_mem_cons.mpr ⟨(List.Mem.tail _ (List.Mem.tail _ (List.Mem.head _))), (List.forall_mem_cons.mpr ⟨(mem_ci ((if_pos hI).trans (by show (if H.1 2 (2 + k) = (rnF (H.1 2) (H.1 0 21) (bgn (H.1 2) Z0 (H.1 0 22) sd) (t + 1)) 32 ∧ 0 < (rnF (H.1 2) (H.1 0 21) (bgn (H.1 2) Z0 (H.1 0 22) sd) (t + 1)) k ∧ ((mnl (H.1 2) (rnF (H.1 2) (H.1 0 21) (bgn (H.1 2) Z0 (H.1 0 22) sd) (t + 1)) (mrF (H.1 2) (H.1 0 21) (bgn (H.1 2) Z0 (H.1 0 22) sd) t) k) = -1 ∨ (rnF (H.1 2) (H.1 0 21) (bgn (H.1 2) Z0 (H.1 0 22) sd) (t + 1)) k < (mnl (H.1 2) (rnF (H.1 2) (H.1 0 21) (bgn (H.1 2) Z0 (H.1 0 22) sd) (t + 1)) (mrF (H.1 2) (H.1 0 21) (bgn (H.1 2) Z0 (H.1 0 22) sd) t) k)) then (rnF (H.1 2) (H.1 0 21) (bgn (H.1 2) Z0 (H.1 0 22) sd) (t + 1)) k else (mnl (H.1 2) (rnF (H.1 2) (H.1 0 21) (bgn (H.1 2) Z0 (H.1 0 22) sd) (t + 1)) (mrF (H.1 2) (H.1 0 21) (bgn (H.1 2) Z0 (H.1 0 22) sd) t) k)) = _; first | (rw [if_pos (by omega)]; done) | (rw [if_neg (by omega), eI]; done))) (List.Mem.tail _ (List.Mem.tail _ (List.Mem.tail _ (List.Mem.head _))))), (List.forall_mem_cons.mpr ⟨(mem_ci (by omega) (List.Mem.head _)), (fun _ h => absurd h List.not_mem_nil)⟩)⟩)⟩)⟩) ?_
                    exact ih34 ((k + 1)) (by first | assumption | omega) (by omega)
                  · skip
                    refine x_iload_n (pc := 84) dX11_margin_84 (List.Mem.tail _ (List.Mem.tail _ (List.Mem.head _))) ?_
                    refine z_iconst (pc := 85) dX11_margin_85 ?_
                    refine z_icmp_eq (pc := 86) (tgt := 101) dX11_margin_86 (by decide) (by omega) (by omega) (by decide) (by decide) (fun hb18 => ?_) (fun hb18 => ?_)
                    · skip
                      refine x_aload_n (pc := 101) dX11_margin_101 (List.Mem.head _) ?_
                      refine z_getR (pc := 102) (k := 18) (r := 6) dX11_margin_102 lf_X11_33 sh_0 rfl rf_0_18 ?_
                      refine z_iconst (pc := 105) dX11_margin_105 ?_
                      refine x_iload_n (pc := 106) dX11_margin_106 (List.Mem.tail _ (List.Mem.tail _ (List.Mem.tail _ (List.Mem.head _)))) ?_
                      refine z_iadd (pc := 107) dX11_margin_107 ?_
                      refine z_iald (pc := 108) (j := k) (v := ((rnF (H.1 2) (H.1 0 21) (bgn (H.1 2) Z0 (H.1 0 22) sd) (t + 1)) k)) dX11_margin_108 sh_6 (by omega) (by omega) (by decide) (congrFun e63 k) ?_
                      refine x_istore_n (pc := 109) dX11_margin_109 (Nat.le_of_ble_eq_true rfl) ?_
                      show Ev _ _ _ _ _ [(2, .int (zN ((((rnF (H.1 2) (H.1 0 21) (bgn (H.1 2) Z0 (H.1 0 22) sd) (t + 1)) k))))), (0, .ref 0), (1, .int (zN (sd))), (3, .int (zN ((k : Int))))] _ _
                      refine z_iinc (pc := 110) dX11_margin_110 (List.Mem.tail _ (List.Mem.tail _ (List.Mem.tail _ (List.Mem.head _)))) (Nat.le_of_ble_eq_true rfl) ?_
                      show Ev _ _ _ _ _ [(3, .int (zN ((k : Int) + 1))), (2, .int (zN ((((rnF (H.1 2) (H.1 0 21) (bgn (H.1 2) Z0 (H.1 0 22) sd) (t + 1)) k))))), (0, .ref 0), (1, .int (zN (sd)))] _ _
                      refine x_goto (pc := 113) (tgt := 34) dX11_margin_113 (by decide) ?_
                      refine x_weaken (L1 := [(0, .ref 0), (1, .int (zN (sd))), (2, .int (zN ((if (rnF (H.1 2) (H.1 0 21) (bgn (H.1 2) Z0 (H.1 0 22) sd) (t + 1)) 33 = 1 then (mnl (H.1 2) (rnF (H.1 2) (H.1 0 21) (bgn (H.1 2) Z0 (H.1 0 22) sd) (t + 1)) (mrF (H.1 2) (H.1 0 21) (bgn (H.1 2) Z0 (H.1 0 22) sd) t) (k + 1)) else (mrF (H.1 2) (H.1 0 21) (bgn (H.1 2) Z0 (H.1 0 22) sd) t))))), (3, .int (zN ((((k + 1) : Nat) : Int))))]) (List.forall_mem_cons.mpr ⟨(List.Mem.tail _ (List.Mem.tail _ (List.Mem.head _))), (List.forall_mem_cons.mpr ⟨(List.Mem.tail _ (List.Mem.tail _ (List.Mem.tail _ (List.Mem.head _)))), (List.forall_mem_cons.mpr ⟨(mem_ci ((if_pos hI).trans (by show (if H.1 2 (2 + k) = (rnF (H.1 2) (H.1 0 21) (bgn (H.1 2) Z0 (H.1 0 22) sd) (t + 1)) 32 ∧ 0 < (rnF (H.1 2) (H.1 0 21) (bgn (H.1 2) Z0 (H.1 0 22) sd) (t + 1)) k ∧ ((mnl (H.1 2) (rnF (H.1 2) (H.1 0 21) (bgn (H.1 2) Z0 (H.1 0 22) sd) (t + 1)) (mrF (H.1 2) (H.1 0 21) (bgn (H.1 2) Z0 (H.1 0 22) sd) t) k) = -1 ∨ (rnF (H.1 2) (H.1 0 21) (bgn (H.1 2) Z0 (H.1 0 22) sd) (t + 1)) k < (mnl (H.1 2) (rnF (H.1 2) (H.1 0 21) (bgn (H.1 2) Z0 (H.1 0 22) sd) (t + 1)) (mrF (H.1 2) (H.1 0 21) (bgn (H.1 2) Z0 (H.1 0 22) sd) t) k)) then (rnF (H.1 2) (H.1 0 21) (bgn (H.1 2) Z0 (H.1 0 22) sd) (t + 1)) k else (mnl (H.1 2) (rnF (H.1 2) (H.1 0 21) (bgn (H.1 2) Z0 (H.1 0 22) sd) (t + 1)) (mrF (H.1 2) (H.1 0 21) (bgn (H.1 2) Z0 (H.1 0 22) sd) t) k)) = _; first | (rw [if_pos (by omega)]; done) | (rw [if_neg (by omega), eI]; done))) (List.Mem.tail _ (List.Mem.head _))), (List.forall_mem_cons.mpr ⟨(mem_ci (by omega) (List.Mem.head _)), (fun _ h => absurd h List.not_mem_nil)⟩)⟩)⟩)⟩) ?_
                      exact ih34 ((k + 1)) (by first | assumption | omega) (by omega)
                    · skip
                      refine x_aload_n (pc := 89) dX11_margin_89 (List.Mem.head _) ?_
                      refine z_getR (pc := 90) (k := 18) (r := 6) dX11_margin_90 lf_X11_33 sh_0 rfl rf_0_18 ?_
                      refine z_iconst (pc := 93) dX11_margin_93 ?_
                      refine x_iload_n (pc := 94) dX11_margin_94 (List.Mem.tail _ (List.Mem.tail _ (List.Mem.tail _ (List.Mem.head _)))) ?_
                      refine z_iadd (pc := 95) dX11_margin_95 ?_
                      refine z_iald (pc := 96) (j := k) (v := ((rnF (H.1 2) (H.1 0 21) (bgn (H.1 2) Z0 (H.1 0 22) sd) (t + 1)) k)) dX11_margin_96 sh_6 (by omega) (by omega) (by decide) (congrFun e63 k) ?_
                      refine x_iload_n (pc := 97) dX11_margin_97 (List.Mem.tail _ (List.Mem.tail _ (List.Mem.head _))) ?_
                      refine z_icmp_ge (pc := 98) (tgt := 110) dX11_margin_98 (by decide) (by omega) (by omega) (by omega) (by omega) (fun hb19 => ?_) (fun hb19 => ?_)
                      · skip
                        refine z_iinc (pc := 110) dX11_margin_110 (List.Mem.tail _ (List.Mem.tail _ (List.Mem.tail _ (List.Mem.head _)))) (Nat.le_of_ble_eq_true rfl) ?_
                        show Ev _ _ _ _ _ [(3, .int (zN ((k : Int) + 1))), (0, .ref 0), (1, .int (zN (sd))), (2, .int (zN ((if (rnF (H.1 2) (H.1 0 21) (bgn (H.1 2) Z0 (H.1 0 22) sd) (t + 1)) 33 = 1 then (mnl (H.1 2) (rnF (H.1 2) (H.1 0 21) (bgn (H.1 2) Z0 (H.1 0 22) sd) (t + 1)) (mrF (H.1 2) (H.1 0 21) (bgn (H.1 2) Z0 (H.1 0 22) sd) t) k) else (mrF (H.1 2) (H.1 0 21) (bgn (H.1 2) Z0 (H.1 0 22) sd) t)))))] _ _
                        refine x_goto (pc := 113) (tgt := 34) dX11_margin_113 (by decide) ?_
                        refine x_weaken (L1 := [(0, .ref 0), (1, .int (zN (sd))), (2, .int (zN ((if (rnF (H.1 2) (H.1 0 21) (bgn (H.1 2) Z0 (H.1 0 22) sd) (t + 1)) 33 = 1 then (mnl (H.1 2) (rnF (H.1 2) (H.1 0 21) (bgn (H.1 2) Z0 (H.1 0 22) sd) (t + 1)) (mrF (H.1 2) (H.1 0 21) (bgn (H.1 2) Z0 (H.1 0 22) sd) t) (k + 1)) else (mrF (H.1 2) (H.1 0 21) (bgn (H.1 2) Z0 (H.1 0 22) sd) t))))), (3, .int (zN ((((k + 1) : Nat) : Int))))]) (List.forall_mem_cons.mpr ⟨(List.Mem.tail _ (List.Mem.head _)), (List.forall_mem_cons.mpr ⟨(List.Mem.tail _ (List.Mem.tail _ (List.Mem.head _))), (List.forall_mem_cons.mpr ⟨(mem_ci ((if_pos hI).trans (by show (if H.1 2 (2 + k) = (rnF (H.1 2) (H.1 0 21) (bgn (H.1 2) Z0 (H.1 0 22) sd) (t + 1)) 32 ∧ 0 < (rnF (H.1 2) (H.1 0 21) (bgn (H.1 2) Z0 (H.1 0 22) sd) (t + 1)) k ∧ ((mnl (H.1 2) (rnF (H.1 2) (H.1 0 21) (bgn (H.1 2) Z0 (H.1 0 22) sd) (t + 1)) (mrF (H.1 2) (H.1 0 21) (bgn (H.1 2) Z0 (H.1 0 22) sd) t) k) = -1 ∨ (rnF (H.1 2) (H.1 0 21) (bgn (H.1 2) Z0 (H.1 0 22) sd) (t + 1)) k < (mnl (H.1 2) (rnF (H.1 2) (H.1 0 21) (bgn (H.1 2) Z0 (H.1 0 22) sd) (t + 1)) (mrF (H.1 2) (H.1 0 21) (bgn (H.1 2) Z0 (H.1 0 22) sd) t) k)) then (rnF (H.1 2) (H.1 0 21) (bgn (H.1 2) Z0 (H.1 0 22) sd) (t + 1)) k else (mnl (H.1 2) (rnF (H.1 2) (H.1 0 21) (bgn (H.1 2) Z0 (H.1 0 22) sd) (t + 1)) (mrF (H.1 2) (H.1 0 21) (bgn (H.1 2) Z0 (H.1 0 22) sd) t) k)) = _; first | (rw [if_pos (by omega)]; done) | (rw [if_neg (by omega), eI]; done))) (List.Mem.tail _ (List.Mem.tail _ (List.Mem.tail _ (List.Mem.head _))))), (List.forall_mem_cons.mpr ⟨(mem_ci (by omega) (List.Mem.head _)), (fun _ h => absurd h List.not_mem_nil)⟩)⟩)⟩)⟩) ?_
                        exact ih34 ((k + 1)) (by first | assumption | omega) (by omega)
                      · skip
                        refine x_aload_n (pc := 101) dX11_margin_101 (List.Mem.head _) ?_
                        refine z_getR (pc := 102) (k := 18) (r := 6) dX11_margin_102 lf_X11_33 sh_0 rfl rf_0_18 ?_
                        refine z_iconst (pc := 105) dX11_margin_105 ?_
                        refine x_iload_n (pc := 106) dX11_margin_106 (List.Mem.tail _ (List.Mem.tail _ (List.Mem.tail _ (List.Mem.head _)))) ?_
                        refine z_iadd (pc := 107) dX11_margin_107 ?_
                        refine z_iald (pc := 108) (j := k) (v := ((rnF (H.1 2) (H.1 0 21) (bgn (H.1 2) Z0 (H.1 0 22) sd) (t + 1)) k)) dX11_margin_108 sh_6 (by omega) (by omega) (by decide) (congrFun e63 k) ?_
                        refine x_istore_n (pc := 109) dX11_margin_109 (Nat.le_of_ble_eq_true rfl) ?_
                        show Ev _ _ _ _ _ [(2, .int (zN ((((rnF (H.1 2) (H.1 0 21) (bgn (H.1 2) Z0 (H.1 0 22) sd) (t + 1)) k))))), (0, .ref 0), (1, .int (zN (sd))), (3, .int (zN ((k : Int))))] _ _
                        refine z_iinc (pc := 110) dX11_margin_110 (List.Mem.tail _ (List.Mem.tail _ (List.Mem.tail _ (List.Mem.head _)))) (Nat.le_of_ble_eq_true rfl) ?_
                        show Ev _ _ _ _ _ [(3, .int (zN ((k : Int) + 1))), (2, .int (zN ((((rnF (H.1 2) (H.1 0 21) (bgn (H.1 2) Z0 (H.1 0 22) sd) (t + 1)) k))))), (0, .ref 0), (1, .int (zN (sd)))] _ _
                        refine x_goto (pc := 113) (tgt := 34) dX11_margin_113 (by decide) ?_
                        refine x_weaken (L1 := [(0, .ref 0), (1, .int (zN (sd))), (2, .int (zN ((if (rnF (H.1 2) (H.1 0 21) (bgn (H.1 2) Z0 (H.1 0 22) sd) (t + 1)) 33 = 1 then (mnl (H.1 2) (rnF (H.1 2) (H.1 0 21) (bgn (H.1 2) Z0 (H.1 0 22) sd) (t + 1)) (mrF (H.1 2) (H.1 0 21) (bgn (H.1 2) Z0 (H.1 0 22) sd) t) (k + 1)) else (mrF (H.1 2) (H.1 0 21) (bgn (H.1 2) Z0 (H.1 0 22) sd) t))))), (3, .int (zN ((((k + 1) : Nat) : Int))))]) (List.forall_mem_cons.mpr ⟨(List.Mem.tail _ (List.Mem.tail _ (List.Mem.head _))), (List.forall_mem_cons.mpr ⟨(List.Mem.tail _ (List.Mem.tail _ (List.Mem.tail _ (List.Mem.head _)))), (List.forall_mem_cons.mpr ⟨(mem_ci ((if_pos hI).trans (by show (if H.1 2 (2 + k) = (rnF (H.1 2) (H.1 0 21) (bgn (H.1 2) Z0 (H.1 0 22) sd) (t + 1)) 32 ∧ 0 < (rnF (H.1 2) (H.1 0 21) (bgn (H.1 2) Z0 (H.1 0 22) sd) (t + 1)) k ∧ ((mnl (H.1 2) (rnF (H.1 2) (H.1 0 21) (bgn (H.1 2) Z0 (H.1 0 22) sd) (t + 1)) (mrF (H.1 2) (H.1 0 21) (bgn (H.1 2) Z0 (H.1 0 22) sd) t) k) = -1 ∨ (rnF (H.1 2) (H.1 0 21) (bgn (H.1 2) Z0 (H.1 0 22) sd) (t + 1)) k < (mnl (H.1 2) (rnF (H.1 2) (H.1 0 21) (bgn (H.1 2) Z0 (H.1 0 22) sd) (t + 1)) (mrF (H.1 2) (H.1 0 21) (bgn (H.1 2) Z0 (H.1 0 22) sd) t) k)) then (rnF (H.1 2) (H.1 0 21) (bgn (H.1 2) Z0 (H.1 0 22) sd) (t + 1)) k else (mnl (H.1 2) (rnF (H.1 2) (H.1 0 21) (bgn (H.1 2) Z0 (H.1 0 22) sd) (t + 1)) (mrF (H.1 2) (H.1 0 21) (bgn (H.1 2) Z0 (H.1 0 22) sd) t) k)) = _; first | (rw [if_pos (by omega)]; done) | (rw [if_neg (by omega), eI]; done))) (List.Mem.tail _ (List.Mem.head _))), (List.forall_mem_cons.mpr ⟨(mem_ci (by omega) (List.Mem.head _)), (fun _ h => absurd h List.not_mem_nil)⟩)⟩)⟩)⟩) ?_
                        exact ih34 ((k + 1)) (by first | assumption | omega) (by omega)
        refine x_weaken (L1 := [(0, .ref 0), (1, .int (zN (sd))), (2, .int (zN ((if (rnF (H.1 2) (H.1 0 21) (bgn (H.1 2) Z0 (H.1 0 22) sd) (t + 1)) 33 = 1 then (mnl (H.1 2) (rnF (H.1 2) (H.1 0 21) (bgn (H.1 2) Z0 (H.1 0 22) sd) (t + 1)) (mrF (H.1 2) (H.1 0 21) (bgn (H.1 2) Z0 (H.1 0 22) sd) t) 0) else (mrF (H.1 2) (H.1 0 21) (bgn (H.1 2) Z0 (H.1 0 22) sd) t))))), (3, .int (zN (((0 : Nat) : Int))))]) (List.forall_mem_cons.mpr ⟨(List.Mem.tail _ (List.Mem.head _)), (List.forall_mem_cons.mpr ⟨(List.Mem.tail _ (List.Mem.tail _ (List.Mem.head _))), (List.forall_mem_cons.mpr ⟨(mem_ci (by first | (split <;> rfl)) (List.Mem.tail _ (List.Mem.tail _ (List.Mem.tail _ (List.Mem.head _))))), (List.forall_mem_cons.mpr ⟨(mem_ci (by omega) (List.Mem.head _)), (fun _ h => absurd h List.not_mem_nil)⟩)⟩)⟩)⟩) ?_
        exact lp34 ((H.1 2 1).toNat - 0 + 1) (0) (by first | assumption | omega) (Nat.lt_succ_self _)
  refine x_weaken (L1 := [(0, .ref 0), (1, .int (zN (sd))), (2, .int (zN ((mrF (H.1 2) (H.1 0 21) (bgn (H.1 2) Z0 (H.1 0 22) sd) 0))))]) (List.forall_mem_cons.mpr ⟨(List.Mem.tail _ (List.Mem.head _)), (List.forall_mem_cons.mpr ⟨(List.Mem.tail _ (List.Mem.tail _ (List.Mem.head _))), (List.forall_mem_cons.mpr ⟨(mem_ci (rfl) (List.Mem.head _)), (fun _ h => absurd h List.not_mem_nil)⟩)⟩)⟩) ?_
  exact lp12 (99 - 0 + 1) (0) (wA H 6 ((bgn (H.1 2) (H.1 6) (H.1 0 22) sd))) ok3 (by omega) (⟨rfl, fun cc k q => by rw [wA1c (by omega)]⟩) (by rw [wA1]; exact bgn_z h42) (Nat.lt_succ_self _)
