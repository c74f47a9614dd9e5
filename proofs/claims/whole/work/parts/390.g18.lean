/-! GROUP G18: one tick of the class, drawn. -/
theorem RepSc_e {H H1 : ZH} {s : Nat} {q : Nat → Int} (e : ∀ cc, s ≤ cc → cc ≤ s + 4 → H1.1 cc = H.1 cc) (r : RepSc H s q) : RepSc H1 s q := by
  obtain ⟨r0, r1, rC, r34, r35, r36, r37, r38, r39⟩ := r
  refine ⟨by rw [e s (by omega) (by omega)]; exact r0, by rw [e s (by omega) (by omega)]; exact r1, fun c hc => ?_, by rw [e s (by omega) (by omega)]; exact r34, by rw [e s (by omega) (by omega)]; exact r35, by rw [e s (by omega) (by omega)]; exact r36, by rw [e s (by omega) (by omega)]; exact r37, by rw [e s (by omega) (by omega)]; exact r38, by rw [e s (by omega) (by omega)]; exact r39⟩
  rw [e (s + 1) (by omega) (by omega), e (s + 2) (by omega) (by omega), e (s + 3) (by omega) (by omega), e (s + 4) (by omega) (by omega)]
  exact rC c hc
theorem RepLw_e {H H1 : ZH} {q : Nat → Int} (e : ∀ cc, cc ≤ 62 → H1.1 cc = H.1 cc) (r : RepLw H q) : RepLw H1 q := by
  refine ⟨by rw [e 59 (by omega)]; exact r.1, fun l hl => ?_⟩
  obtain ⟨a, b, c⟩ := r.2 l hl
  exact ⟨by rw [e 60 (by omega)]; exact a, by rw [e 61 (by omega)]; exact b, fun i hi => by rw [e 62 (by omega)]; exact c i hi⟩
theorem wlG_0 {q N : Nat → Int} {l : Int} : wlG q N (fun _ => false) l = 0 := by
  have h : wlG q N (fun _ => false) l ≤ 0 := mxf_le (Int.le_refl _) (fun d _ => by
    show (if q (2 + d) = l ∧ false = true then _ else (0 : Int)) ≤ 0
    rw [if_neg (fun z => absurd z.2 (by decide))]
    exact Int.le_refl _)
  have := mxf_nn (fun d => if q (2 + d) = l ∧ (fun _ => false) d = true then ctr N d (wl q N d) else 0) (q 1).toNat
  unfold wlG at h ⊢
  omega
theorem ck_0 {H : ZH} {q N f : Nat → Int} (rd : RepRd H q N) : CkI H (wI (wA (wA H 109 f) 110 (fun k => if k < 4 then 0 else (wA H 109 f).1 110 k)) 104 18 (-1)) q N f (fun _ => false) := by
  refine ⟨fun cc h1 h2 h3 h4 h5 h6 => ?_, fun k hk => ?_, rfl, ?_, ⟨fun c hc z => Bool.noConfusion z, fun c hc z => ?_, ?_⟩, fun l hl => ?_⟩
  · rw [wIf h1, wA1c h6, wA1c h5]
  · rw [wI1k hk, wA1c (by omega), wA1c (by omega)]
  · rw [wIf (by omega), wA1c (by omega), wA1]
  · obtain ⟨a1, a2, a3, a4⟩ := rd.1 c hc
    rw [wI1c (by omega), wI1c (by omega), wI1c (by omega), wA1c (by omega), wA1c (by omega), wA1c (by omega), wA1c (by omega), wA1c (by omega), wA1c (by omega)]
    exact ⟨a1, a2, a4⟩
  · rw [wI1]; exact (lea_no (fun _ _ => rfl)).symm
  · rw [wI1c (by omega), wA1, wlG_0]
    exact if_pos hl
theorem gi_up {q N f : Nat → Int} {G : Nat → Bool} {i : Nat} (gi : ∀ d : Nat, (d : Int) < q 1 → (G d = true ↔ 0 < N d ∧ ∃ j, j < i ∧ f j = (d : Int))) (hf : 0 ≤ f i) (hp : 0 < N (f i).toNat) : ∀ d : Nat, (d : Int) < q 1 → (Gup G (f i).toNat d = true ↔ 0 < N d ∧ ∃ j, j < i + 1 ∧ f j = (d : Int)) := by
  intro d hd
  by_cases e : d = (f i).toNat
  · subst e
    exact ⟨fun _ => ⟨hp, i, by omega, by omega⟩, fun _ => Gup_at _ _⟩
  · rw [Gup_ne e, gi d hd]
    refine and_congr_right (fun _ => ⟨fun ⟨j, hj, ej⟩ => ⟨j, by omega, ej⟩, fun ⟨j, hj, ej⟩ => ⟨j, ?_, ej⟩⟩)
    rcases Nat.lt_or_ge j i with y | y
    · exact y
    · rw [show j = i by omega] at ej
      exact absurd (by omega) e
theorem gi_sk {q N f : Nat → Int} {G : Nat → Bool} {i : Nat} (gi : ∀ d : Nat, (d : Int) < q 1 → (G d = true ↔ 0 < N d ∧ ∃ j, j < i ∧ f j = (d : Int))) (hf : 0 ≤ f i) (hp : N (f i).toNat ≤ 0) : ∀ d : Nat, (d : Int) < q 1 → (G d = true ↔ 0 < N d ∧ ∃ j, j < i + 1 ∧ f j = (d : Int)) := by
  intro d hd
  rw [gi d hd]
  refine and_congr_right (fun h0 => ⟨fun ⟨j, hj, ej⟩ => ⟨j, by omega, ej⟩, fun ⟨j, hj, ej⟩ => ⟨j, ?_, ej⟩⟩)
  rcases Nat.lt_or_ge j i with y | y
  · exact y
  · rw [show j = i by omega] at ej
    rw [show d = (f i).toNat by omega] at h0
    omega
theorem ck_end {H Hm : ZH} {q N f : Nat → Int} {G : Nat → Bool} (h : CkI H Hm q N f G) (ws : WFS q) (pf : Perm8 f (q 1).toNat) (hG : ∀ d : Nat, (d : Int) < q 1 → (G d = true ↔ 0 < N d ∧ ∃ j, j < (q 1).toNat ∧ f j = (d : Int))) (h0 : ∀ c : Nat, (c : Int) < q 1 → N c ≤ 0 → N (24 + c) = 0) : MvP H Hm q N := by
  obtain ⟨fr, f104, f2, f109, mv, wa⟩ := h
  obtain ⟨e, k⟩ := MVI_end mv ws.2.1.2 (fun c hc hp => (hG c hc).mpr ⟨hp, pf.2.2 c (by omega)⟩) h0
  exact ⟨fr, f104, f2, by rw [f109]; exact pf, e, k⟩
theorem knF_in {q N : Nat → Int} (h : knF q N ≠ -1) : N 33 = 1 ∧ 0 ≤ knF q N ∧ knF q N < q 1 := by
  unfold knF at h ⊢
  rcases lea_cases (fun c => decide (0 < N c) && hitB q N c) (q 1).toNat with ⟨e, _⟩ | ⟨k, hk, e, hk1, _⟩
  · exact absurd e h
  · have z : (decide (0 < N k) && hitB q N k) = true := hk1
    rw [Bool.and_eq_true] at z
    exact ⟨(of_decide_eq_true z.2).2.1, by omega, by omega⟩
/-- the fields of the road -/
def FldR (H : ZH) (N : Nat → Int) : Prop := H.1 104 10 = N 32 ∧ H.1 104 11 = N 33 ∧ H.1 104 12 = N 34 ∧ H.1 104 13 = N 35 ∧ H.1 104 14 = N 36 ∧ H.1 104 15 = N 37 ∧ H.1 104 16 = N 38 ∧ H.1 104 17 = N 39
/-- but some of the road's own fields -/
def Fr4 (H H1 : ZH) : Prop := (∀ cc, cc ≠ 104 → H1.1 cc = H.1 cc) ∧ (∀ k, k < 10 → H1.1 104 k = H.1 104 k) ∧ H1.2 = H.2
theorem Fr4_0 (H : ZH) : Fr4 H H := ⟨fun _ _ => rfl, fun _ _ => rfl, rfl⟩
theorem Fr4_I {H H1 : ZH} {k : Nat} {v : Int} (h : Fr4 H H1) (hk : 10 ≤ k) : Fr4 H (wI H1 104 k v) := ⟨fun cc q => by rw [wIf q]; exact h.1 cc q, fun j hj => by rw [wI1k (by omega)]; exact h.2.1 j hj, h.2.2⟩
theorem FldR_tk1 {H : ZH} {q D : Nat → Int} (h : FldR H D) (e : entB q D = true) : FldR (wI (wI H 104 11 1) 104 12 0) (tk1 q D) := by
  obtain ⟨a0, a1, a2, a3, a4, a5, a6, a7⟩ := h
  refine ⟨?_, ?_, ?_, ?_, ?_, ?_, ?_, ?_⟩
  · rw [tk1_at (by omega), wI1k (by omega), wI1k (by omega)]; exact a0
  · unfold tk1; rw [if_pos e, wI1k (by omega), wI1]; rfl
  · unfold tk1; rw [if_pos e, wI1]; rfl
  · rw [tk1_at (by omega), wI1k (by omega), wI1k (by omega)]; exact a3
  · rw [tk1_at (by omega), wI1k (by omega), wI1k (by omega)]; exact a4
  · rw [tk1_at (by omega), wI1k (by omega), wI1k (by omega)]; exact a5
  · rw [tk1_at (by omega), wI1k (by omega), wI1k (by omega)]; exact a6
  · rw [tk1_at (by omega), wI1k (by omega), wI1k (by omega)]; exact a7
theorem tk1_no {q D : Nat → Int} (e : entB q D = false) : tk1 q D = D := by
  funext j
  unfold tk1
  rw [if_neg (by rw [e]; decide)]
theorem tickF_c {q D : Nat → Int} (h8 : q 1 ≤ 8) {c : Nat} (hc : (c : Int) < q 1) (h0 : 0 ≤ q 1) : tickF q D c = mvN q (tk1 q D) c ∧ tickF q D (8 + c) = mvN q (tk1 q D) (8 + c) ∧ tickF q D (16 + c) = D (16 + c) ∧ tickF q D (24 + c) = mvN q (tk1 q D) (24 + c) := by
  unfold tickF
  rw [tk3_at (by omega), tk3_at (by omega), tk3_at (by omega), tk3_at (by omega), tk2_at (by omega), tk2_at (by omega), tk2_at (by omega), tk2_at (by omega), mvN_md (j := 16 + c) h8 (by omega), tk1_at (j := 16 + c) (by omega)]
  exact ⟨rfl, rfl, rfl, rfl⟩

theorem c_X0_isStop_d {d : Nat} {H : ZH} (ok : okZ H) {p : Int} (p1 : -2147483648 ≤ p) (p2 : p ≤ 2147483647) (hdr : H.1 111 0 = 1) : EvC zX (d + 1) mX0_isStop [.ref 111, .int (zN (p))] (eh H) (zPi (fun (rz : Int) (Hz : ZH) => rz = (if lcg (H.1 111 1) % 4294967296 / 65536 % 100 < p then 1 else 0) ∧ Hz = wI H 111 1 (lcg (H.1 111 1)))) := by
  show _ ∧ Ev zX mX0_isStop (EvC zX d) (zPi (fun (rz : Int) (Hz : ZH) => rz = (if lcg (H.1 111 1) % 4294967296 / 65536 % 100 < p then 1 else 0) ∧ Hz = wI H 111 1 (lcg (H.1 111 1)))) 0 [(0, .ref 111), (1, .int (zN (p)))] [] (eh H)
  refine ⟨Nat.le_of_ble_eq_true rfl, ?_⟩
  refine x_aload_n (pc := 0) dX0_isStop_0 (List.Mem.head _) ?_
  refine z_getI (pc := 1) (k := 0) (v := 1) dX0_isStop_1 lf_X0_19 sh_111 rfl (by rw [hdr]) ?_
  refine z_if_eq (pc := 4) (tgt := 42) dX0_isStop_4 (by decide) (by decide) (by decide) (fun h => absurd h (by decide)) (fun _ => ?_)
  refine x_aload_n (pc := 7) dX0_isStop_7 (List.Mem.head _) ?_
  refine z_ldc (pc := 8) 1103515245 dX0_isStop_8 cn_X0_33 (by decide) ?_
  refine x_aload_n (pc := 10) dX0_isStop_10 (List.Mem.head _) ?_
  have rd2 := ok.1 111 1
  refine z_getI (pc := 11) (k := 1) (v := H.1 111 1) dX0_isStop_11 lf_X0_23 sh_111 rfl rfl ?_
  refine z_imul (pc := 14) dX0_isStop_14 ?_
  refine z_sipush (pc := 15) dX0_isStop_15 sp_12345 ?_
  have rd3 := bm32 ((1103515245 * (H.1 111 1)) + 12345)
  refine z_iaddw (pc := 18) dX0_isStop_18 ?_
  refine z_putI (pc := 19) (k := 1) dX0_isStop_19 lp_X0_23 sh_111 rfl ?_
  have ok4 := okI ok 111 1 (v := (((1103515245 * (H.1 111 1)) + 12345).bmod 4294967296)) (by omega) (by omega)
  refine x_aload_n (pc := 22) dX0_isStop_22 (List.Mem.head _) ?_
  refine z_getI (pc := 23) (k := 1) (v := (((1103515245 * (H.1 111 1)) + 12345).bmod 4294967296)) dX0_isStop_23 lf_X0_23 sh_111 rfl (by rw [wI1]) ?_
  refine z_bipush (pc := 26) dX0_isStop_26 bp_16 ?_
  refine z_iushr16 (pc := 28) dX0_isStop_28 rfl ?_
  refine z_bipush (pc := 29) dX0_isStop_29 bp_100 ?_
  refine z_iremP (pc := 31) dX0_isStop_31 (by omega) (by omega) (by omega) (by omega) ?_
  refine x_iload_n (pc := 32) dX0_isStop_32 (List.Mem.tail _ (List.Mem.head _)) ?_
  refine z_icmp_ge (pc := 33) (tgt := 40) dX0_isStop_33 (by decide) (by omega) (by omega) (by omega) (by omega) (fun hb5 => ?_) (fun hb5 => ?_)
  · skip
    refine z_iconst (pc := 40) dX0_isStop_40 ?_
    refine z_ireturn (pc := 41) dX0_isStop_41 rfl (Or.inr ⟨rfl, by omega⟩) ok4 (by decide) (by decide) ?_
    refine ⟨?_, rfl⟩
    first | exact (if_pos (show lcg (H.1 111 1) % 4294967296 / 65536 % 100 < p by rw [show lcg (H.1 111 1) = ((1103515245 * H.1 111 1) + 12345).bmod 4294967296 from rfl]; omega)).symm | exact (if_neg (show ¬ lcg (H.1 111 1) % 4294967296 / 65536 % 100 < p by rw [show lcg (H.1 111 1) = ((1103515245 * H.1 111 1) + 12345).bmod 4294967296 from rfl]; omega)).symm
  · skip
    refine z_iconst (pc := 36) dX0_isStop_36 ?_
    refine x_goto (pc := 37) (tgt := 41) dX0_isStop_37 (by decide) ?_
    refine z_ireturn (pc := 41) dX0_isStop_41 rfl (Or.inr ⟨rfl, by omega⟩) ok4 (by decide) (by decide) ?_
    refine ⟨?_, rfl⟩
    first | exact (if_pos (show lcg (H.1 111 1) % 4294967296 / 65536 % 100 < p by rw [show lcg (H.1 111 1) = ((1103515245 * H.1 111 1) + 12345).bmod 4294967296 from rfl]; omega)).symm | exact (if_neg (show ¬ lcg (H.1 111 1) % 4294967296 / 65536 % 100 < p by rw [show lcg (H.1 111 1) = ((1103515245 * H.1 111 1) + 12345).bmod 4294967296 from rfl]; omega)).symm

theorem c_X4_decide_d {d : Nat} {H : ZH} (ok : okZ H) {s : Nat} {q N : Nat → Int} {c : Nat} (hc : (c : Int) < q 1) (hs : isSc s) (hsc : H.1 104 1 = (s : Int)) (ws : WFS q) (rs : RepSc H s q) (wn : WFN q N) (rd : RepRd H q N) (rl : RepLw H q) (wl : WFL q) (hdr : H.1 111 0 = 1) (hx : H.1 111 1 = N 40) : EvC zX (d + 4) mX4_decide [.ref 104, .int (zN ((c : Int)))] (eh H) (zPv (fun (H1 : ZH) => H1 = wI (wI H 111 1 (if 0 < (shr q N (H.1 104 3) c) ∧ (shr q N (H.1 104 3) c) < 100 then lcg (N 40) else N 40)) 107 c (if (shr q N (H.1 104 3) c) = 0 then (1 : Int) else if (shr q N (H.1 104 3) c) = 100 then 2 else if lcg (N 40) % 4294967296 / 65536 % 100 < (shr q N (H.1 104 3) c) then 2 else 1))) := by
  show _ ∧ Ev zX mX4_decide (EvC zX (d + 3)) (zPv (fun (H1 : ZH) => H1 = wI (wI H 111 1 (if 0 < (shr q N (H.1 104 3) c) ∧ (shr q N (H.1 104 3) c) < 100 then lcg (N 40) else N 40)) 107 c (if (shr q N (H.1 104 3) c) = 0 then (1 : Int) else if (shr q N (H.1 104 3) c) = 100 then 2 else if lcg (N 40) % 4294967296 / 65536 % 100 < (shr q N (H.1 104 3) c) then 2 else 1))) 0 [(0, .ref 104), (1, .int (zN ((c : Int))))] [] (eh H)
  refine ⟨Nat.le_of_ble_eq_true rfl, ?_⟩
  have hsr := isSc_r hs
  have wsx := ws
  obtain ⟨ws0, ws1, wsC, ws34, ws35, ws36, ws37, ws38, ws39⟩ := wsx
  have rsx := rs
  obtain ⟨rs0, rs1, rsC, rs34, rs35, rs36, rs37, rs38, rs39⟩ := rsx
  have wnx := wn
  obtain ⟨wnC, wn32, wn33, wn34, wn35, wn36, wn37, wn38, wn39⟩ := wnx
  have rdx := rd
  obtain ⟨rdC, rd10, rd11, rd12, rd13, rd14, rd15, rd16, rd17⟩ := rdx
  have wk_c := wsC c (by omega)
  have vk_c := wnC c (by omega)
  have sk_c := rsC c (by omega)
  have dk_c := rdC c (by omega)
  have okx := ok.1 111 1
  have sk3 := ok.1 104 3
  have tb := tsp_bd (N := N) (wo := H.1 104 3) (c := c) wl (q 40).toNat 0 (by have := wl.1; omega)
  refine x_aload_n (pc := 0) dX4_decide_0 (List.Mem.head _) ?_
  refine x_iload_n (pc := 1) dX4_decide_1 (List.Mem.tail _ (List.Mem.head _)) ?_
  refine z_callVip (pc := 2) (i := mX4_percentFor) (S := []) [.int (zN ((c : Int)))] dX4_decide_2 ml_X4_108 ok_X4_percentFor rfl sh_104 rfl (Or.inl rfl) (Nat.le_of_ble_eq_true rfl) (c_X4_percentFor (d := d) (s := s) (q := q) (N := N) (c := c) (hc := (by omega)) (ok := ok) (hs := (by first | assumption | omega)) (hsc := (by first | assumption | omega)) (ws := (by first | assumption | omega)) (rs := (by first | assumption | omega)) (wn := (by first | assumption | omega)) (rd := (by first | assumption | omega)) (rl := (by first | assumption | omega)) (wl := (by first | assumption | omega))) (fun r1a r1b ok2 => ?_)
  refine x_istore_n (pc := 5) dX4_decide_5 (Nat.le_of_ble_eq_true rfl) ?_
  show Ev _ _ _ _ _ [(2, .int (zN ((tsp q N (H.1 104 3) c (q 40).toNat 0)))), (0, .ref 104), (1, .int (zN ((c : Int))))] _ _
  refine x_iload_n (pc := 6) dX4_decide_6 (List.Mem.head _) ?_
  refine z_if_le (pc := 7) (tgt := 39) dX4_decide_7 (by decide) (by omega) (by omega) (fun hb3 => ?_) (fun hb3 => ?_)
  · skip
    have hroom : (shr q N (H.1 104 3) c) = 0 := by unfold shr; split <;> omega
    refine z_iconst (pc := 39) dX4_decide_39 ?_
    refine x_istore_n (pc := 40) dX4_decide_40 (Nat.le_of_ble_eq_true rfl) ?_
    show Ev _ _ _ _ _ [(3, .int (zN (0))), (2, .int (zN ((tsp q N (H.1 104 3) c (q 40).toNat 0)))), (0, .ref 104), (1, .int (zN ((c : Int))))] _ _
    refine x_aload_n (pc := 41) dX4_decide_41 (List.Mem.tail _ (List.Mem.tail _ (List.Mem.head _))) ?_
    refine z_getR (pc := 42) (k := 6) (r := 107) dX4_decide_42 lf_X4_29 sh_104 rfl rf_104_6 ?_
    refine x_iload_n (pc := 45) dX4_decide_45 (List.Mem.tail _ (List.Mem.tail _ (List.Mem.tail _ (List.Mem.head _)))) ?_
    refine x_iload_n (pc := 46) dX4_decide_46 (List.Mem.head _) ?_
    refine z_if_eq (pc := 47) (tgt := 54) dX4_decide_47 (by decide) (by decide) (by decide) (fun _ => ?_) (fun h => absurd h (by decide))
    refine z_iconst (pc := 54) dX4_decide_54 ?_
    refine z_iast (pc := 55) (j := c) (v := 1) dX4_decide_55 sh_107 rfl (by omega) (by decide) ?_
    have ok5 := okI ok2 107 c (v := 1) (by decide) (by decide)
    refine z_vreturn (pc := 56) dX4_decide_56 rfl ok5 ?_
    first
      | (rw [show (if 0 < (shr q N (H.1 104 3) c) ∧ (shr q N (H.1 104 3) c) < 100 then lcg (N 40) else N 40) = N 40 from if_neg (by omega), show (if (shr q N (H.1 104 3) c) = 0 then (1 : Int) else if (shr q N (H.1 104 3) c) = 100 then 2 else if lcg (N 40) % 4294967296 / 65536 % 100 < (shr q N (H.1 104 3) c) then 2 else 1) = 1 from if_pos (by omega), wI_id (H := H) (c := 111) (k := 1) hx]; done)
      | (rw [show (if 0 < (shr q N (H.1 104 3) c) ∧ (shr q N (H.1 104 3) c) < 100 then lcg (N 40) else N 40) = N 40 from if_neg (by omega), show (if (shr q N (H.1 104 3) c) = 0 then (1 : Int) else if (shr q N (H.1 104 3) c) = 100 then 2 else if lcg (N 40) % 4294967296 / 65536 % 100 < (shr q N (H.1 104 3) c) then 2 else 1) = 2 from (if_neg (by omega)).trans (if_pos (by omega)), wI_id (H := H) (c := 111) (k := 1) hx]; done)
      | (rw [show (if 0 < (shr q N (H.1 104 3) c) ∧ (shr q N (H.1 104 3) c) < 100 then lcg (N 40) else N 40) = lcg (N 40) from if_pos (by omega), show (if (shr q N (H.1 104 3) c) = 0 then (1 : Int) else if (shr q N (H.1 104 3) c) = 100 then 2 else if lcg (N 40) % 4294967296 / 65536 % 100 < (shr q N (H.1 104 3) c) then 2 else 1) = 2 from (if_neg (by omega)).trans ((if_neg (by omega)).trans (if_pos (by rw [hroom]; exact hdw))), ← hx]; done)
      | (rw [show (if 0 < (shr q N (H.1 104 3) c) ∧ (shr q N (H.1 104 3) c) < 100 then lcg (N 40) else N 40) = lcg (N 40) from if_pos (by omega), show (if (shr q N (H.1 104 3) c) = 0 then (1 : Int) else if (shr q N (H.1 104 3) c) = 100 then 2 else if lcg (N 40) % 4294967296 / 65536 % 100 < (shr q N (H.1 104 3) c) then 2 else 1) = 1 from (if_neg (by omega)).trans ((if_neg (by omega)).trans (if_neg (by rw [hroom]; exact hdw))), ← hx]; done)
  · skip
    refine x_aload_n (pc := 10) dX4_decide_10 (List.Mem.tail _ (List.Mem.head _)) ?_
    refine x_iload_n (pc := 11) dX4_decide_11 (List.Mem.tail _ (List.Mem.tail _ (List.Mem.head _))) ?_
    refine z_callVbp (pc := 12) (i := mX4_hasRoom) (S := []) [.int (zN ((c : Int)))] dX4_decide_12 ml_X4_112 ok_X4_hasRoom rfl sh_104 rfl (Or.inr rfl) (Nat.le_of_ble_eq_true rfl) (c_X4_hasRoom (d := d + 2) (s := s) (q := q) (N := N) (c := c) (hc := (by omega)) (ok := ok2) (hs := (by first | assumption | omega)) (hsc := (by first | assumption | omega)) (ws := (by first | assumption | omega)) (rs := (by first | assumption | omega)) (wn := (by first | assumption | omega)) (rd := (by first | assumption | omega))) (fun hc8 ok7 => ?_) (fun hc8 ok7 => ?_)
    · skip
      have hroom : (shr q N (H.1 104 3) c) = (tsp q N (H.1 104 3) c (q 40).toNat 0) := if_pos hc8
      refine z_if_eq (pc := 15) (tgt := 39) dX4_decide_15 (by decide) (by decide) (by decide) (fun h => absurd h (by decide)) (fun _ => ?_)
      refine x_iload_n (pc := 18) dX4_decide_18 (List.Mem.head _) ?_
      refine z_bipush (pc := 19) dX4_decide_19 bp_100 ?_
      refine z_icmp_ge (pc := 21) (tgt := 35) dX4_decide_21 (by decide) (by omega) (by omega) (by decide) (by decide) (fun hb10 => ?_) (fun hb10 => ?_)
      · skip
        refine z_iconst (pc := 35) dX4_decide_35 ?_
        refine x_goto (pc := 36) (tgt := 40) dX4_decide_36 (by decide) ?_
        refine x_istore_n (pc := 40) dX4_decide_40 (Nat.le_of_ble_eq_true rfl) ?_
        show Ev _ _ _ _ _ [(3, .int (zN (1))), (2, .int (zN ((tsp q N (H.1 104 3) c (q 40).toNat 0)))), (0, .ref 104), (1, .int (zN ((c : Int))))] _ _
        refine x_aload_n (pc := 41) dX4_decide_41 (List.Mem.tail _ (List.Mem.tail _ (List.Mem.head _))) ?_
        refine z_getR (pc := 42) (k := 6) (r := 107) dX4_decide_42 lf_X4_29 sh_104 rfl rf_104_6 ?_
        refine x_iload_n (pc := 45) dX4_decide_45 (List.Mem.tail _ (List.Mem.tail _ (List.Mem.tail _ (List.Mem.head _)))) ?_
        refine x_iload_n (pc := 46) dX4_decide_46 (List.Mem.head _) ?_
        refine z_if_eq (pc := 47) (tgt := 54) dX4_decide_47 (by decide) (by decide) (by decide) (fun h => absurd h (by decide)) (fun _ => ?_)
        refine z_iconst (pc := 50) dX4_decide_50 ?_
        refine x_goto (pc := 51) (tgt := 55) dX4_decide_51 (by decide) ?_
        refine z_iast (pc := 55) (j := c) (v := 2) dX4_decide_55 sh_107 rfl (by omega) (by decide) ?_
        have ok12 := okI ok7 107 c (v := 2) (by decide) (by decide)
        refine z_vreturn (pc := 56) dX4_decide_56 rfl ok12 ?_
        first
          | (rw [show (if 0 < (shr q N (H.1 104 3) c) ∧ (shr q N (H.1 104 3) c) < 100 then lcg (N 40) else N 40) = N 40 from if_neg (by omega), show (if (shr q N (H.1 104 3) c) = 0 then (1 : Int) else if (shr q N (H.1 104 3) c) = 100 then 2 else if lcg (N 40) % 4294967296 / 65536 % 100 < (shr q N (H.1 104 3) c) then 2 else 1) = 1 from if_pos (by omega), wI_id (H := H) (c := 111) (k := 1) hx]; done)
          | (rw [show (if 0 < (shr q N (H.1 104 3) c) ∧ (shr q N (H.1 104 3) c) < 100 then lcg (N 40) else N 40) = N 40 from if_neg (by omega), show (if (shr q N (H.1 104 3) c) = 0 then (1 : Int) else if (shr q N (H.1 104 3) c) = 100 then 2 else if lcg (N 40) % 4294967296 / 65536 % 100 < (shr q N (H.1 104 3) c) then 2 else 1) = 2 from (if_neg (by omega)).trans (if_pos (by omega)), wI_id (H := H) (c := 111) (k := 1) hx]; done)
          | (rw [show (if 0 < (shr q N (H.1 104 3) c) ∧ (shr q N (H.1 104 3) c) < 100 then lcg (N 40) else N 40) = lcg (N 40) from if_pos (by omega), show (if (shr q N (H.1 104 3) c) = 0 then (1 : Int) else if (shr q N (H.1 104 3) c) = 100 then 2 else if lcg (N 40) % 4294967296 / 65536 % 100 < (shr q N (H.1 104 3) c) then 2 else 1) = 2 from (if_neg (by omega)).trans ((if_neg (by omega)).trans (if_pos (by rw [hroom]; exact hdw))), ← hx]; done)
          | (rw [show (if 0 < (shr q N (H.1 104 3) c) ∧ (shr q N (H.1 104 3) c) < 100 then lcg (N 40) else N 40) = lcg (N 40) from if_pos (by omega), show (if (shr q N (H.1 104 3) c) = 0 then (1 : Int) else if (shr q N (H.1 104 3) c) = 100 then 2 else if lcg (N 40) % 4294967296 / 65536 % 100 < (shr q N (H.1 104 3) c) then 2 else 1) = 1 from (if_neg (by omega)).trans ((if_neg (by omega)).trans (if_neg (by rw [hroom]; exact hdw))), ← hx]; done)
      · skip
        refine x_aload_n (pc := 24) dX4_decide_24 (List.Mem.tail _ (List.Mem.head _)) ?_
        refine z_getR (pc := 25) (k := 0) (r := 111) dX4_decide_25 lf_X4_12 sh_104 rfl rf_104_0 ?_
        refine x_iload_n (pc := 28) dX4_decide_28 (List.Mem.head _) ?_
        refine z_callVbp (pc := 29) (i := mX0_isStop) (S := []) [.int (zN ((tsp q N (H.1 104 3) c (q 40).toNat 0)))] dX4_decide_29 ml_X4_115 ok_X0_isStop rfl sh_111 rfl (Or.inr rfl) (Nat.le_of_ble_eq_true rfl) (c_X0_isStop_d (d := d + 2) (p := ((tsp q N (H.1 104 3) c (q 40).toNat 0))) (p1 := (by omega)) (p2 := (by omega)) (ok := ok7) (hdr := (by first | assumption | omega))) (fun hc15 ok14 => ?_) (fun hc15 ok14 => ?_)
        · skip
          have hdw : lcg (H.1 111 1) % 4294967296 / 65536 % 100 < (tsp q N (H.1 104 3) c (q 40).toNat 0) := hc15
          rw [hx] at hdw
          refine z_if_eq (pc := 32) (tgt := 39) dX4_decide_32 (by decide) (by decide) (by decide) (fun h => absurd h (by decide)) (fun _ => ?_)
          refine z_iconst (pc := 35) dX4_decide_35 ?_
          refine x_goto (pc := 36) (tgt := 40) dX4_decide_36 (by decide) ?_
          refine x_istore_n (pc := 40) dX4_decide_40 (Nat.le_of_ble_eq_true rfl) ?_
          show Ev _ _ _ _ _ [(3, .int (zN (1))), (2, .int (zN ((tsp q N (H.1 104 3) c (q 40).toNat 0)))), (0, .ref 104), (1, .int (zN ((c : Int))))] _ _
          refine x_aload_n (pc := 41) dX4_decide_41 (List.Mem.tail _ (List.Mem.tail _ (List.Mem.head _))) ?_
          refine z_getR (pc := 42) (k := 6) (r := 107) dX4_decide_42 lf_X4_29 sh_104 rfl rf_104_6 ?_
          refine x_iload_n (pc := 45) dX4_decide_45 (List.Mem.tail _ (List.Mem.tail _ (List.Mem.tail _ (List.Mem.head _)))) ?_
          refine x_iload_n (pc := 46) dX4_decide_46 (List.Mem.head _) ?_
          refine z_if_eq (pc := 47) (tgt := 54) dX4_decide_47 (by decide) (by decide) (by decide) (fun h => absurd h (by decide)) (fun _ => ?_)
          refine z_iconst (pc := 50) dX4_decide_50 ?_
          refine x_goto (pc := 51) (tgt := 55) dX4_decide_51 (by decide) ?_
          refine z_iast (pc := 55) (j := c) (v := 2) dX4_decide_55 sh_107 rfl (by omega) (by decide) ?_
          have ok18 := okI ok14 107 c (v := 2) (by decide) (by decide)
          refine z_vreturn (pc := 56) dX4_decide_56 rfl ok18 ?_
          first
            | (rw [show (if 0 < (shr q N (H.1 104 3) c) ∧ (shr q N (H.1 104 3) c) < 100 then lcg (N 40) else N 40) = N 40 from if_neg (by omega), show (if (shr q N (H.1 104 3) c) = 0 then (1 : Int) else if (shr q N (H.1 104 3) c) = 100 then 2 else if lcg (N 40) % 4294967296 / 65536 % 100 < (shr q N (H.1 104 3) c) then 2 else 1) = 1 from if_pos (by omega), wI_id (H := H) (c := 111) (k := 1) hx]; done)
            | (rw [show (if 0 < (shr q N (H.1 104 3) c) ∧ (shr q N (H.1 104 3) c) < 100 then lcg (N 40) else N 40) = N 40 from if_neg (by omega), show (if (shr q N (H.1 104 3) c) = 0 then (1 : Int) else if (shr q N (H.1 104 3) c) = 100 then 2 else if lcg (N 40) % 4294967296 / 65536 % 100 < (shr q N (H.1 104 3) c) then 2 else 1) = 2 from (if_neg (by omega)).trans (if_pos (by omega)), wI_id (H := H) (c := 111) (k := 1) hx]; done)
            | (rw [show (if 0 < (shr q N (H.1 104 3) c) ∧ (shr q N (H.1 104 3) c) < 100 then lcg (N 40) else N 40) = lcg (N 40) from if_pos (by omega), show (if (shr q N (H.1 104 3) c) = 0 then (1 : Int) else if (shr q N (H.1 104 3) c) = 100 then 2 else if lcg (N 40) % 4294967296 / 65536 % 100 < (shr q N (H.1 104 3) c) then 2 else 1) = 2 from (if_neg (by omega)).trans ((if_neg (by omega)).trans (if_pos (by rw [hroom]; exact hdw))), ← hx]; done)
            | (rw [show (if 0 < (shr q N (H.1 104 3) c) ∧ (shr q N (H.1 104 3) c) < 100 then lcg (N 40) else N 40) = lcg (N 40) from if_pos (by omega), show (if (shr q N (H.1 104 3) c) = 0 then (1 : Int) else if (shr q N (H.1 104 3) c) = 100 then 2 else if lcg (N 40) % 4294967296 / 65536 % 100 < (shr q N (H.1 104 3) c) then 2 else 1) = 1 from (if_neg (by omega)).trans ((if_neg (by omega)).trans (if_neg (by rw [hroom]; exact hdw))), ← hx]; done)
        · skip
          have hdw : ¬ lcg (H.1 111 1) % 4294967296 / 65536 % 100 < (tsp q N (H.1 104 3) c (q 40).toNat 0) := hc15
          rw [hx] at hdw
          refine z_if_eq (pc := 32) (tgt := 39) dX4_decide_32 (by decide) (by decide) (by decide) (fun _ => ?_) (fun h => absurd h (by decide))
          refine z_iconst (pc := 39) dX4_decide_39 ?_
          refine x_istore_n (pc := 40) dX4_decide_40 (Nat.le_of_ble_eq_true rfl) ?_
          show Ev _ _ _ _ _ [(3, .int (zN (0))), (2, .int (zN ((tsp q N (H.1 104 3) c (q 40).toNat 0)))), (0, .ref 104), (1, .int (zN ((c : Int))))] _ _
          refine x_aload_n (pc := 41) dX4_decide_41 (List.Mem.tail _ (List.Mem.tail _ (List.Mem.head _))) ?_
          refine z_getR (pc := 42) (k := 6) (r := 107) dX4_decide_42 lf_X4_29 sh_104 rfl rf_104_6 ?_
          refine x_iload_n (pc := 45) dX4_decide_45 (List.Mem.tail _ (List.Mem.tail _ (List.Mem.tail _ (List.Mem.head _)))) ?_
          refine x_iload_n (pc := 46) dX4_decide_46 (List.Mem.head _) ?_
          refine z_if_eq (pc := 47) (tgt := 54) dX4_decide_47 (by decide) (by decide) (by decide) (fun _ => ?_) (fun h => absurd h (by decide))
          refine z_iconst (pc := 54) dX4_decide_54 ?_
          refine z_iast (pc := 55) (j := c) (v := 1) dX4_decide_55 sh_107 rfl (by omega) (by decide) ?_
          have ok21 := okI ok14 107 c (v := 1) (by decide) (by decide)
          refine z_vreturn (pc := 56) dX4_decide_56 rfl ok21 ?_
          first
            | (rw [show (if 0 < (shr q N (H.1 104 3) c) ∧ (shr q N (H.1 104 3) c) < 100 then lcg (N 40) else N 40) = N 40 from if_neg (by omega), show (if (shr q N (H.1 104 3) c) = 0 then (1 : Int) else if (shr q N (H.1 104 3) c) = 100 then 2 else if lcg (N 40) % 4294967296 / 65536 % 100 < (shr q N (H.1 104 3) c) then 2 else 1) = 1 from if_pos (by omega), wI_id (H := H) (c := 111) (k := 1) hx]; done)
            | (rw [show (if 0 < (shr q N (H.1 104 3) c) ∧ (shr q N (H.1 104 3) c) < 100 then lcg (N 40) else N 40) = N 40 from if_neg (by omega), show (if (shr q N (H.1 104 3) c) = 0 then (1 : Int) else if (shr q N (H.1 104 3) c) = 100 then 2 else if lcg (N 40) % 4294967296 / 65536 % 100 < (shr q N (H.1 104 3) c) then 2 else 1) = 2 from (if_neg (by omega)).trans (if_pos (by omega)), wI_id (H := H) (c := 111) (k := 1) hx]; done)
            | (rw [show (if 0 < (shr q N (H.1 104 3) c) ∧ (shr q N (H.1 104 3) c) < 100 then lcg (N 40) else N 40) = lcg (N 40) from if_pos (by omega), show (if (shr q N (H.1 104 3) c) = 0 then (1 : Int) else if (shr q N (H.1 104 3) c) = 100 then 2 else if lcg (N 40) % 4294967296 / 65536 % 100 < (shr q N (H.1 104 3) c) then 2 else 1) = 2 from (if_neg (by omega)).trans ((if_neg (by omega)).trans (if_pos (by rw [hroom]; exact hdw))), ← hx]; done)
            | (rw [show (if 0 < (shr q N (H.1 104 3) c) ∧ (shr q N (H.1 104 3) c) < 100 then lcg (N 40) else N 40) = lcg (N 40) from if_pos (by omega), show (if (shr q N (H.1 104 3) c) = 0 then (1 : Int) else if (shr q N (H.1 104 3) c) = 100 then 2 else if lcg (N 40) % 4294967296 / 65536 % 100 < (shr q N (H.1 104 3) c) then 2 else 1) = 1 from (if_neg (by omega)).trans ((if_neg (by omega)).trans (if_neg (by rw [hroom]; exact hdw))), ← hx]; done)
    · skip
      have hroom : (shr q N (H.1 104 3) c) = 0 := if_neg hc8
      refine z_if_eq (pc := 15) (tgt := 39) dX4_decide_15 (by decide) (by decide) (by decide) (fun _ => ?_) (fun h => absurd h (by decide))
      refine z_iconst (pc := 39) dX4_decide_39 ?_
      refine x_istore_n (pc := 40) dX4_decide_40 (Nat.le_of_ble_eq_true rfl) ?_
      show Ev _ _ _ _ _ [(3, .int (zN (0))), (2, .int (zN ((tsp q N (H.1 104 3) c (q 40).toNat 0)))), (0, .ref 104), (1, .int (zN ((c : Int))))] _ _
      refine x_aload_n (pc := 41) dX4_decide_41 (List.Mem.tail _ (List.Mem.tail _ (List.Mem.head _))) ?_
      refine z_getR (pc := 42) (k := 6) (r := 107) dX4_decide_42 lf_X4_29 sh_104 rfl rf_104_6 ?_
      refine x_iload_n (pc := 45) dX4_decide_45 (List.Mem.tail _ (List.Mem.tail _ (List.Mem.tail _ (List.Mem.head _)))) ?_
      refine x_iload_n (pc := 46) dX4_decide_46 (List.Mem.head _) ?_
      refine z_if_eq (pc := 47) (tgt := 54) dX4_decide_47 (by decide) (by decide) (by decide) (fun _ => ?_) (fun h => absurd h (by decide))
      refine z_iconst (pc := 54) dX4_decide_54 ?_
      refine z_iast (pc := 55) (j := c) (v := 1) dX4_decide_55 sh_107 rfl (by omega) (by decide) ?_
      have ok24 := okI ok7 107 c (v := 1) (by decide) (by decide)
      refine z_vreturn (pc := 56) dX4_decide_56 rfl ok24 ?_
      first
        | (rw [show (if 0 < (shr q N (H.1 104 3) c) ∧ (shr q N (H.1 104 3) c) < 100 then lcg (N 40) else N 40) = N 40 from if_neg (by omega), show (if (shr q N (H.1 104 3) c) = 0 then (1 : Int) else if (shr q N (H.1 104 3) c) = 100 then 2 else if lcg (N 40) % 4294967296 / 65536 % 100 < (shr q N (H.1 104 3) c) then 2 else 1) = 1 from if_pos (by omega), wI_id (H := H) (c := 111) (k := 1) hx]; done)
        | (rw [show (if 0 < (shr q N (H.1 104 3) c) ∧ (shr q N (H.1 104 3) c) < 100 then lcg (N 40) else N 40) = N 40 from if_neg (by omega), show (if (shr q N (H.1 104 3) c) = 0 then (1 : Int) else if (shr q N (H.1 104 3) c) = 100 then 2 else if lcg (N 40) % 4294967296 / 65536 % 100 < (shr q N (H.1 104 3) c) then 2 else 1) = 2 from (if_neg (by omega)).trans (if_pos (by omega)), wI_id (H := H) (c := 111) (k := 1) hx]; done)
        | (rw [show (if 0 < (shr q N (H.1 104 3) c) ∧ (shr q N (H.1 104 3) c) < 100 then lcg (N 40) else N 40) = lcg (N 40) from if_pos (by omega), show (if (shr q N (H.1 104 3) c) = 0 then (1 : Int) else if (shr q N (H.1 104 3) c) = 100 then 2 else if lcg (N 40) % 4294967296 / 65536 % 100 < (shr q N (H.1 104 3) c) then 2 else 1) = 2 from (if_neg (by omega)).trans ((if_neg (by omega)).trans (if_pos (by rw [hroom]; exact hdw))), ← hx]; done)
        | (rw [show (if 0 < (shr q N (H.1 104 3) c) ∧ (shr q N (H.1 104 3) c) < 100 then lcg (N 40) else N 40) = lcg (N 40) from if_pos (by omega), show (if (shr q N (H.1 104 3) c) = 0 then (1 : Int) else if (shr q N (H.1 104 3) c) = 100 then 2 else if lcg (N 40) % 4294967296 / 65536 % 100 < (shr q N (H.1 104 3) c) then 2 else 1) = 1 from (if_neg (by omega)).trans ((if_neg (by omega)).trans (if_neg (by rw [hroom]; exact hdw))), ← hx]; done)

theorem c_X4_moveCars {d : Nat} {H : ZH} (ok : okZ H) {s : Nat} {q N : Nat → Int} (hs : isSc s) (hsc : H.1 104 1 = (s : Int)) (ws : WFS q) (rs : RepSc H s q) (wn : WFN q N) (h0 : ∀ c : Nat, (c : Int) < q 1 → N c ≤ 0 → N (24 + c) = 0) (rd : RepRd H q N) (pm : Perm8 (H.1 109) (q 1).toNat) : EvC zX (d + 3) mX4_moveCars [.ref 104] (eh H) (zPv (fun (H1 : ZH) => MvP H H1 q N)) := by
  show _ ∧ Ev zX mX4_moveCars (EvC zX (d + 2)) (zPv (fun (H1 : ZH) => MvP H H1 q N)) 0 [(0, .ref 104)] [] (eh H)
  refine ⟨Nat.le_of_ble_eq_true rfl, ?_⟩
  have hsr := isSc_r hs
  have wsx := ws
  obtain ⟨ws0, ws1, wsC, ws34, ws35, ws36, ws37, ws38, ws39⟩ := wsx
  have rsx := rs
  obtain ⟨rs0, rs1, rsC, rs34, rs35, rs36, rs37, rs38, rs39⟩ := rsx
  refine x_aload_n (pc := 0) dX4_moveCars_0 (List.Mem.head _) ?_
  refine z_callVv (pc := 1) (i := mX4_sortByDist) (S := []) [] dX4_moveCars_1 ml_X4_164 ok_X4_sortByDist rfl sh_104 rfl rfl (Nat.le_of_ble_eq_true rfl) (c_X4_sortByDist (d := d) (s := s) (q := q) (ok := ok) (hs := hs) (hsc := hsc) (ws := ws) (rs := rs) (pm := pm)) ?_
  intro H4 ok2 hp3
  obtain ⟨f, ef, pf, sf0⟩ := hp3
  subst ef
  have sf : Srt (H.1 105) f (q 1).toNat := sf0
  have hD : ∀ d : Nat, (d : Int) < q 1 → H.1 105 d = N d := fun d hd => (rd.1 d hd).1
  refine x_aload_n (pc := 4) dX4_moveCars_4 (List.Mem.head _) ?_
  refine z_getR (pc := 5) (k := 9) (r := 110) dX4_moveCars_5 lf_X4_39 sh_104 rfl rf_104_9 ?_
  refine z_iconst (pc := 8) dX4_moveCars_8 ?_
  refine z_callSvp (pc := 9) (i := mJ7_fill_53178) (S := []) [.ref 110, .int (zN (0))] dX4_moveCars_9 ml_X4_167 ok_J7_fill_53178 rfl rfl (Nat.le_of_ble_eq_true rfl) (c_J7_fill_53178 (d := d + 1) (c := 110) (n := 4) (hn := (by omega)) (v := 0) (v1 := (by omega)) (v2 := (by omega)) (ok := ok2) (sh := sh_110)) (fun ok6 => ?_)
  refine x_aload_n (pc := 12) dX4_moveCars_12 (List.Mem.head _) ?_
  refine z_iconst (pc := 13) dX4_moveCars_13 ?_
  refine z_putI (pc := 14) (k := 18) dX4_moveCars_14 lp_X4_173 sh_104 rfl ?_
  have ok7 := okI ok6 104 18 (v := (-1)) (by decide) (by decide)
  refine z_iconst (pc := 17) dX4_moveCars_17 ?_
  refine x_istore_n (pc := 18) dX4_moveCars_18 (Nat.le_of_ble_eq_true rfl) ?_
  show Ev _ _ _ _ _ [(1, .int (zN (0))), (0, .ref 104)] _ _
  have lp19 : ∀ (nF : Nat) (i : Nat) (G : Nat → Bool) (Hm : ZH), okZ Hm → ((i : Int) ≤ q 1) → (CkI H Hm q N f G) → (∀ d : Nat, (d : Int) < q 1 → (G d = true ↔ 0 < N d ∧ ∃ j, j < i ∧ f j = (d : Int))) → (q 1).toNat - i < nF → Ev zX mX4_moveCars (EvC zX (d + 2)) (zPv (fun (H1 : ZH) => MvP H H1 q N)) 19 [(0, .ref 104), (1, .int (zN ((i : Int))))] [] (eh Hm) := by
    intro nF
    induction nF with
    | zero => intro i G Hm okl19 hi ci gi hm; exact absurd hm (Nat.not_lt_zero _)
    | succ nF ih19 =>
      intro i G Hm okl19 hi ci gi hm
      have hsm : Hm.1 104 1 = (s : Int) := (ci.2.1 1 (by omega)).trans hsc
      have es : ∀ cc, s ≤ cc → cc ≤ s + 4 → Hm.1 cc = H.1 cc := fun cc a b => ci.1 cc (by omega) (by omega) (by omega) (by omega) (by omega) (by omega)
      have mv := ci.2.2.2.2.1
      refine x_iload_n (pc := 19) dX4_moveCars_19 (List.Mem.tail _ (List.Mem.head _)) ?_
      refine x_aload_n (pc := 20) dX4_moveCars_20 (List.Mem.head _) ?_
      refine z_getY (pc := 21) (k := 1) (r := s) dX4_moveCars_21 lf_X4_42 sh_104 rfl (by rw [hsm]) (by omega) ?_
      refine z_getI (pc := 24) (k := 1) (v := (q 1)) dX4_moveCars_24 lf_X4_56 (sh_Sc0 hs) rfl (by rw [es s (by omega) (by omega)]; exact rs1) ?_
      refine z_icmp_ge (pc := 27) (tgt := 57) dX4_moveCars_27 (by decide) (by omega) (by omega) (by omega) (by omega) (fun hb8 => ?_) (fun hb8 => ?_)
      · skip
        refine z_vreturn (pc := 57) dX4_moveCars_57 rfl okl19 ?_
        exact ck_end ci ws pf (by rw [show (q 1).toNat = i by omega]; exact gi) h0
      · skip
        have pi := pf.1 i (by omega)
        obtain ⟨gf, hkey⟩ := ck_key hD pf sf (by omega) gi
        have dki : Hm.1 105 (f i).toNat = N (f i).toNat := (mv.2.1 _ (by omega) gf).1
        have vci := wn.1 (f i).toNat (by omega)
        refine x_aload_n (pc := 30) dX4_moveCars_30 (List.Mem.head _) ?_
        refine z_getR (pc := 31) (k := 8) (r := 109) dX4_moveCars_31 lf_X4_36 sh_104 rfl rf_104_8 ?_
        refine x_iload_n (pc := 34) dX4_moveCars_34 (List.Mem.tail _ (List.Mem.head _)) ?_
        refine z_iald (pc := 35) (j := i) (v := (f i)) dX4_moveCars_35 sh_109 rfl (by omega) (by decide) (congrFun ci.2.2.2.1 i) ?_
        refine x_istore_n (pc := 36) dX4_moveCars_36 (Nat.le_of_ble_eq_true rfl) ?_
        show Ev _ _ _ _ _ [(2, .int (zN (((f i))))), (0, .ref 104), (1, .int (zN ((i : Int))))] _ _
        refine x_aload_n (pc := 37) dX4_moveCars_37 (List.Mem.tail _ (List.Mem.head _)) ?_
        refine z_getR (pc := 38) (k := 4) (r := 105) dX4_moveCars_38 lf_X4_22 sh_104 rfl rf_104_4 ?_
        refine x_iload_n (pc := 41) dX4_moveCars_41 (List.Mem.head _) ?_
        refine z_iald (pc := 42) (j := (f i).toNat) (v := (N (f i).toNat)) dX4_moveCars_42 sh_105 (by omega) (by omega) (by decide) dki ?_
        refine z_if_le (pc := 43) (tgt := 51) dX4_moveCars_43 (by decide) (by omega) (by omega) (fun hb9 => ?_) (fun hb9 => ?_)
        · skip
          have ci3 := ci
          have gi3 := gi_sk gi pi.1 hb9
          refine z_iinc (pc := 51) dX4_moveCars_51 (List.Mem.tail _ (List.Mem.tail _ (List.Mem.head _))) (Nat.le_of_ble_eq_true rfl) ?_
          show Ev _ _ _ _ _ [(1, .int (zN ((i : Int) + 1))), (2, .int (zN (((f i))))), (0, .ref 104)] _ _
          refine x_goto (pc := 54) (tgt := 19) dX4_moveCars_54 (by decide) ?_
          refine x_weaken (L1 := [(0, .ref 104), (1, .int (zN ((((i + 1) : Nat) : Int))))]) (List.forall_mem_cons.mpr ⟨(List.Mem.tail _ (List.Mem.tail _ (List.Mem.head _))), (List.forall_mem_cons.mpr ⟨(mem_ci (by omega) (List.Mem.head _)), (fun _ h => absurd h List.not_mem_nil)⟩)⟩) ?_
          exact ih19 ((i + 1)) (G) Hm okl19 (by omega) (ci3) (gi3) (by omega)
        · skip
          refine x_aload_n (pc := 46) dX4_moveCars_46 (List.Mem.tail _ (List.Mem.head _)) ?_
          refine x_iload_n (pc := 47) dX4_moveCars_47 (List.Mem.head _) ?_
          refine z_callVv (pc := 48) (i := mX4_moveCar) (S := []) [.int (zN (((f i))))] dX4_moveCars_48 ml_X4_176 ok_X4_moveCar rfl sh_104 rfl rfl (Nat.le_of_ble_eq_true rfl) (by have qz := c_X4_moveCar (d := d + 1) (s := s) (q := q) (N := N) (c := ((f i).toNat)) (w := (Hm.1 110 (q (2 + (f i).toNat)).toNat)) (hc := (show (((f i).toNat : Nat) : Int) < q 1 by omega)) (ok := okl19) (hs := hs) (hsc := hsm) (ws := ws) (rs := (RepSc_e es rs)) (wn := wn) (hD := dki) (hS := (mv.2.1 _ (by omega) gf).2.1) (hM := (by rw [ci.1 107 (by omega) (by omega) (by omega) (by omega) (by omega) (by omega)]; exact (rd.1 _ (by omega)).2.2.1)) (h10 := ((ci.2.1 10 (by omega)).trans rd.2.1)) (h11 := ((ci.2.1 11 (by omega)).trans rd.2.2.1)) (hp := (by omega)) (hw := rfl) (hwb := (by rw [ci.2.2.2.2.2 _ (by have := wsC (f i).toNat (by omega); omega)]; exact wlG_bd (fun c hc g => ⟨((gi c hc).mp g).1, (wn.1 c hc).1.2, (wn.1 c hc).2.1⟩))); rw [show (((f i).toNat : Nat) : Int) = ((f i)) by omega] at qz; exact qz) ?_
          intro H3 ok11 hp12
          have ec : (((f i).toNat : Nat) : Int) = f i := by omega
          have ci2 := ck_step ci ws wn (c := (f i).toNat) (w := Hm.1 110 (q (2 + (f i).toNat)).toNat) (by omega) gf (by omega) (fun d hd _ => hkey d hd) rfl
          rw [ec] at ci2
          have ci3 : CkI H H3 q N f (Gup G (f i).toNat) := by rw [hp12]; exact ci2
          have gi3 := gi_up gi pi.1 (by omega)
          refine z_iinc (pc := 51) dX4_moveCars_51 (List.Mem.tail _ (List.Mem.tail _ (List.Mem.head _))) (Nat.le_of_ble_eq_true rfl) ?_
          show Ev _ _ _ _ _ [(1, .int (zN ((i : Int) + 1))), (2, .int (zN (((f i))))), (0, .ref 104)] _ _
          refine x_goto (pc := 54) (tgt := 19) dX4_moveCars_54 (by decide) ?_
          refine x_weaken (L1 := [(0, .ref 104), (1, .int (zN ((((i + 1) : Nat) : Int))))]) (List.forall_mem_cons.mpr ⟨(List.Mem.tail _ (List.Mem.tail _ (List.Mem.head _))), (List.forall_mem_cons.mpr ⟨(mem_ci (by omega) (List.Mem.head _)), (fun _ h => absurd h List.not_mem_nil)⟩)⟩) ?_
          exact ih19 ((i + 1)) ((Gup G (f i).toNat)) H3 ok11 (by omega) (ci3) (gi3) (by omega)
  refine x_weaken (L1 := [(0, .ref 104), (1, .int (zN (((0 : Nat) : Int))))]) (List.forall_mem_cons.mpr ⟨(List.Mem.tail _ (List.Mem.head _)), (List.forall_mem_cons.mpr ⟨(mem_ci (by omega) (List.Mem.head _)), (fun _ h => absurd h List.not_mem_nil)⟩)⟩) ?_
  exact lp19 ((q 1).toNat - 0 + 1) (0) (fun _ => false) (wI (wA (wA H 109 (f)) 110 (fun k => if k < 4 then 0 else (wA H 109 (f)).1 110 k)) 104 18 ((-1))) ok7 (by omega) (ck_0 rd) (fun d hd => ⟨fun z => Bool.noConfusion z, fun z => absurd z.2 (fun ⟨j, hj, _⟩ => absurd hj (Nat.not_lt_zero _))⟩) (Nat.lt_succ_self _)

theorem c_X4_goOver {d : Nat} {H : ZH} (ok : okZ H) {s : Nat} {q M : Nat → Int} (hs : isSc s) (hsc : H.1 104 1 = (s : Int)) (ws : WFS q) (rs : RepSc H s q) (wm : WFN q M) (fd : FldR H M) (hS : ∀ c : Nat, (c : Int) < q 1 → H.1 106 c = mvN q M (8 + c)) (hk : H.1 104 18 = knF q M) (hl : M 33 = 1 → M 32 < q 0) : EvC zX (d + 2) mX4_goOver [.ref 104] (eh H) (zPv (fun (H1 : ZH) => FldR H1 (tk2 q M) ∧ Fr4 H H1)) := by
  show _ ∧ Ev zX mX4_goOver (EvC zX (d + 1)) (zPv (fun (H1 : ZH) => FldR H1 (tk2 q M) ∧ Fr4 H H1)) 0 [(0, .ref 104)] [] (eh H)
  refine ⟨Nat.le_of_ble_eq_true rfl, ?_⟩
  have hsr := isSc_r hs
  have wsx := ws
  obtain ⟨ws0, ws1, wsC, ws34, ws35, ws36, ws37, ws38, ws39⟩ := wsx
  have rsx := rs
  obtain ⟨rs0, rs1, rsC, rs34, rs35, rs36, rs37, rs38, rs39⟩ := rsx
  have wmx := wm
  obtain ⟨wmC, wm32, wm33, wm34, wm35, wm36, wm37, wm38, wm39⟩ := wmx
  have fdx := fd
  obtain ⟨f10, f11, f12, f13, f14, f15, f16, f17⟩ := fdx
  have kin := knF_in (q := q) (N := M)
  have ph : ∀ j, 32 ≤ j → mvN q M j = M j := fun j hj => mvN_hi ws1.2 hj
  have mb : ∀ c : Nat, (c : Int) < q 1 → 0 ≤ mvN q M (8 + c) ∧ mvN q M (8 + c) ≤ 9 := fun c hc => by
    have b := (wm.1 c hc).2.1
    have b2 := nsp_bd (c := c) b
    rw [mvN_8 ws1.2 hc]
    split
    · exact b2
    · exact b
  have pp32 := ph 32 (by omega)
  have pp33 := ph 33 (by omega)
  have pp34 := ph 34 (by omega)
  have kb := lea_bd (fun c => decide (0 < M c) && hitB q M c) (q 1).toNat
  have kb2 : -1 ≤ knF q M ∧ knF q M ≤ ((q 1).toNat : Int) - 1 := kb
  refine x_aload_n (pc := 0) dX4_goOver_0 (List.Mem.head _) ?_
  refine z_getI (pc := 1) (k := 11) (v := (M 33)) dX4_goOver_1 lf_X4_64 sh_104 rfl (by rw [f11]) ?_
  refine z_if_ne (pc := 4) (tgt := 8) dX4_goOver_4 (by decide) (by omega) (by omega) (fun hb1 => ?_) (fun hb1 => ?_)
  · skip
    refine x_aload_n (pc := 8) dX4_goOver_8 (List.Mem.head _) ?_
    refine z_getY (pc := 9) (k := 1) (r := s) dX4_goOver_9 lf_X4_42 sh_104 rfl (by rw [hsc]) (by omega) ?_
    refine z_iconst (pc := 12) dX4_goOver_12 ?_
    refine z_callVbp (pc := 13) (i := mX6_hasTrait) (S := []) [.int (zN (0))] dX4_goOver_13 ml_X4_50 ok_X6_hasTrait rfl (sh_Sc0 hs) rfl (Or.inr rfl) (Nat.le_of_ble_eq_true rfl) (c_X6_hasTrait (d := d) (s := s) (q := q) (k := 0) (hk := (by omega)) (ok := ok) (hs := hs) (ws := (by first | assumption | omega)) (rs := (by first | assumption | omega))) (fun hc4 ok3 => ?_) (fun hc4 ok3 => ?_)
    · skip
      have hn : ned q = 2 := if_pos hc4
      refine x_istore_n (pc := 16) dX4_goOver_16 (Nat.le_of_ble_eq_true rfl) ?_
      show Ev _ _ _ _ _ [(1, .int (zN (1))), (0, .ref 104)] _ _
      refine x_aload_n (pc := 17) dX4_goOver_17 (List.Mem.tail _ (List.Mem.head _)) ?_
      refine z_getI (pc := 18) (k := 18) (v := (knF q M)) dX4_goOver_18 lf_X4_173 sh_104 rfl (by rw [hk]) ?_
      refine z_iconst (pc := 21) dX4_goOver_21 ?_
      refine z_icmp_eq (pc := 22) (tgt := 72) dX4_goOver_22 (by decide) (by omega) (by omega) (by decide) (by decide) (fun hb5 => ?_) (fun hb5 => ?_)
      · skip
        refine x_aload_n (pc := 72) dX4_goOver_72 (List.Mem.tail _ (List.Mem.head _)) ?_
        refine x_dup (pc := 73) dX4_goOver_73 rfl ?_
        refine z_getI (pc := 74) (k := 12) (v := (M 34)) dX4_goOver_74 lf_X4_68 sh_104 rfl (by rw [f12]) ?_
        refine z_iconst (pc := 77) dX4_goOver_77 ?_
        refine z_iadd (pc := 78) dX4_goOver_78 ?_
        refine z_putI (pc := 79) (k := 12) dX4_goOver_79 lp_X4_68 sh_104 rfl ?_
        have ok6 := okI ok3 104 12 (v := (((M 34)) + 1)) (by omega) (by omega)
        refine x_aload_n (pc := 82) dX4_goOver_82 (List.Mem.tail _ (List.Mem.head _)) ?_
        refine z_getI (pc := 83) (k := 12) (v := (((M 34)) + 1)) dX4_goOver_83 lf_X4_68 sh_104 rfl (by rw [wI1]) ?_
        refine x_iload_n (pc := 86) dX4_goOver_86 (List.Mem.head _) ?_
        refine z_if_eq (pc := 87) (tgt := 94) dX4_goOver_87 (by decide) (by decide) (by decide) (fun h => absurd h (by decide)) (fun _ => ?_)
        refine z_iconst (pc := 90) dX4_goOver_90 ?_
        refine x_goto (pc := 91) (tgt := 95) dX4_goOver_91 (by decide) ?_
        refine z_icmp_lt (pc := 95) (tgt := 136) dX4_goOver_95 (by decide) (by omega) (by omega) (by decide) (by decide) (fun hb8 => ?_) (fun hb8 => ?_)
        · skip
          refine z_vreturn (pc := 136) dX4_goOver_136 rfl ok6 ?_
          have hQ := tk2_i (A := q) (M := M) (by omega) (by omega) (by omega)
          rw [← hQ]
          refine ⟨⟨?_, ?_, ?_, ?_, ?_, ?_, ?_, ?_⟩, ?_⟩
          · show _ = _
            rw [wI1k (by omega)]
            exact f10.trans (ph 32 (by omega)).symm
          · show _ = _
            rw [wI1k (by omega)]
            exact f11.trans (ph 33 (by omega)).symm
          · show _ = _
            rw [wI1]
            first | rfl | (rw [pp32]; rfl) | (rw [pp33]; rfl) | (rw [pp34]; rfl) | (show M 32 + 1 = mvN q M 32 + 1; rw [pp32]) | (show M 34 + 1 = mvN q M 34 + 1; rw [pp34])
          · show _ = _
            rw [wI1k (by omega)]
            exact f13.trans (ph 35 (by omega)).symm
          · show _ = _
            rw [wI1k (by omega)]
            exact f14.trans (ph 36 (by omega)).symm
          · show _ = _
            rw [wI1k (by omega)]
            exact f15.trans (ph 37 (by omega)).symm
          · show _ = _
            rw [wI1k (by omega)]
            exact f16.trans (ph 38 (by omega)).symm
          · show _ = _
            rw [wI1k (by omega)]
            exact f17.trans (ph 39 (by omega)).symm
          · repeat' first | exact Fr4_0 _ | refine Fr4_I ?_ (by omega)
        · skip
          refine x_aload_n (pc := 98) dX4_goOver_98 (List.Mem.tail _ (List.Mem.head _)) ?_
          refine z_iconst (pc := 99) dX4_goOver_99 ?_
          refine z_putZ (pc := 100) (k := 11) dX4_goOver_100 lp_X4_64 sh_104 rfl (by omega) ?_
          have ok9 := okI ok6 104 11 (v := 0) (by decide) (by decide)
          refine x_aload_n (pc := 103) dX4_goOver_103 (List.Mem.tail _ (List.Mem.head _)) ?_
          refine x_dup (pc := 104) dX4_goOver_104 rfl ?_
          refine z_getI (pc := 105) (k := 10) (v := (M 32)) dX4_goOver_105 lf_X4_61 sh_104 rfl (by rw [wI1k (by omega), wI1k (by omega), f10]) ?_
          refine z_iconst (pc := 108) dX4_goOver_108 ?_
          refine z_iadd (pc := 109) dX4_goOver_109 ?_
          refine z_putI (pc := 110) (k := 10) dX4_goOver_110 lp_X4_61 sh_104 rfl ?_
          have ok10 := okI ok9 104 10 (v := (((M 32)) + 1)) (by omega) (by omega)
          refine x_aload_n (pc := 113) dX4_goOver_113 (List.Mem.tail _ (List.Mem.head _)) ?_
          refine x_aload_n (pc := 114) dX4_goOver_114 (List.Mem.tail _ (List.Mem.head _)) ?_
          refine z_getI (pc := 115) (k := 10) (v := (((M 32)) + 1)) dX4_goOver_115 lf_X4_61 sh_104 rfl (by rw [wI1]) ?_
          refine x_aload_n (pc := 118) dX4_goOver_118 (List.Mem.tail _ (List.Mem.head _)) ?_
          refine z_getY (pc := 119) (k := 1) (r := s) dX4_goOver_119 lf_X4_42 sh_104 rfl (by rw [wI1k (by omega), wI1k (by omega), wI1k (by omega), hsc]) (by omega) ?_
          refine z_getI (pc := 122) (k := 0) (v := (q 0)) dX4_goOver_122 lf_X4_191 (sh_Sc0 hs) rfl (by rw [wI1c (by omega), wI1c (by omega), wI1c (by omega), rs0]) ?_
          refine z_icmp_lt (pc := 125) (tgt := 132) dX4_goOver_125 (by decide) (by omega) (by omega) (by omega) (by omega) (fun hb11 => ?_) (fun hb11 => ?_)
          · skip
            refine z_iconst (pc := 132) dX4_goOver_132 ?_
            refine z_putI (pc := 133) (k := 15) dX4_goOver_133 lp_X4_77 sh_104 rfl ?_
            have ok12 := okI ok10 104 15 (v := 0) (by decide) (by decide)
            refine z_vreturn (pc := 136) dX4_goOver_136 rfl ok12 ?_
            have hQ := tk2_o (A := q) (M := M) (X := 0) (by omega) (by omega) (by omega) (by first | exact (if_pos (by have := hl (by omega); omega)).symm | exact (if_neg (by have := hl (by omega); omega)).symm)
            rw [← hQ]
            refine ⟨⟨?_, ?_, ?_, ?_, ?_, ?_, ?_, ?_⟩, ?_⟩
            · show _ = _
              rw [wI1k (by omega), wI1]
              first | rfl | (rw [pp32]; rfl) | (rw [pp33]; rfl) | (rw [pp34]; rfl) | (show M 32 + 1 = mvN q M 32 + 1; rw [pp32]) | (show M 34 + 1 = mvN q M 34 + 1; rw [pp34])
            · show _ = _
              rw [wI1k (by omega), wI1k (by omega), wI1]
              first | rfl | (rw [pp32]; rfl) | (rw [pp33]; rfl) | (rw [pp34]; rfl) | (show M 32 + 1 = mvN q M 32 + 1; rw [pp32]) | (show M 34 + 1 = mvN q M 34 + 1; rw [pp34])
            · show _ = _
              rw [wI1k (by omega), wI1k (by omega), wI1k (by omega), wI1]
              first | rfl | (rw [pp32]; rfl) | (rw [pp33]; rfl) | (rw [pp34]; rfl) | (show M 32 + 1 = mvN q M 32 + 1; rw [pp32]) | (show M 34 + 1 = mvN q M 34 + 1; rw [pp34])
            · show _ = _
              rw [wI1k (by omega), wI1k (by omega), wI1k (by omega), wI1k (by omega)]
              exact f13.trans (ph 35 (by omega)).symm
            · show _ = _
              rw [wI1k (by omega), wI1k (by omega), wI1k (by omega), wI1k (by omega)]
              exact f14.trans (ph 36 (by omega)).symm
            · show _ = _
              rw [wI1]
              first | rfl | (rw [pp32]; rfl) | (rw [pp33]; rfl) | (rw [pp34]; rfl) | (show M 32 + 1 = mvN q M 32 + 1; rw [pp32]) | (show M 34 + 1 = mvN q M 34 + 1; rw [pp34])
            · show _ = _
              rw [wI1k (by omega), wI1k (by omega), wI1k (by omega), wI1k (by omega)]
              exact f16.trans (ph 38 (by omega)).symm
            · show _ = _
              rw [wI1k (by omega), wI1k (by omega), wI1k (by omega), wI1k (by omega)]
              exact f17.trans (ph 39 (by omega)).symm
            · repeat' first | exact Fr4_0 _ | refine Fr4_I ?_ (by omega)
          · skip
            refine z_iconst (pc := 128) dX4_goOver_128 ?_
            refine x_goto (pc := 129) (tgt := 133) dX4_goOver_129 (by decide) ?_
            refine z_putI (pc := 133) (k := 15) dX4_goOver_133 lp_X4_77 sh_104 rfl ?_
            have ok13 := okI ok10 104 15 (v := 1) (by decide) (by decide)
            refine z_vreturn (pc := 136) dX4_goOver_136 rfl ok13 ?_
            have hQ := tk2_o (A := q) (M := M) (X := 1) (by omega) (by omega) (by omega) (by first | exact (if_pos (by have := hl (by omega); omega)).symm | exact (if_neg (by have := hl (by omega); omega)).symm)
            rw [← hQ]
            refine ⟨⟨?_, ?_, ?_, ?_, ?_, ?_, ?_, ?_⟩, ?_⟩
            · show _ = _
              rw [wI1k (by omega), wI1]
              first | rfl | (rw [pp32]; rfl) | (rw [pp33]; rfl) | (rw [pp34]; rfl) | (show M 32 + 1 = mvN q M 32 + 1; rw [pp32]) | (show M 34 + 1 = mvN q M 34 + 1; rw [pp34])
            · show _ = _
              rw [wI1k (by omega), wI1k (by omega), wI1]
              first | rfl | (rw [pp32]; rfl) | (rw [pp33]; rfl) | (rw [pp34]; rfl) | (show M 32 + 1 = mvN q M 32 + 1; rw [pp32]) | (show M 34 + 1 = mvN q M 34 + 1; rw [pp34])
            · show _ = _
              rw [wI1k (by omega), wI1k (by omega), wI1k (by omega), wI1]
              first | rfl | (rw [pp32]; rfl) | (rw [pp33]; rfl) | (rw [pp34]; rfl) | (show M 32 + 1 = mvN q M 32 + 1; rw [pp32]) | (show M 34 + 1 = mvN q M 34 + 1; rw [pp34])
            · show _ = _
              rw [wI1k (by omega), wI1k (by omega), wI1k (by omega), wI1k (by omega)]
              exact f13.trans (ph 35 (by omega)).symm
            · show _ = _
              rw [wI1k (by omega), wI1k (by omega), wI1k (by omega), wI1k (by omega)]
              exact f14.trans (ph 36 (by omega)).symm
            · show _ = _
              rw [wI1]
              first | rfl | (rw [pp32]; rfl) | (rw [pp33]; rfl) | (rw [pp34]; rfl) | (show M 32 + 1 = mvN q M 32 + 1; rw [pp32]) | (show M 34 + 1 = mvN q M 34 + 1; rw [pp34])
            · show _ = _
              rw [wI1k (by omega), wI1k (by omega), wI1k (by omega), wI1k (by omega)]
              exact f16.trans (ph 38 (by omega)).symm
            · show _ = _
              rw [wI1k (by omega), wI1k (by omega), wI1k (by omega), wI1k (by omega)]
              exact f17.trans (ph 39 (by omega)).symm
            · repeat' first | exact Fr4_0 _ | refine Fr4_I ?_ (by omega)
      · skip
        have kn := kin (by omega)
        have mk := mb (knF q M).toNat (by omega)
        have mm := nn2 (x := mvN q M (8 + (knF q M).toNat)) (y := mvN q M (8 + (knF q M).toNat)) (A := 9) (B := 9) mk.1 mk.2 mk.1 mk.2
        refine x_aload_n (pc := 25) dX4_goOver_25 (List.Mem.tail _ (List.Mem.head _)) ?_
        refine z_iconst (pc := 26) dX4_goOver_26 ?_
        refine z_putI (pc := 27) (k := 15) dX4_goOver_27 lp_X4_77 sh_104 rfl ?_
        have ok14 := okI ok3 104 15 (v := 2) (by decide) (by decide)
        refine x_aload_n (pc := 30) dX4_goOver_30 (List.Mem.tail _ (List.Mem.head _)) ?_
        refine x_aload_n (pc := 31) dX4_goOver_31 (List.Mem.tail _ (List.Mem.head _)) ?_
        refine z_getI (pc := 32) (k := 18) (v := (knF q M)) dX4_goOver_32 lf_X4_173 sh_104 rfl (by rw [wI1k (by omega), hk]) ?_
        refine z_putI (pc := 35) (k := 17) dX4_goOver_35 lp_X4_83 sh_104 rfl ?_
        have ok15 := okI ok14 104 17 (v := ((knF q M))) (by omega) (by omega)
        refine x_aload_n (pc := 38) dX4_goOver_38 (List.Mem.tail _ (List.Mem.head _)) ?_
        refine x_aload_n (pc := 39) dX4_goOver_39 (List.Mem.tail _ (List.Mem.head _)) ?_
        refine z_getR (pc := 40) (k := 5) (r := 106) dX4_goOver_40 lf_X4_26 sh_104 rfl rf_104_5 ?_
        refine x_aload_n (pc := 43) dX4_goOver_43 (List.Mem.tail _ (List.Mem.head _)) ?_
        refine z_getI (pc := 44) (k := 18) (v := (knF q M)) dX4_goOver_44 lf_X4_173 sh_104 rfl (by rw [wI1k (by omega), wI1k (by omega), hk]) ?_
        refine z_iald (pc := 47) (j := (knF q M).toNat) (v := (mvN q M (8 + (knF q M).toNat))) dX4_goOver_47 sh_106 (by omega) (by omega) (by decide) (by rw [wI1c (by omega), wI1c (by omega)]; exact hS _ (by omega)) ?_
        refine x_aload_n (pc := 48) dX4_goOver_48 (List.Mem.tail _ (List.Mem.head _)) ?_
        refine z_getR (pc := 49) (k := 5) (r := 106) dX4_goOver_49 lf_X4_26 sh_104 rfl rf_104_5 ?_
        refine x_aload_n (pc := 52) dX4_goOver_52 (List.Mem.tail _ (List.Mem.head _)) ?_
        refine z_getI (pc := 53) (k := 18) (v := (knF q M)) dX4_goOver_53 lf_X4_173 sh_104 rfl (by rw [wI1k (by omega), wI1k (by omega), hk]) ?_
        refine z_iald (pc := 56) (j := (knF q M).toNat) (v := (mvN q M (8 + (knF q M).toNat))) dX4_goOver_56 sh_106 (by omega) (by omega) (by decide) (by rw [wI1c (by omega), wI1c (by omega)]; exact hS _ (by omega)) ?_
        refine z_imul (pc := 57) dX4_goOver_57 ?_
        refine x_iload_n (pc := 58) dX4_goOver_58 (List.Mem.head _) ?_
        refine z_if_eq (pc := 59) (tgt := 66) dX4_goOver_59 (by decide) (by decide) (by decide) (fun h => absurd h (by decide)) (fun _ => ?_)
        refine z_iconst (pc := 62) dX4_goOver_62 ?_
        refine x_goto (pc := 63) (tgt := 67) dX4_goOver_63 (by decide) ?_
        refine z_imul (pc := 67) dX4_goOver_67 ?_
        refine z_putI (pc := 68) (k := 16) dX4_goOver_68 lp_X4_80 sh_104 rfl ?_
        have ok17 := okI ok15 104 16 (v := ((((mvN q M (8 + (knF q M).toNat))) * ((mvN q M (8 + (knF q M).toNat)))) * 2)) (by omega) (by omega)
        refine z_vreturn (pc := 71) dX4_goOver_71 rfl ok17 ?_
        have hQ := tk2_k (A := q) (M := M) (X := ((((mvN q M (8 + (knF q M).toNat))) * ((mvN q M (8 + (knF q M).toNat)))) * 2)) (by omega) (by rw [hn])
        rw [← hQ]
        refine ⟨⟨?_, ?_, ?_, ?_, ?_, ?_, ?_, ?_⟩, ?_⟩
        · show _ = _
          rw [wI1k (by omega), wI1k (by omega), wI1k (by omega)]
          exact f10.trans (ph 32 (by omega)).symm
        · show _ = _
          rw [wI1k (by omega), wI1k (by omega), wI1k (by omega)]
          exact f11.trans (ph 33 (by omega)).symm
        · show _ = _
          rw [wI1k (by omega), wI1k (by omega), wI1k (by omega)]
          exact f12.trans (ph 34 (by omega)).symm
        · show _ = _
          rw [wI1k (by omega), wI1k (by omega), wI1k (by omega)]
          exact f13.trans (ph 35 (by omega)).symm
        · show _ = _
          rw [wI1k (by omega), wI1k (by omega), wI1k (by omega)]
          exact f14.trans (ph 36 (by omega)).symm
        · show _ = _
          rw [wI1k (by omega), wI1k (by omega), wI1]
          first | rfl | (rw [pp32]; rfl) | (rw [pp33]; rfl) | (rw [pp34]; rfl) | (show M 32 + 1 = mvN q M 32 + 1; rw [pp32]) | (show M 34 + 1 = mvN q M 34 + 1; rw [pp34])
        · show _ = _
          rw [wI1]
          first | rfl | (rw [pp32]; rfl) | (rw [pp33]; rfl) | (rw [pp34]; rfl) | (show M 32 + 1 = mvN q M 32 + 1; rw [pp32]) | (show M 34 + 1 = mvN q M 34 + 1; rw [pp34])
        · show _ = _
          rw [wI1k (by omega), wI1]
          first | rfl | (rw [pp32]; rfl) | (rw [pp33]; rfl) | (rw [pp34]; rfl) | (show M 32 + 1 = mvN q M 32 + 1; rw [pp32]) | (show M 34 + 1 = mvN q M 34 + 1; rw [pp34])
        · repeat' first | exact Fr4_0 _ | refine Fr4_I ?_ (by omega)
    · skip
      have hn : ned q = 1 := if_neg hc4
      refine x_istore_n (pc := 16) dX4_goOver_16 (Nat.le_of_ble_eq_true rfl) ?_
      show Ev _ _ _ _ _ [(1, .int (zN (0))), (0, .ref 104)] _ _
      refine x_aload_n (pc := 17) dX4_goOver_17 (List.Mem.tail _ (List.Mem.head _)) ?_
      refine z_getI (pc := 18) (k := 18) (v := (knF q M)) dX4_goOver_18 lf_X4_173 sh_104 rfl (by rw [hk]) ?_
      refine z_iconst (pc := 21) dX4_goOver_21 ?_
      refine z_icmp_eq (pc := 22) (tgt := 72) dX4_goOver_22 (by decide) (by omega) (by omega) (by decide) (by decide) (fun hb18 => ?_) (fun hb18 => ?_)
      · skip
        refine x_aload_n (pc := 72) dX4_goOver_72 (List.Mem.tail _ (List.Mem.head _)) ?_
        refine x_dup (pc := 73) dX4_goOver_73 rfl ?_
        refine z_getI (pc := 74) (k := 12) (v := (M 34)) dX4_goOver_74 lf_X4_68 sh_104 rfl (by rw [f12]) ?_
        refine z_iconst (pc := 77) dX4_goOver_77 ?_
        refine z_iadd (pc := 78) dX4_goOver_78 ?_
        refine z_putI (pc := 79) (k := 12) dX4_goOver_79 lp_X4_68 sh_104 rfl ?_
        have ok19 := okI ok3 104 12 (v := (((M 34)) + 1)) (by omega) (by omega)
        refine x_aload_n (pc := 82) dX4_goOver_82 (List.Mem.tail _ (List.Mem.head _)) ?_
        refine z_getI (pc := 83) (k := 12) (v := (((M 34)) + 1)) dX4_goOver_83 lf_X4_68 sh_104 rfl (by rw [wI1]) ?_
        refine x_iload_n (pc := 86) dX4_goOver_86 (List.Mem.head _) ?_
        refine z_if_eq (pc := 87) (tgt := 94) dX4_goOver_87 (by decide) (by decide) (by decide) (fun _ => ?_) (fun h => absurd h (by decide))
        refine z_iconst (pc := 94) dX4_goOver_94 ?_
        refine z_icmp_lt (pc := 95) (tgt := 136) dX4_goOver_95 (by decide) (by omega) (by omega) (by decide) (by decide) (fun hb21 => ?_) (fun hb21 => ?_)
        · skip
          refine z_vreturn (pc := 136) dX4_goOver_136 rfl ok19 ?_
          have hQ := tk2_i (A := q) (M := M) (by omega) (by omega) (by omega)
          rw [← hQ]
          refine ⟨⟨?_, ?_, ?_, ?_, ?_, ?_, ?_, ?_⟩, ?_⟩
          · show _ = _
            rw [wI1k (by omega)]
            exact f10.trans (ph 32 (by omega)).symm
          · show _ = _
            rw [wI1k (by omega)]
            exact f11.trans (ph 33 (by omega)).symm
          · show _ = _
            rw [wI1]
            first | rfl | (rw [pp32]; rfl) | (rw [pp33]; rfl) | (rw [pp34]; rfl) | (show M 32 + 1 = mvN q M 32 + 1; rw [pp32]) | (show M 34 + 1 = mvN q M 34 + 1; rw [pp34])
          · show _ = _
            rw [wI1k (by omega)]
            exact f13.trans (ph 35 (by omega)).symm
          · show _ = _
            rw [wI1k (by omega)]
            exact f14.trans (ph 36 (by omega)).symm
          · show _ = _
            rw [wI1k (by omega)]
            exact f15.trans (ph 37 (by omega)).symm
          · show _ = _
            rw [wI1k (by omega)]
            exact f16.trans (ph 38 (by omega)).symm
          · show _ = _
            rw [wI1k (by omega)]
            exact f17.trans (ph 39 (by omega)).symm
          · repeat' first | exact Fr4_0 _ | refine Fr4_I ?_ (by omega)
        · skip
          refine x_aload_n (pc := 98) dX4_goOver_98 (List.Mem.tail _ (List.Mem.head _)) ?_
          refine z_iconst (pc := 99) dX4_goOver_99 ?_
          refine z_putZ (pc := 100) (k := 11) dX4_goOver_100 lp_X4_64 sh_104 rfl (by omega) ?_
          have ok22 := okI ok19 104 11 (v := 0) (by decide) (by decide)
          refine x_aload_n (pc := 103) dX4_goOver_103 (List.Mem.tail _ (List.Mem.head _)) ?_
          refine x_dup (pc := 104) dX4_goOver_104 rfl ?_
          refine z_getI (pc := 105) (k := 10) (v := (M 32)) dX4_goOver_105 lf_X4_61 sh_104 rfl (by rw [wI1k (by omega), wI1k (by omega), f10]) ?_
          refine z_iconst (pc := 108) dX4_goOver_108 ?_
          refine z_iadd (pc := 109) dX4_goOver_109 ?_
          refine z_putI (pc := 110) (k := 10) dX4_goOver_110 lp_X4_61 sh_104 rfl ?_
          have ok23 := okI ok22 104 10 (v := (((M 32)) + 1)) (by omega) (by omega)
          refine x_aload_n (pc := 113) dX4_goOver_113 (List.Mem.tail _ (List.Mem.head _)) ?_
          refine x_aload_n (pc := 114) dX4_goOver_114 (List.Mem.tail _ (List.Mem.head _)) ?_
          refine z_getI (pc := 115) (k := 10) (v := (((M 32)) + 1)) dX4_goOver_115 lf_X4_61 sh_104 rfl (by rw [wI1]) ?_
          refine x_aload_n (pc := 118) dX4_goOver_118 (List.Mem.tail _ (List.Mem.head _)) ?_
          refine z_getY (pc := 119) (k := 1) (r := s) dX4_goOver_119 lf_X4_42 sh_104 rfl (by rw [wI1k (by omega), wI1k (by omega), wI1k (by omega), hsc]) (by omega) ?_
          refine z_getI (pc := 122) (k := 0) (v := (q 0)) dX4_goOver_122 lf_X4_191 (sh_Sc0 hs) rfl (by rw [wI1c (by omega), wI1c (by omega), wI1c (by omega), rs0]) ?_
          refine z_icmp_lt (pc := 125) (tgt := 132) dX4_goOver_125 (by decide) (by omega) (by omega) (by omega) (by omega) (fun hb24 => ?_) (fun hb24 => ?_)
          · skip
            refine z_iconst (pc := 132) dX4_goOver_132 ?_
            refine z_putI (pc := 133) (k := 15) dX4_goOver_133 lp_X4_77 sh_104 rfl ?_
            have ok25 := okI ok23 104 15 (v := 0) (by decide) (by decide)
            refine z_vreturn (pc := 136) dX4_goOver_136 rfl ok25 ?_
            have hQ := tk2_o (A := q) (M := M) (X := 0) (by omega) (by omega) (by omega) (by first | exact (if_pos (by have := hl (by omega); omega)).symm | exact (if_neg (by have := hl (by omega); omega)).symm)
            rw [← hQ]
            refine ⟨⟨?_, ?_, ?_, ?_, ?_, ?_, ?_, ?_⟩, ?_⟩
            · show _ = _
              rw [wI1k (by omega), wI1]
              first | rfl | (rw [pp32]; rfl) | (rw [pp33]; rfl) | (rw [pp34]; rfl) | (show M 32 + 1 = mvN q M 32 + 1; rw [pp32]) | (show M 34 + 1 = mvN q M 34 + 1; rw [pp34])
            · show _ = _
              rw [wI1k (by omega), wI1k (by omega), wI1]
              first | rfl | (rw [pp32]; rfl) | (rw [pp33]; rfl) | (rw [pp34]; rfl) | (show M 32 + 1 = mvN q M 32 + 1; rw [pp32]) | (show M 34 + 1 = mvN q M 34 + 1; rw [pp34])
            · show _ = _
              rw [wI1k (by omega), wI1k (by omega), wI1k (by omega), wI1]
              first | rfl | (rw [pp32]; rfl) | (rw [pp33]; rfl) | (rw [pp34]; rfl) | (show M 32 + 1 = mvN q M 32 + 1; rw [pp32]) | (show M 34 + 1 = mvN q M 34 + 1; rw [pp34])
            · show _ = _
              rw [wI1k (by omega), wI1k (by omega), wI1k (by omega), wI1k (by omega)]
              exact f13.trans (ph 35 (by omega)).symm
            · show _ = _
              rw [wI1k (by omega), wI1k (by omega), wI1k (by omega), wI1k (by omega)]
              exact f14.trans (ph 36 (by omega)).symm
            · show _ = _
              rw [wI1]
              first | rfl | (rw [pp32]; rfl) | (rw [pp33]; rfl) | (rw [pp34]; rfl) | (show M 32 + 1 = mvN q M 32 + 1; rw [pp32]) | (show M 34 + 1 = mvN q M 34 + 1; rw [pp34])
            · show _ = _
              rw [wI1k (by omega), wI1k (by omega), wI1k (by omega), wI1k (by omega)]
              exact f16.trans (ph 38 (by omega)).symm
            · show _ = _
              rw [wI1k (by omega), wI1k (by omega), wI1k (by omega), wI1k (by omega)]
              exact f17.trans (ph 39 (by omega)).symm
            · repeat' first | exact Fr4_0 _ | refine Fr4_I ?_ (by omega)
          · skip
            refine z_iconst (pc := 128) dX4_goOver_128 ?_
            refine x_goto (pc := 129) (tgt := 133) dX4_goOver_129 (by decide) ?_
            refine z_putI (pc := 133) (k := 15) dX4_goOver_133 lp_X4_77 sh_104 rfl ?_
            have ok26 := okI ok23 104 15 (v := 1) (by decide) (by decide)
            refine z_vreturn (pc := 136) dX4_goOver_136 rfl ok26 ?_
            have hQ := tk2_o (A := q) (M := M) (X := 1) (by omega) (by omega) (by omega) (by first | exact (if_pos (by have := hl (by omega); omega)).symm | exact (if_neg (by have := hl (by omega); omega)).symm)
            rw [← hQ]
            refine ⟨⟨?_, ?_, ?_, ?_, ?_, ?_, ?_, ?_⟩, ?_⟩
            · show _ = _
              rw [wI1k (by omega), wI1]
              first | rfl | (rw [pp32]; rfl) | (rw [pp33]; rfl) | (rw [pp34]; rfl) | (show M 32 + 1 = mvN q M 32 + 1; rw [pp32]) | (show M 34 + 1 = mvN q M 34 + 1; rw [pp34])
            · show _ = _
              rw [wI1k (by omega), wI1k (by omega), wI1]
              first | rfl | (rw [pp32]; rfl) | (rw [pp33]; rfl) | (rw [pp34]; rfl) | (show M 32 + 1 = mvN q M 32 + 1; rw [pp32]) | (show M 34 + 1 = mvN q M 34 + 1; rw [pp34])
            · show _ = _
              rw [wI1k (by omega), wI1k (by omega), wI1k (by omega), wI1]
              first | rfl | (rw [pp32]; rfl) | (rw [pp33]; rfl) | (rw [pp34]; rfl) | (show M 32 + 1 = mvN q M 32 + 1; rw [pp32]) | (show M 34 + 1 = mvN q M 34 + 1; rw [pp34])
            · show _ = _
              rw [wI1k (by omega), wI1k (by omega), wI1k (by omega), wI1k (by omega)]
              exact f13.trans (ph 35 (by omega)).symm
            · show _ = _
              rw [wI1k (by omega), wI1k (by omega), wI1k (by omega), wI1k (by omega)]
              exact f14.trans (ph 36 (by omega)).symm
            · show _ = _
              rw [wI1]
              first | rfl | (rw [pp32]; rfl) | (rw [pp33]; rfl) | (rw [pp34]; rfl) | (show M 32 + 1 = mvN q M 32 + 1; rw [pp32]) | (show M 34 + 1 = mvN q M 34 + 1; rw [pp34])
            · show _ = _
              rw [wI1k (by omega), wI1k (by omega), wI1k (by omega), wI1k (by omega)]
              exact f16.trans (ph 38 (by omega)).symm
            · show _ = _
              rw [wI1k (by omega), wI1k (by omega), wI1k (by omega), wI1k (by omega)]
              exact f17.trans (ph 39 (by omega)).symm
            · repeat' first | exact Fr4_0 _ | refine Fr4_I ?_ (by omega)
      · skip
        have kn := kin (by omega)
        have mk := mb (knF q M).toNat (by omega)
        have mm := nn2 (x := mvN q M (8 + (knF q M).toNat)) (y := mvN q M (8 + (knF q M).toNat)) (A := 9) (B := 9) mk.1 mk.2 mk.1 mk.2
        refine x_aload_n (pc := 25) dX4_goOver_25 (List.Mem.tail _ (List.Mem.head _)) ?_
        refine z_iconst (pc := 26) dX4_goOver_26 ?_
        refine z_putI (pc := 27) (k := 15) dX4_goOver_27 lp_X4_77 sh_104 rfl ?_
        have ok27 := okI ok3 104 15 (v := 2) (by decide) (by decide)
        refine x_aload_n (pc := 30) dX4_goOver_30 (List.Mem.tail _ (List.Mem.head _)) ?_
        refine x_aload_n (pc := 31) dX4_goOver_31 (List.Mem.tail _ (List.Mem.head _)) ?_
        refine z_getI (pc := 32) (k := 18) (v := (knF q M)) dX4_goOver_32 lf_X4_173 sh_104 rfl (by rw [wI1k (by omega), hk]) ?_
        refine z_putI (pc := 35) (k := 17) dX4_goOver_35 lp_X4_83 sh_104 rfl ?_
        have ok28 := okI ok27 104 17 (v := ((knF q M))) (by omega) (by omega)
        refine x_aload_n (pc := 38) dX4_goOver_38 (List.Mem.tail _ (List.Mem.head _)) ?_
        refine x_aload_n (pc := 39) dX4_goOver_39 (List.Mem.tail _ (List.Mem.head _)) ?_
        refine z_getR (pc := 40) (k := 5) (r := 106) dX4_goOver_40 lf_X4_26 sh_104 rfl rf_104_5 ?_
        refine x_aload_n (pc := 43) dX4_goOver_43 (List.Mem.tail _ (List.Mem.head _)) ?_
        refine z_getI (pc := 44) (k := 18) (v := (knF q M)) dX4_goOver_44 lf_X4_173 sh_104 rfl (by rw [wI1k (by omega), wI1k (by omega), hk]) ?_
        refine z_iald (pc := 47) (j := (knF q M).toNat) (v := (mvN q M (8 + (knF q M).toNat))) dX4_goOver_47 sh_106 (by omega) (by omega) (by decide) (by rw [wI1c (by omega), wI1c (by omega)]; exact hS _ (by omega)) ?_
        refine x_aload_n (pc := 48) dX4_goOver_48 (List.Mem.tail _ (List.Mem.head _)) ?_
        refine z_getR (pc := 49) (k := 5) (r := 106) dX4_goOver_49 lf_X4_26 sh_104 rfl rf_104_5 ?_
        refine x_aload_n (pc := 52) dX4_goOver_52 (List.Mem.tail _ (List.Mem.head _)) ?_
        refine z_getI (pc := 53) (k := 18) (v := (knF q M)) dX4_goOver_53 lf_X4_173 sh_104 rfl (by rw [wI1k (by omega), wI1k (by omega), hk]) ?_
        refine z_iald (pc := 56) (j := (knF q M).toNat) (v := (mvN q M (8 + (knF q M).toNat))) dX4_goOver_56 sh_106 (by omega) (by omega) (by decide) (by rw [wI1c (by omega), wI1c (by omega)]; exact hS _ (by omega)) ?_
        refine z_imul (pc := 57) dX4_goOver_57 ?_
        refine x_iload_n (pc := 58) dX4_goOver_58 (List.Mem.head _) ?_
        refine z_if_eq (pc := 59) (tgt := 66) dX4_goOver_59 (by decide) (by decide) (by decide) (fun _ => ?_) (fun h => absurd h (by decide))
        refine z_iconst (pc := 66) dX4_goOver_66 ?_
        refine z_imul (pc := 67) dX4_goOver_67 ?_
        refine z_putI (pc := 68) (k := 16) dX4_goOver_68 lp_X4_80 sh_104 rfl ?_
        have ok30 := okI ok28 104 16 (v := ((((mvN q M (8 + (knF q M).toNat))) * ((mvN q M (8 + (knF q M).toNat)))) * 1)) (by omega) (by omega)
        refine z_vreturn (pc := 71) dX4_goOver_71 rfl ok30 ?_
        have hQ := tk2_k (A := q) (M := M) (X := ((((mvN q M (8 + (knF q M).toNat))) * ((mvN q M (8 + (knF q M).toNat)))) * 1)) (by omega) (by rw [hn])
        rw [← hQ]
        refine ⟨⟨?_, ?_, ?_, ?_, ?_, ?_, ?_, ?_⟩, ?_⟩
        · show _ = _
          rw [wI1k (by omega), wI1k (by omega), wI1k (by omega)]
          exact f10.trans (ph 32 (by omega)).symm
        · show _ = _
          rw [wI1k (by omega), wI1k (by omega), wI1k (by omega)]
          exact f11.trans (ph 33 (by omega)).symm
        · show _ = _
          rw [wI1k (by omega), wI1k (by omega), wI1k (by omega)]
          exact f12.trans (ph 34 (by omega)).symm
        · show _ = _
          rw [wI1k (by omega), wI1k (by omega), wI1k (by omega)]
          exact f13.trans (ph 35 (by omega)).symm
        · show _ = _
          rw [wI1k (by omega), wI1k (by omega), wI1k (by omega)]
          exact f14.trans (ph 36 (by omega)).symm
        · show _ = _
          rw [wI1k (by omega), wI1k (by omega), wI1]
          first | rfl | (rw [pp32]; rfl) | (rw [pp33]; rfl) | (rw [pp34]; rfl) | (show M 32 + 1 = mvN q M 32 + 1; rw [pp32]) | (show M 34 + 1 = mvN q M 34 + 1; rw [pp34])
        · show _ = _
          rw [wI1]
          first | rfl | (rw [pp32]; rfl) | (rw [pp33]; rfl) | (rw [pp34]; rfl) | (show M 32 + 1 = mvN q M 32 + 1; rw [pp32]) | (show M 34 + 1 = mvN q M 34 + 1; rw [pp34])
        · show _ = _
          rw [wI1k (by omega), wI1]
          first | rfl | (rw [pp32]; rfl) | (rw [pp33]; rfl) | (rw [pp34]; rfl) | (show M 32 + 1 = mvN q M 32 + 1; rw [pp32]) | (show M 34 + 1 = mvN q M 34 + 1; rw [pp34])
        · repeat' first | exact Fr4_0 _ | refine Fr4_I ?_ (by omega)
  · skip
    refine z_vreturn (pc := 7) dX4_goOver_7 rfl ok ?_
    have hno : knF q M = -1 := by rcases Int.decEq (knF q M) (-1) with z | z; exact absurd (kin z).1 (by omega); exact z
    have hQ := tk2_n (A := q) (M := M) hno (by omega)
    rw [← hQ]
    refine ⟨⟨?_, ?_, ?_, ?_, ?_, ?_, ?_, ?_⟩, ?_⟩
    · show _ = _
      exact f10.trans (ph 32 (by omega)).symm
    · show _ = _
      exact f11.trans (ph 33 (by omega)).symm
    · show _ = _
      exact f12.trans (ph 34 (by omega)).symm
    · show _ = _
      exact f13.trans (ph 35 (by omega)).symm
    · show _ = _
      exact f14.trans (ph 36 (by omega)).symm
    · show _ = _
      exact f15.trans (ph 37 (by omega)).symm
    · show _ = _
      exact f16.trans (ph 38 (by omega)).symm
    · show _ = _
      exact f17.trans (ph 39 (by omega)).symm
    · repeat' first | exact Fr4_0 _ | refine Fr4_I ?_ (by omega)
