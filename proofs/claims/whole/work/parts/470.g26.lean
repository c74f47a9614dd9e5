/-! GROUP G26: one tick of the class on a way. -/
theorem rnd_na {A M : Nat → Int} {wo : Int} {k : Nat} (e : M 41 = (k : Int)) (h : ask A M k = false) : rnd A wo M = false := by
  unfold rnd
  rw [e, Int.toNat_natCast, h]
  rfl
theorem rnd_ns {A M : Nat → Int} {wo : Int} {k : Nat} (e : M 41 = (k : Int)) (h : ¬ (0 < shr A M wo k ∧ shr A M wo k < 100)) : rnd A wo M = false := by
  unfold rnd
  rw [e, Int.toNat_natCast, decide_eq_false h, Bool.and_false]
theorem rnd_y {A M : Nat → Int} {wo : Int} {k : Nat} (e : M 41 = (k : Int)) (ha : ask A M k = true) (h : 0 < shr A M wo k ∧ shr A M wo k < 100) : rnd A wo M = true := by
  unfold rnd
  rw [e, Int.toNat_natCast, ha, decide_eq_true h]
  rfl
/-- a car's turn is over -/
def MwI (A N M : Nat → Int) (k : Nat) : Prop := M 41 = (k : Int) ∧ WFN A M ∧ WFX A M ∧ ∀ j, 32 ≤ j → j < 40 → M j = N j
theorem MwI_d {A N M : Nat → Int} {wo : Int} {k : Nat} (h8 : A 1 ≤ 8) (h : MwI A N M k) (hk : (k : Int) < A 1) : MwI A N (drw1 A wo M) (k + 1) := by
  obtain ⟨h1, h2, h3, h4⟩ := h
  obtain ⟨w, m, hi, e41, _⟩ := drw1_s (wo := wo) h8 (⟨h2, h3, by omega, by omega⟩ : WFT A M) (by omega)
  exact ⟨by rw [e41, h1]; omega, w.1, w.2.1, fun j a b => (hi j a b).trans (h4 j a b)⟩
theorem MwI_f {A N M : Nat → Int} {wo : Int} {k : Nat} {b : Bool} (h8 : A 1 ≤ 8) (h : MwI A N M k) (hk : (k : Int) < A 1) (h0 : M (16 + k) = 0) : MwI A N (drw1 A wo (frc M b)) (k + 1) := by
  obtain ⟨h1, h2, h3, h4⟩ := h
  obtain ⟨w, _, hi⟩ := frc_s h8 (⟨h2, h3, by omega, by omega⟩ : WFT A M) (by omega) (by rw [h1, Int.toNat_natCast]; exact h0) b
  exact MwI_d h8 ⟨by rw [hi 41 (by omega)]; exact h1, w.1, w.2.1, fun j a c => (hi j (by omega)).trans (h4 j a c)⟩ hk
theorem rd_107 {H H1 : ZH} {q M M1 : Nat → Int} {k : Nat} {v : Int} (ws1 : 0 ≤ q 1 ∧ q 1 ≤ 8) (hk : (k : Int) < q 1) (rd : RepRd H q M) (e : ∀ cc, cc ≠ 111 → cc ≠ 112 → H1.1 cc = H.1 cc) (ev : M1 (16 + k) = v) (eo : ∀ j, j < 40 → j ≠ 16 + k → M1 j = M j) : RepRd (wI H1 107 k v) q M1 := by
  obtain ⟨hC, a0, a1, a2, a3, a4, a5, a6, a7⟩ := rd
  have e104 := fun j => congrFun (e 104 (by omega) (by omega)) j
  refine ⟨fun c hc => ?_, ?_, ?_, ?_, ?_, ?_, ?_, ?_, ?_⟩
  · obtain ⟨c1, c2, c3, c4⟩ := hC c hc
    refine ⟨?_, ?_, ?_, ?_⟩
    · rw [wI1c (by omega), e 105 (by omega) (by omega), eo c (by omega) (by omega)]; exact c1
    · rw [wI1c (by omega), e 106 (by omega) (by omega), eo (8 + c) (by omega) (by omega)]; exact c2
    · rw [wIp]
      by_cases y : c = k
      · subst y
        rw [if_pos rfl, ev]
      · rw [if_neg y, e 107 (by omega) (by omega), eo (16 + c) (by omega) (by omega)]; exact c3
    · rw [wI1c (by omega), e 108 (by omega) (by omega), eo (24 + c) (by omega) (by omega)]; exact c4
  · rw [wI1c (by omega), e104, eo 32 (by omega) (by omega)]; exact a0
  · rw [wI1c (by omega), e104, eo 33 (by omega) (by omega)]; exact a1
  · rw [wI1c (by omega), e104, eo 34 (by omega) (by omega)]; exact a2
  · rw [wI1c (by omega), e104, eo 35 (by omega) (by omega)]; exact a3
  · rw [wI1c (by omega), e104, eo 36 (by omega) (by omega)]; exact a4
  · rw [wI1c (by omega), e104, eo 37 (by omega) (by omega)]; exact a5
  · rw [wI1c (by omega), e104, eo 38 (by omega) (by omega)]; exact a6
  · rw [wI1c (by omega), e104, eo 39 (by omega) (by omega)]; exact a7
/-- what a car's deciding makes of it all, on a way -/
def DecW (H H1 : ZH) (sh : Int) (c : Nat) : Prop := (sh = 0 ∧ H1 = wI H 107 c 1) ∨ (sh = 100 ∧ H1 = wI H 107 c 2) ∨ ((0 < sh ∧ sh < 100) ∧ ∃ b Hc, IsW H Hc sh b ∧ H1 = wI Hc 107 c (if b = true then 2 else 1))
theorem dw_step {Hm H3 : ZH} {q N M : Nat → Int} {wo : Int} {k : Nat} {X : (Nat → Int) × Int × List Bool} (ws1 : 0 ≤ q 1 ∧ q 1 ≤ 8) (ws0 : 1 ≤ q 0 ∧ q 0 ≤ 4) (wl : WFL q) (hM : MwI q N M k) (h37 : M 37 = 0) (hk : (k : Int) < q 1) (hA : ask q M k = true) (rd : RepRd Hm q M) (hch : ChS Hm q wo M X) (hd : DecW Hm H3 (shr q M wo k) k) : ∃ M2, MwI q N M2 (k + 1) ∧ DkF Hm H3 ∧ RepRd H3 q M2 ∧ ChS H3 q wo M2 X ∧ ∀ cc j, ¬ (cc = 111 ∧ j = 5) → H3.2 cc j = Hm.2 cc j := by
  have e41 := hM.1
  have a : ∀ j, j < 40 → j ≠ 16 + k → drw1 q wo M j = M j := fun j h1 h2 => drw1_at e41 h2 (by omega) (by omega)
  obtain ⟨z1, z2⟩ := drw1_ask (wo := wo) wl e41 (by omega) hA
  rcases hd with ⟨hs, e⟩ | ⟨hs, e⟩ | ⟨hs, b, Hc, iw, e⟩
  · have hr := rnd_ns (A := q) (wo := wo) e41 (by omega)
    subst e
    refine ⟨drw1 q wo M, MwI_d ws1.2 hM hk, fun cc h1 h2 h3 => wIf h1, rd_107 ws1 hk rd (fun _ _ _ => rfl) (by rw [z1]; unfold dvF; rw [if_pos hs]) a, ChS_cg (chs_d ws1.2 hch h37 (by omega) hr) (wIf (by omega)) (wIf (by omega)) rfl, fun _ _ _ => rfl⟩
  · have hr := rnd_ns (A := q) (wo := wo) e41 (by omega)
    subst e
    refine ⟨drw1 q wo M, MwI_d ws1.2 hM hk, fun cc h1 h2 h3 => wIf h1, rd_107 ws1 hk rd (fun _ _ _ => rfl) (by rw [z1]; unfold dvF; rw [if_neg (by omega), if_pos hs]) a, ChS_cg (chs_d ws1.2 hch h37 (by omega) hr) (wIf (by omega)) (wIf (by omega)) rfl, fun _ _ _ => rfl⟩
  · have hr := rnd_y (A := q) (wo := wo) e41 hA hs
    subst e
    have iw2 : IsW Hm Hc (shr q M wo (M 41).toNat) b := by rw [e41, Int.toNat_natCast]; exact iw
    have h0 := (rnd_t hr).1
    rw [e41, Int.toNat_natCast] at h0
    have f41 : frc M b 41 = (k : Int) := by rw [frc_at (by omega)]; exact e41
    have fat : ∀ j, j ≠ 16 + k → frc M b j = M j := fun j hj => frc_at (by omega)
    have f2 : drw1 q wo (frc M b) (16 + k) = (if b = true then 2 else 1) := by
      rw [drw1_no (k := k) f41 (by unfold ask; rw [show frc M b (16 + k) = if b = true then 2 else 1 from if_pos (by omega)]; exact decide_eq_false (by cases b <;> (intro z; have := z.1; simp at this))) (by omega)]
      exact if_pos (by omega)
    refine ⟨drw1 q wo (frc M b), MwI_f ws1.2 hM hk h0, fun cc h1 h2 h3 => (wIf h1).trans (iw.1 cc h2 h3), rd_107 ws1 hk rd iw.1 f2 (fun j h1 h2 => by rw [drw1_at f41 h2 (by omega) (by omega)]; exact fat j h2), ChS_cg (chs_r ws1 ws0 hch h37 (by omega) hr iw2) (wIf (by omega)) (wIf (by omega)) rfl, fun cc j h => iw.2.2.2.1 cc j h⟩
/-- what a choice needs -/
def ChB (H : ZH) : Prop := H.1 111 0 = 0 ∧ (0 ≤ H.1 111 4 ∧ H.1 111 4 ≤ H.1 111 3 ∧ H.1 111 3 ≤ 8) ∧ (∀ i : Nat, (i : Int) < H.1 111 3 → H.1 112 i = 0 ∨ H.1 112 i = 1) ∧ 1 ≤ H.2 111 5 ∧ H.2 111 5 ≤ 10000000000000000
theorem EncF_01 {h : Nat → Int} (l : List Bool) : ∀ k, EncF h k l → ∀ i, k ≤ i → i < k + l.length → h i = 0 ∨ h i = 1 := by
  induction l with
  | nil => intro k _ i a b; exact absurd b (by show ¬ i < k + 0; omega)
  | cons c l ih =>
    intro k e i a b
    have z : (c :: l).length = l.length + 1 := rfl
    by_cases q : i = k
    · subst q
      rw [e.1]
      cases c
      · exact Or.inl rfl
      · exact Or.inr rfl
    · exact ih (k + 1) e.2 i (by omega) (by omega)
theorem chs_b {H : ZH} {A M : Nat → Int} {wo : Int} {X : (Nat → Int) × Int × List Bool} (ws1 : 0 ≤ A 1 ∧ A 1 ≤ 8) (ws0 : 1 ≤ A 0 ∧ A 0 ≤ 4) (h : ChS H A wo M X) : ChB H ∧ H.1 111 4 + und A M ≤ A 1 := by
  obtain ⟨f, w, p, pre, a1, a2, a3, a4, a5, a6, a7, a8, a9, a10, a11, a12⟩ := h
  have hl := vlf_len ws1 ws0 f M p a1 a4
  have pb := p100_bd (n := pre.length) (by omega)
  refine ⟨⟨a5, by omega, fun i hi => EncF_01 (pre ++ p) 0 a8 i (Nat.zero_le _) (by rw [List.length_append]; omega), a11, by omega⟩, by omega⟩
theorem und_pos {q M : Nat → Int} {c : Nat} (hc : (c : Int) < q 1) (h : M (16 + c) = 0) : 1 ≤ und q M := by
  have z := cnF_up (G := fun c => decide (M (16 + c) ≠ 0)) (c := c) (n := (q 1).toNat) (by omega) (decide_eq_false (fun y => y h))
  unfold und
  omega
theorem wJg (H : ZH) (c k : Nat) (v : Int) (c' k' : Nat) : (wJ H c k v).2 c' k' = if c' = c ∧ k' = k then v else H.2 c' k' := rfl

theorem c_X0_isStop_w {d : Nat} {H : ZH} (ok : okZ H) {p : Int} (hp : 1 ≤ p ∧ p ≤ 99) (cb : ChB H) (c8 : H.1 111 4 < 8) : EvC zX (d + 1) mX0_isStop [.ref 111, .int (zN (p))] (eh H) (zPi (fun (r : Int) (H1 : ZH) => ∃ b : Bool, r = (if b = true then 1 else 0) ∧ IsW H H1 p b)) := by
  show _ ∧ Ev zX mX0_isStop (EvC zX d) (zPi (fun (r : Int) (H1 : ZH) => ∃ b : Bool, r = (if b = true then 1 else 0) ∧ IsW H H1 p b)) 0 [(0, .ref 111), (1, .int (zN (p)))] [] (eh H)
  refine ⟨Nat.le_of_ble_eq_true rfl, ?_⟩
  obtain ⟨hdr, hb3, hpb, hp1, hp2⟩ := cb
  have m1 := nn2 (x := H.2 111 5) (y := p) (A := 10000000000000000) (B := 99) (by omega) hp2 (by omega) (by omega)
  have m2 := nn2 (x := H.2 111 5) (y := 100 - p) (A := 10000000000000000) (B := 99) (by omega) hp2 (by omega) (by omega)
  refine x_aload_n (pc := 0) dX0_isStop_0 (List.Mem.head _) ?_
  refine z_getI (pc := 1) (k := 0) (v := 0) dX0_isStop_1 lf_X0_19 sh_111 rfl (by rw [hdr]) ?_
  refine z_if_eq (pc := 4) (tgt := 42) dX0_isStop_4 (by decide) (by decide) (by decide) (fun _ => ?_) (fun h => absurd h (by decide))
  refine x_aload_n (pc := 42) dX0_isStop_42 (List.Mem.head _) ?_
  have rd2 := ok.1 111 4
  refine z_getI (pc := 43) (k := 4) (v := H.1 111 4) dX0_isStop_43 lf_X0_30 sh_111 rfl rfl ?_
  refine z_bipush (pc := 46) dX0_isStop_46 bp_8 ?_
  refine z_icmp_lt (pc := 48) (tgt := 53) dX0_isStop_48 (by decide) (by omega) (by omega) (by decide) (by decide) (fun hb3 => ?_) (fun hb3 => ?_)
  · skip
    refine x_aload_n (pc := 53) dX0_isStop_53 (List.Mem.head _) ?_
    have rd4 := ok.1 111 4
    refine z_getI (pc := 54) (k := 4) (v := H.1 111 4) dX0_isStop_54 lf_X0_30 sh_111 rfl rfl ?_
    refine x_aload_n (pc := 57) dX0_isStop_57 (List.Mem.head _) ?_
    have rd5 := ok.1 111 3
    refine z_getI (pc := 58) (k := 3) (v := H.1 111 3) dX0_isStop_58 lf_X0_27 sh_111 rfl rfl ?_
    refine z_icmp_ne (pc := 61) (tgt := 84) dX0_isStop_61 (by decide) (by omega) (by omega) (by omega) (by omega) (fun hb6 => ?_) (fun hb6 => ?_)
    · skip
      have hlt : (H.1 111 4) < (H.1 111 3) := by omega
      have p01 := hpb (H.1 111 4).toNat (by omega)
      refine x_aload_n (pc := 84) dX0_isStop_84 (List.Mem.head _) ?_
      refine z_getR (pc := 85) (k := 2) (r := 112) dX0_isStop_85 lf_X0_9 sh_111 rfl rf_111_2 ?_
      refine x_aload_n (pc := 88) dX0_isStop_88 (List.Mem.head _) ?_
      have rd7 := ok.1 111 4
      refine z_getI (pc := 89) (k := 4) (v := H.1 111 4) dX0_isStop_89 lf_X0_30 sh_111 rfl rfl ?_
      refine z_zald (pc := 92) (j := (H.1 111 4).toNat) (v := (H.1 112 (H.1 111 4).toNat)) dX0_isStop_92 sh_112 (by omega) (by omega) (by decide) rfl ?_
      refine x_istore_n (pc := 93) dX0_isStop_93 (Nat.le_of_ble_eq_true rfl) ?_
      show Ev _ _ _ _ _ [(2, .int (zN (((H.1 112 (H.1 111 4).toNat))))), (0, .ref 111), (1, .int (zN (p)))] _ _
      refine x_aload_n (pc := 94) dX0_isStop_94 (List.Mem.tail _ (List.Mem.head _)) ?_
      refine x_dup (pc := 95) dX0_isStop_95 rfl ?_
      have rd8 := ok.1 111 4
      refine z_getI (pc := 96) (k := 4) (v := H.1 111 4) dX0_isStop_96 lf_X0_30 sh_111 rfl rfl ?_
      refine z_iconst (pc := 99) dX0_isStop_99 ?_
      refine z_iadd (pc := 100) dX0_isStop_100 ?_
      refine z_putI (pc := 101) (k := 4) dX0_isStop_101 lp_X0_30 sh_111 rfl ?_
      have ok9 := okI ok 111 4 (v := ((H.1 111 4) + 1)) (by omega) (by omega)
      refine x_aload_n (pc := 104) dX0_isStop_104 (List.Mem.tail _ (List.Mem.head _)) ?_
      refine x_dup (pc := 105) dX0_isStop_105 rfl ?_
      have rd10 := ok.2 111 5
      refine z_getJ (pc := 106) (k := 5) (v := H.2 111 5) dX0_isStop_106 lf_X0_15 sh_111 rfl (by rw [wI2]) ?_
      refine x_iload_n (pc := 109) dX0_isStop_109 (List.Mem.head _) ?_
      rcases p01 with pz | pz
      · skip
        rw [pz]
        refine z_if_eq (pc := 110) (tgt := 118) dX0_isStop_110 (by decide) (by decide) (by decide) (fun _ => ?_) (fun h => absurd h (by decide))
        refine z_bipush (pc := 118) dX0_isStop_118 bp_100 ?_
        refine x_iload_n (pc := 120) dX0_isStop_120 (List.Mem.tail _ (List.Mem.tail _ (List.Mem.head _))) ?_
        refine z_isub (pc := 121) dX0_isStop_121 ?_
        refine z_i2l (pc := 122) dX0_isStop_122 (by omega) (by omega) ?_
        refine z_lmul (pc := 123) dX0_isStop_123 ?_
        refine z_putJ (pc := 124) (k := 5) dX0_isStop_124 lp_X0_15 sh_111 rfl ?_
        have ok12 := okJ ok9 111 5 (v := ((H.2 111 5) * (100 - p))) (by omega) (by omega)
        refine x_iload_n (pc := 127) dX0_isStop_127 (List.Mem.head _) ?_
        refine z_ireturn (pc := 128) dX0_isStop_128 rfl (Or.inr ⟨rfl, by omega⟩) ok12 (by decide) (by decide) ?_
        refine ⟨false, rfl, ?_⟩
        refine ⟨fun cc a b => funext (fun j => ?_), fun k a b => ?_, ?_, fun cc k a => ?_, ?_, ?_⟩
        · (repeat first | rw [wJ2] | rw [wI1c (by omega)])
        · (repeat first | rw [wJ2] | rw [wI1c (by omega)] | rw [wI1k (by omega)])
        · (repeat first | rw [wJ2] | rw [wI1])
        · rw [wJg, if_neg a]; rfl
        · rw [wJ1]; first | rfl | (rw [show (p : Int) = p from rfl]; rfl)
        · refine Or.inr ⟨hlt, by rw [show H.1 112 (H.1 111 4).toNat = 0 by omega]; rfl, ?_, funext (fun j => ?_)⟩
          · (repeat first | rw [wJ2] | rw [wI1k (by omega)])
          · (repeat first | rw [wJ2] | rw [wI1c (by omega)])
      · skip
        rw [pz]
        refine z_if_eq (pc := 110) (tgt := 118) dX0_isStop_110 (by decide) (by decide) (by decide) (fun h => absurd h (by decide)) (fun _ => ?_)
        refine x_iload_n (pc := 113) dX0_isStop_113 (List.Mem.tail _ (List.Mem.tail _ (List.Mem.head _))) ?_
        refine z_i2l (pc := 114) dX0_isStop_114 (by omega) (by omega) ?_
        refine x_goto (pc := 115) (tgt := 123) dX0_isStop_115 (by decide) ?_
        refine z_lmul (pc := 123) dX0_isStop_123 ?_
        refine z_putJ (pc := 124) (k := 5) dX0_isStop_124 lp_X0_15 sh_111 rfl ?_
        have ok14 := okJ ok9 111 5 (v := ((H.2 111 5) * p)) (by omega) (by omega)
        refine x_iload_n (pc := 127) dX0_isStop_127 (List.Mem.head _) ?_
        refine z_ireturn (pc := 128) dX0_isStop_128 rfl (Or.inr ⟨rfl, by omega⟩) ok14 (by decide) (by decide) ?_
        refine ⟨true, rfl, ?_⟩
        refine ⟨fun cc a b => funext (fun j => ?_), fun k a b => ?_, ?_, fun cc k a => ?_, ?_, ?_⟩
        · (repeat first | rw [wJ2] | rw [wI1c (by omega)])
        · (repeat first | rw [wJ2] | rw [wI1c (by omega)] | rw [wI1k (by omega)])
        · (repeat first | rw [wJ2] | rw [wI1])
        · rw [wJg, if_neg a]; rfl
        · rw [wJ1]; first | rfl | (rw [show (p : Int) = p from rfl]; rfl)
        · refine Or.inr ⟨hlt, by rw [show H.1 112 (H.1 111 4).toNat = 1 by omega]; rfl, ?_, funext (fun j => ?_)⟩
          · (repeat first | rw [wJ2] | rw [wI1k (by omega)])
          · (repeat first | rw [wJ2] | rw [wI1c (by omega)])
    · skip
      refine x_aload_n (pc := 64) dX0_isStop_64 (List.Mem.head _) ?_
      refine z_getR (pc := 65) (k := 2) (r := 112) dX0_isStop_65 lf_X0_9 sh_111 rfl rf_111_2 ?_
      refine x_aload_n (pc := 68) dX0_isStop_68 (List.Mem.head _) ?_
      have rd15 := ok.1 111 3
      refine z_getI (pc := 69) (k := 3) (v := H.1 111 3) dX0_isStop_69 lf_X0_27 sh_111 rfl rfl ?_
      refine z_iconst (pc := 72) dX0_isStop_72 ?_
      refine z_zast (pc := 73) (j := (H.1 111 3).toNat) (v := 1) dX0_isStop_73 sh_112 (by omega) (by omega) (by decide) (by omega) ?_
      have ok16 := okI ok 112 ((H.1 111 3).toNat) (v := 1) (by decide) (by decide)
      refine x_aload_n (pc := 74) dX0_isStop_74 (List.Mem.head _) ?_
      refine x_dup (pc := 75) dX0_isStop_75 rfl ?_
      have rd17 := ok.1 111 3
      refine z_getI (pc := 76) (k := 3) (v := H.1 111 3) dX0_isStop_76 lf_X0_27 sh_111 rfl (by rw [wI1c (by omega)]) ?_
      refine z_iconst (pc := 79) dX0_isStop_79 ?_
      refine z_iadd (pc := 80) dX0_isStop_80 ?_
      refine z_putI (pc := 81) (k := 3) dX0_isStop_81 lp_X0_27 sh_111 rfl ?_
      have ok18 := okI ok16 111 3 (v := ((H.1 111 3) + 1)) (by omega) (by omega)
      refine x_aload_n (pc := 84) dX0_isStop_84 (List.Mem.head _) ?_
      refine z_getR (pc := 85) (k := 2) (r := 112) dX0_isStop_85 lf_X0_9 sh_111 rfl rf_111_2 ?_
      refine x_aload_n (pc := 88) dX0_isStop_88 (List.Mem.head _) ?_
      have rd19 := ok.1 111 4
      refine z_getI (pc := 89) (k := 4) (v := H.1 111 4) dX0_isStop_89 lf_X0_30 sh_111 rfl (by rw [wI1k (by omega), wI1c (by omega)]) ?_
      refine z_zald (pc := 92) (j := (H.1 111 4).toNat) (v := 1) dX0_isStop_92 sh_112 (by omega) (by omega) (by decide) (by rw [wI1c (by omega), show (H.1 111 4).toNat = (H.1 111 3).toNat by omega, wI1]) ?_
      refine x_istore_n (pc := 93) dX0_isStop_93 (Nat.le_of_ble_eq_true rfl) ?_
      show Ev _ _ _ _ _ [(2, .int (zN (1))), (0, .ref 111), (1, .int (zN (p)))] _ _
      refine x_aload_n (pc := 94) dX0_isStop_94 (List.Mem.tail _ (List.Mem.head _)) ?_
      refine x_dup (pc := 95) dX0_isStop_95 rfl ?_
      have rd20 := ok.1 111 4
      refine z_getI (pc := 96) (k := 4) (v := H.1 111 4) dX0_isStop_96 lf_X0_30 sh_111 rfl (by rw [wI1k (by omega), wI1c (by omega)]) ?_
      refine z_iconst (pc := 99) dX0_isStop_99 ?_
      refine z_iadd (pc := 100) dX0_isStop_100 ?_
      refine z_putI (pc := 101) (k := 4) dX0_isStop_101 lp_X0_30 sh_111 rfl ?_
      have ok21 := okI ok18 111 4 (v := ((H.1 111 4) + 1)) (by omega) (by omega)
      refine x_aload_n (pc := 104) dX0_isStop_104 (List.Mem.tail _ (List.Mem.head _)) ?_
      refine x_dup (pc := 105) dX0_isStop_105 rfl ?_
      have rd22 := ok.2 111 5
      refine z_getJ (pc := 106) (k := 5) (v := H.2 111 5) dX0_isStop_106 lf_X0_15 sh_111 rfl (by rw [wI2, wI2, wI2]) ?_
      refine x_iload_n (pc := 109) dX0_isStop_109 (List.Mem.head _) ?_
      refine z_if_eq (pc := 110) (tgt := 118) dX0_isStop_110 (by decide) (by decide) (by decide) (fun h => absurd h (by decide)) (fun _ => ?_)
      refine x_iload_n (pc := 113) dX0_isStop_113 (List.Mem.tail _ (List.Mem.tail _ (List.Mem.head _))) ?_
      refine z_i2l (pc := 114) dX0_isStop_114 (by omega) (by omega) ?_
      refine x_goto (pc := 115) (tgt := 123) dX0_isStop_115 (by decide) ?_
      refine z_lmul (pc := 123) dX0_isStop_123 ?_
      refine z_putJ (pc := 124) (k := 5) dX0_isStop_124 lp_X0_15 sh_111 rfl ?_
      have ok24 := okJ ok21 111 5 (v := ((H.2 111 5) * p)) (by omega) (by omega)
      refine x_iload_n (pc := 127) dX0_isStop_127 (List.Mem.head _) ?_
      refine z_ireturn (pc := 128) dX0_isStop_128 rfl (Or.inr ⟨rfl, by omega⟩) ok24 (by decide) (by decide) ?_
      refine ⟨true, rfl, ?_⟩
      refine ⟨fun cc a b => funext (fun j => ?_), fun k a b => ?_, ?_, fun cc k a => ?_, ?_, ?_⟩
      · (repeat first | rw [wJ2] | rw [wI1c (by omega)])
      · (repeat first | rw [wJ2] | rw [wI1c (by omega)] | rw [wI1k (by omega)])
      · (repeat first | rw [wJ2] | rw [wI1])
      · rw [wJg, if_neg a]; rfl
      · rw [wJ1]; first | rfl | (rw [show (p : Int) = p from rfl]; rfl)
      · refine Or.inl ⟨by omega, rfl, ?_, fun i => ?_⟩
        · (repeat first | rw [wJ2] | rw [wI1k (by omega)] | rw [wI1])
        · (repeat first | rw [wJ2] | rw [wI1c (by omega)]); rw [wIp]; exact if q : (i : Int) = (H.1 111 3) then (by rw [if_pos q, if_pos (by omega)]) else (by rw [if_neg q, if_neg (by omega)])
  · skip
    exact absurd hb3 (by omega)

theorem c_X4_decide_w {d : Nat} {H : ZH} (ok : okZ H) {s : Nat} {q N : Nat → Int} {c : Nat} (hc : (c : Int) < q 1) (hs : isSc s) (hsc : H.1 104 1 = (s : Int)) (ws : WFS q) (rs : RepSc H s q) (wn : WFN q N) (rd : RepRd H q N) (rl : RepLw H q) (wl : WFL q) (cb : ChB H) (c8 : H.1 111 4 < 8) : EvC zX (d + 4) mX4_decide [.ref 104, .int (zN ((c : Int)))] (eh H) (zPv (fun (H1 : ZH) => DecW H H1 (shr q N (H.1 104 3) c) c)) := by
  show _ ∧ Ev zX mX4_decide (EvC zX (d + 3)) (zPv (fun (H1 : ZH) => DecW H H1 (shr q N (H.1 104 3) c) c)) 0 [(0, .ref 104), (1, .int (zN ((c : Int))))] [] (eh H)
  refine ⟨Nat.le_of_ble_eq_true rfl, ?_⟩
  have hsr := isSc_r hs
  have wsx := ws
  obtain ⟨ws0, ws1, wsC, ws34, ws35, ws36, ws37, ws38, ws39⟩ := wsx
  have rsx := rs
  obtain ⟨rs0, rs1, rsC, rs34, rs35, rs36, rs37, rs38, rs39⟩ := rsx
  have wnx := wn
  obtain ⟨wnC, wn32, wn33, wn34, wn35, wn36, wn37, wn38, wn39⟩ := wnx
  have rdx := rd
  obtain ⟨rdC, rd10, rd11, rd12, rd13, rd14, rd15, rd16, rd17⟩ := rdx
  have wk_c := wsC c (by omega)
  have vk_c := wnC c (by omega)
  have sk_c := rsC c (by omega)
  have dk_c := rdC c (by omega)
  have sk3 := ok.1 104 3
  have tb := tsp_bd (N := N) (wo := H.1 104 3) (c := c) wl (q 40).toNat 0 (by have := wl.1; omega)
  refine x_aload_n (pc := 0) dX4_decide_0 (List.Mem.head _) ?_
  refine x_iload_n (pc := 1) dX4_decide_1 (List.Mem.tail _ (List.Mem.head _)) ?_
  refine z_callVip (pc := 2) (i := mX4_percentFor) (S := []) [.int (zN ((c : Int)))] dX4_decide_2 ml_X4_108 ok_X4_percentFor rfl sh_104 rfl (Or.inl rfl) (Nat.le_of_ble_eq_true rfl) (c_X4_percentFor (d := d) (s := s) (q := q) (N := N) (c := c) (hc := (by omega)) (ok := ok) (hs := (by first | assumption | omega)) (hsc := (by first | assumption | omega)) (ws := (by first | assumption | omega)) (rs := (by first | assumption | omega)) (wn := (by first | assumption | omega)) (rd := (by first | assumption | omega)) (rl := (by first | assumption | omega)) (wl := (by first | assumption | omega))) (fun r1a r1b ok2 => ?_)
  refine x_istore_n (pc := 5) dX4_decide_5 (Nat.le_of_ble_eq_true rfl) ?_
  show Ev _ _ _ _ _ [(2, .int (zN ((tsp q N (H.1 104 3) c (q 40).toNat 0)))), (0, .ref 104), (1, .int (zN ((c : Int))))] _ _
  refine x_iload_n (pc := 6) dX4_decide_6 (List.Mem.head _) ?_
  refine z_if_le (pc := 7) (tgt := 39) dX4_decide_7 (by decide) (by omega) (by omega) (fun hb3 => ?_) (fun hb3 => ?_)
  · skip
    have hroom : (shr q N (H.1 104 3) c) = 0 := by unfold shr; split <;> omega
    refine z_iconst (pc := 39) dX4_decide_39 ?_
    refine x_istore_n (pc := 40) dX4_decide_40 (Nat.le_of_ble_eq_true rfl) ?_
    show Ev _ _ _ _ _ [(3, .int (zN (0))), (2, .int (zN ((tsp q N (H.1 104 3) c (q 40).toNat 0)))), (0, .ref 104), (1, .int (zN ((c : Int))))] _ _
    refine x_aload_n (pc := 41) dX4_decide_41 (List.Mem.tail _ (List.Mem.tail _ (List.Mem.head _))) ?_
    refine z_getR (pc := 42) (k := 6) (r := 107) dX4_decide_42 lf_X4_29 sh_104 rfl rf_104_6 ?_
    refine x_iload_n (pc := 45) dX4_decide_45 (List.Mem.tail _ (List.Mem.tail _ (List.Mem.tail _ (List.Mem.head _)))) ?_
    refine x_iload_n (pc := 46) dX4_decide_46 (List.Mem.head _) ?_
    refine z_if_eq (pc := 47) (tgt := 54) dX4_decide_47 (by decide) (by decide) (by decide) (fun _ => ?_) (fun h => absurd h (by decide))
    refine z_iconst (pc := 54) dX4_decide_54 ?_
    refine z_iast (pc := 55) (j := c) (v := 1) dX4_decide_55 sh_107 rfl (by omega) (by decide) ?_
    have ok5 := okI ok2 107 c (v := 1) (by decide) (by decide)
    refine z_vreturn (pc := 56) dX4_decide_56 rfl ok5 ?_
    first
      | exact Or.inl ⟨by omega, rfl⟩
      | exact Or.inr (Or.inl ⟨by omega, rfl⟩)
      | exact Or.inr (Or.inr ⟨by omega, b, Hc, by rw [hroom]; exact iw, by rw [hbb]; rfl⟩)
  · skip
    refine x_aload_n (pc := 10) dX4_decide_10 (List.Mem.tail _ (List.Mem.head _)) ?_
    refine x_iload_n (pc := 11) dX4_decide_11 (List.Mem.tail _ (List.Mem.tail _ (List.Mem.head _))) ?_
    refine z_callVbp (pc := 12) (i := mX4_hasRoom) (S := []) [.int (zN ((c : Int)))] dX4_decide_12 ml_X4_112 ok_X4_hasRoom rfl sh_104 rfl (Or.inr rfl) (Nat.le_of_ble_eq_true rfl) (c_X4_hasRoom (d := d + 2) (s := s) (q := q) (N := N) (c := c) (hc := (by omega)) (ok := ok2) (hs := (by first | assumption | omega)) (hsc := (by first | assumption | omega)) (ws := (by first | assumption | omega)) (rs := (by first | assumption | omega)) (wn := (by first | assumption | omega)) (rd := (by first | assumption | omega))) (fun hc8 ok7 => ?_) (fun hc8 ok7 => ?_)
    · skip
      have hroom : (shr q N (H.1 104 3) c) = (tsp q N (H.1 104 3) c (q 40).toNat 0) := if_pos hc8
      refine z_if_eq (pc := 15) (tgt := 39) dX4_decide_15 (by decide) (by decide) (by decide) (fun h => absurd h (by decide)) (fun _ => ?_)
      refine x_iload_n (pc := 18) dX4_decide_18 (List.Mem.head _) ?_
      refine z_bipush (pc := 19) dX4_decide_19 bp_100 ?_
      refine z_icmp_ge (pc := 21) (tgt := 35) dX4_decide_21 (by decide) (by omega) (by omega) (by decide) (by decide) (fun hb10 => ?_) (fun hb10 => ?_)
      · skip
        refine z_iconst (pc := 35) dX4_decide_35 ?_
        refine x_goto (pc := 36) (tgt := 40) dX4_decide_36 (by decide) ?_
        refine x_istore_n (pc := 40) dX4_decide_40 (Nat.le_of_ble_eq_true rfl) ?_
        show Ev _ _ _ _ _ [(3, .int (zN (1))), (2, .int (zN ((tsp q N (H.1 104 3) c (q 40).toNat 0)))), (0, .ref 104), (1, .int (zN ((c : Int))))] _ _
        refine x_aload_n (pc := 41) dX4_decide_41 (List.Mem.tail _ (List.Mem.tail _ (List.Mem.head _))) ?_
        refine z_getR (pc := 42) (k := 6) (r := 107) dX4_decide_42 lf_X4_29 sh_104 rfl rf_104_6 ?_
        refine x_iload_n (pc := 45) dX4_decide_45 (List.Mem.tail _ (List.Mem.tail _ (List.Mem.tail _ (List.Mem.head _)))) ?_
        refine x_iload_n (pc := 46) dX4_decide_46 (List.Mem.head _) ?_
        refine z_if_eq (pc := 47) (tgt := 54) dX4_decide_47 (by decide) (by decide) (by decide) (fun h => absurd h (by decide)) (fun _ => ?_)
        refine z_iconst (pc := 50) dX4_decide_50 ?_
        refine x_goto (pc := 51) (tgt := 55) dX4_decide_51 (by decide) ?_
        refine z_iast (pc := 55) (j := c) (v := 2) dX4_decide_55 sh_107 rfl (by omega) (by decide) ?_
        have ok12 := okI ok7 107 c (v := 2) (by decide) (by decide)
        refine z_vreturn (pc := 56) dX4_decide_56 rfl ok12 ?_
        first
          | exact Or.inl ⟨by omega, rfl⟩
          | exact Or.inr (Or.inl ⟨by omega, rfl⟩)
          | exact Or.inr (Or.inr ⟨by omega, b, Hc, by rw [hroom]; exact iw, by rw [hbb]; rfl⟩)
      · skip
        refine x_aload_n (pc := 24) dX4_decide_24 (List.Mem.tail _ (List.Mem.head _)) ?_
        refine z_getR (pc := 25) (k := 0) (r := 111) dX4_decide_25 lf_X4_12 sh_104 rfl rf_104_0 ?_
        refine x_iload_n (pc := 28) dX4_decide_28 (List.Mem.head _) ?_
        refine z_callVi (pc := 29) (i := mX0_isStop) (S := []) [.int (zN ((tsp q N (H.1 104 3) c (q 40).toNat 0)))] dX4_decide_29 ml_X4_115 ok_X0_isStop rfl sh_111 rfl (Or.inr rfl) (Nat.le_of_ble_eq_true rfl) (c_X0_isStop_w (d := d + 2) (p := ((tsp q N (H.1 104 3) c (q 40).toNat 0))) (hp := (by omega)) (ok := ok7) (cb := cb) (c8 := c8)) ?_
        intro r13 Hc r13a r13b ok14 hp15
        obtain ⟨b, er, iw⟩ := hp15
        refine z_if_eq (pc := 32) (tgt := 39) dX4_decide_32 (by decide) (by omega) (by omega) (fun hb16 => ?_) (fun hb16 => ?_)
        · skip
          rw [er] at hb16
          have hbb : b = false := ite01_0 hb16
          refine z_iconst (pc := 39) dX4_decide_39 ?_
          refine x_istore_n (pc := 40) dX4_decide_40 (Nat.le_of_ble_eq_true rfl) ?_
          show Ev _ _ _ _ _ [(3, .int (zN (0))), (2, .int (zN ((tsp q N (H.1 104 3) c (q 40).toNat 0)))), (0, .ref 104), (1, .int (zN ((c : Int))))] _ _
          refine x_aload_n (pc := 41) dX4_decide_41 (List.Mem.tail _ (List.Mem.tail _ (List.Mem.head _))) ?_
          refine z_getR (pc := 42) (k := 6) (r := 107) dX4_decide_42 lf_X4_29 sh_104 rfl rf_104_6 ?_
          refine x_iload_n (pc := 45) dX4_decide_45 (List.Mem.tail _ (List.Mem.tail _ (List.Mem.tail _ (List.Mem.head _)))) ?_
          refine x_iload_n (pc := 46) dX4_decide_46 (List.Mem.head _) ?_
          refine z_if_eq (pc := 47) (tgt := 54) dX4_decide_47 (by decide) (by decide) (by decide) (fun _ => ?_) (fun h => absurd h (by decide))
          refine z_iconst (pc := 54) dX4_decide_54 ?_
          refine z_iast (pc := 55) (j := c) (v := 1) dX4_decide_55 sh_107 rfl (by omega) (by decide) ?_
          have ok18 := okI ok14 107 c (v := 1) (by decide) (by decide)
          refine z_vreturn (pc := 56) dX4_decide_56 rfl ok18 ?_
          first
            | exact Or.inl ⟨by omega, rfl⟩
            | exact Or.inr (Or.inl ⟨by omega, rfl⟩)
            | exact Or.inr (Or.inr ⟨by omega, b, Hc, by rw [hroom]; exact iw, by rw [hbb]; rfl⟩)
        · skip
          rw [er] at hb16
          have hbb : b = true := ite01_1 hb16
          refine z_iconst (pc := 35) dX4_decide_35 ?_
          refine x_goto (pc := 36) (tgt := 40) dX4_decide_36 (by decide) ?_
          refine x_istore_n (pc := 40) dX4_decide_40 (Nat.le_of_ble_eq_true rfl) ?_
          show Ev _ _ _ _ _ [(3, .int (zN (1))), (2, .int (zN ((tsp q N (H.1 104 3) c (q 40).toNat 0)))), (0, .ref 104), (1, .int (zN ((c : Int))))] _ _
          refine x_aload_n (pc := 41) dX4_decide_41 (List.Mem.tail _ (List.Mem.tail _ (List.Mem.head _))) ?_
          refine z_getR (pc := 42) (k := 6) (r := 107) dX4_decide_42 lf_X4_29 sh_104 rfl rf_104_6 ?_
          refine x_iload_n (pc := 45) dX4_decide_45 (List.Mem.tail _ (List.Mem.tail _ (List.Mem.tail _ (List.Mem.head _)))) ?_
          refine x_iload_n (pc := 46) dX4_decide_46 (List.Mem.head _) ?_
          refine z_if_eq (pc := 47) (tgt := 54) dX4_decide_47 (by decide) (by decide) (by decide) (fun h => absurd h (by decide)) (fun _ => ?_)
          refine z_iconst (pc := 50) dX4_decide_50 ?_
          refine x_goto (pc := 51) (tgt := 55) dX4_decide_51 (by decide) ?_
          refine z_iast (pc := 55) (j := c) (v := 2) dX4_decide_55 sh_107 rfl (by omega) (by decide) ?_
          have ok20 := okI ok14 107 c (v := 2) (by decide) (by decide)
          refine z_vreturn (pc := 56) dX4_decide_56 rfl ok20 ?_
          first
            | exact Or.inl ⟨by omega, rfl⟩
            | exact Or.inr (Or.inl ⟨by omega, rfl⟩)
            | exact Or.inr (Or.inr ⟨by omega, b, Hc, by rw [hroom]; exact iw, by rw [hbb]; rfl⟩)
    · skip
      have hroom : (shr q N (H.1 104 3) c) = 0 := if_neg hc8
      refine z_if_eq (pc := 15) (tgt := 39) dX4_decide_15 (by decide) (by decide) (by decide) (fun _ => ?_) (fun h => absurd h (by decide))
      refine z_iconst (pc := 39) dX4_decide_39 ?_
      refine x_istore_n (pc := 40) dX4_decide_40 (Nat.le_of_ble_eq_true rfl) ?_
      show Ev _ _ _ _ _ [(3, .int (zN (0))), (2, .int (zN ((tsp q N (H.1 104 3) c (q 40).toNat 0)))), (0, .ref 104), (1, .int (zN ((c : Int))))] _ _
      refine x_aload_n (pc := 41) dX4_decide_41 (List.Mem.tail _ (List.Mem.tail _ (List.Mem.head _))) ?_
      refine z_getR (pc := 42) (k := 6) (r := 107) dX4_decide_42 lf_X4_29 sh_104 rfl rf_104_6 ?_
      refine x_iload_n (pc := 45) dX4_decide_45 (List.Mem.tail _ (List.Mem.tail _ (List.Mem.tail _ (List.Mem.head _)))) ?_
      refine x_iload_n (pc := 46) dX4_decide_46 (List.Mem.head _) ?_
      refine z_if_eq (pc := 47) (tgt := 54) dX4_decide_47 (by decide) (by decide) (by decide) (fun _ => ?_) (fun h => absurd h (by decide))
      refine z_iconst (pc := 54) dX4_decide_54 ?_
      refine z_iast (pc := 55) (j := c) (v := 1) dX4_decide_55 sh_107 rfl (by omega) (by decide) ?_
      have ok23 := okI ok7 107 c (v := 1) (by decide) (by decide)
      refine z_vreturn (pc := 56) dX4_decide_56 rfl ok23 ?_
      first
        | exact Or.inl ⟨by omega, rfl⟩
        | exact Or.inr (Or.inl ⟨by omega, rfl⟩)
        | exact Or.inr (Or.inr ⟨by omega, b, Hc, by rw [hroom]; exact iw, by rw [hbb]; rfl⟩)

theorem c_X4_tick_w {d : Nat} {H : ZH} (ok : okZ H) {s : Nat} {q N : Nat → Int} {X : (Nat → Int) × Int × List Bool} (hs : isSc s) (hsc : H.1 104 1 = (s : Int)) (ws : WFS q) (rs : RepSc H s q) (wn : WFN q N) (rd : RepRd H q N) (rl : RepLw H q) (wl : WFL q) (wx : WFX q N) (he : N 37 = 0) (pm : Perm8 (H.1 109) (q 1).toNat) (e41 : N 41 = 0) (chs : ChS H q (H.1 104 3) N X) : EvC zX (d + 5) mX4_tick [.ref 104] (eh H) (zPv (fun (H1 : ZH) => ∃ N2, FrK H H1 ∧ RepRd H1 q N2 ∧ (∀ k, k < 10 → H1.1 104 k = H.1 104 k) ∧ Perm8 (H1.1 109) (q 1).toNat ∧ ChS H1 q (H.1 104 3) N2 X ∧ N2 41 = 0 ∧ N2 36 = N 36 + 1)) := by
  show _ ∧ Ev zX mX4_tick (EvC zX (d + 4)) (zPv (fun (H1 : ZH) => ∃ N2, FrK H H1 ∧ RepRd H1 q N2 ∧ (∀ k, k < 10 → H1.1 104 k = H.1 104 k) ∧ Perm8 (H1.1 109) (q 1).toNat ∧ ChS H1 q (H.1 104 3) N2 X ∧ N2 41 = 0 ∧ N2 36 = N 36 + 1)) 0 [(0, .ref 104)] [] (eh H)
  refine ⟨Nat.le_of_ble_eq_true rfl, ?_⟩
  have hsr := isSc_r hs
  have wsx := ws
  obtain ⟨ws0, ws1, wsC, ws34, ws35, ws36, ws37, ws38, ws39⟩ := wsx
  have rsx := rs
  obtain ⟨rs0, rs1, rsC, rs34, rs35, rs36, rs37, rs38, rs39⟩ := rsx
  have wnx := wn
  obtain ⟨wnC, wn32, wn33, wn34, wn35, wn36, wn37, wn38, wn39⟩ := wnx
  have rdx := rd
  obtain ⟨rdC, rd10, rd11, rd12, rd13, rd14, rd15, rd16, rd17⟩ := rdx
  refine z_iconst (pc := 0) dX4_tick_0 ?_
  refine x_istore_n (pc := 1) dX4_tick_1 (Nat.le_of_ble_eq_true rfl) ?_
  show Ev _ _ _ _ _ [(1, .int (zN (0))), (0, .ref 104)] _ _
  have lp2 : ∀ (nF : Nat) (k : Nat) (M : Nat → Int) (Hm : ZH), okZ Hm → ((k : Int) ≤ q 1) → (MwI q N M k) → (DkF H Hm) → (RepRd Hm q M) → (ChS Hm q (H.1 104 3) M X ∧ ∀ cc j, ¬ (cc = 111 ∧ j = 5) → Hm.2 cc j = H.2 cc j) → (q 1).toNat - k < nF → Ev zX mX4_tick (EvC zX (d + 4)) (zPv (fun (H1 : ZH) => ∃ N2, FrK H H1 ∧ RepRd H1 q N2 ∧ (∀ k, k < 10 → H1.1 104 k = H.1 104 k) ∧ Perm8 (H1.1 109) (q 1).toNat ∧ ChS H1 q (H.1 104 3) N2 X ∧ N2 41 = 0 ∧ N2 36 = N 36 + 1)) 2 [(0, .ref 104), (1, .int (zN ((k : Int))))] [] (eh Hm) := by
    intro nF
    induction nF with
    | zero => intro k M Hm okl2 hk hM fr rdm md hm; exact absurd hm (Nat.not_lt_zero _)
    | succ nF ih2 =>
      intro k M Hm okl2 hk hM fr rdm md hm
      obtain ⟨hM41, wm, wxm, hMhi⟩ := (show MwI q N M k from hM)
      have hM37 : M 37 = 0 := (hMhi 37 (by omega) (by omega)).trans he
      have hsm : Hm.1 104 1 = (s : Int) := (congrFun (fr 104 (by omega) (by omega) (by omega)) 1).trans hsc
      have es : ∀ cc, s ≤ cc → cc ≤ s + 4 → Hm.1 cc = H.1 cc := fun cc a b => fr cc (by omega) (by omega) (by omega)
      have rsm := RepSc_e es rs
      have rlm := RepLw_e (fun cc a => fr cc (by omega) (by omega) (by omega)) rl
      obtain ⟨wmC, wm32, wm33, wm34, wm35, wm36, wm37, wm38, wm39⟩ := (show WFN q M from wm)
      have fdm : FldR Hm M := rdm.2
      have e3 : Hm.1 104 3 = H.1 104 3 := congrFun (fr 104 (by omega) (by omega) (by omega)) 3
      refine x_iload_n (pc := 2) dX4_tick_2 (List.Mem.tail _ (List.Mem.head _)) ?_
      refine x_aload_n (pc := 3) dX4_tick_3 (List.Mem.head _) ?_
      refine z_getY (pc := 4) (k := 1) (r := s) dX4_tick_4 lf_X4_42 sh_104 rfl (by rw [hsm]) (by omega) ?_
      refine z_getI (pc := 7) (k := 1) (v := (q 1)) dX4_tick_7 lf_X4_56 (sh_Sc0 hs) rfl (by rw [es s (by omega) (by omega)]; exact rs1) ?_
      refine z_icmp_ge (pc := 10) (tgt := 58) dX4_tick_10 (by decide) (by omega) (by omega) (by omega) (by omega) (fun hb1 => ?_) (fun hb1 => ?_)
      · skip
        have jn107 : ∀  (Hj : ZH), okZ Hj → (Fr4 Hm Hj) → (FldR Hj (tk1 q M)) → Ev zX mX4_tick (EvC zX (d + 4)) (zPv (fun (H1 : ZH) => ∃ N2, FrK H H1 ∧ RepRd H1 q N2 ∧ (∀ k, k < 10 → H1.1 104 k = H.1 104 k) ∧ Perm8 (H1.1 109) (q 1).toNat ∧ ChS H1 q (H.1 104 3) N2 X ∧ N2 41 = 0 ∧ N2 36 = N 36 + 1)) 107 [(0, .ref 104)] [] (eh Hj) := by
          intro Hj okj107 f4 fj
          refine x_aload_n (pc := 107) dX4_tick_107 (List.Mem.head _) ?_
          refine z_callVv (pc := 108) (i := mX4_moveCars) (S := []) [] dX4_tick_108 ml_X4_102 ok_X4_moveCars rfl sh_104 rfl rfl (Nat.le_of_ble_eq_true rfl) (c_X4_moveCars (d := d + 1) (s := s) (q := q) (N := (tk1 q M)) (ok := okj107) (hs := hs) (hsc := ((f4.2.1 1 (by omega)).trans hsm)) (ws := ws) (rs := (RepSc_e (fun cc a b => f4.1 cc (by omega)) rsm)) (wn := (tk1_wfn wm ws1.2)) (h0 := (fun c hc => by rw [tk1_at (by omega), tk1_at (by omega)]; exact wxm.1 c hc)) (rd := (rd_tk1 rdm f4 fj ws1.2)) (pm := (by rw [f4.1 109 (by omega), fr 109 (by omega) (by omega) (by omega)]; exact pm))) ?_
          intro H4 ok3 hp4
          have mv := hp4
          have e4 : ∀ cc, s ≤ cc → cc ≤ s + 4 → H4.1 cc = Hm.1 cc := fun cc a b => (mv.1 cc (by omega) (by omega) (by omega) (by omega) (by omega) (by omega)).trans (f4.1 cc (by omega))
          refine x_aload_n (pc := 111) dX4_tick_111 (List.Mem.head _) ?_
          refine z_callVv (pc := 112) (i := mX4_goOver) (S := []) [] dX4_tick_112 ml_X4_105 ok_X4_goOver rfl sh_104 rfl rfl (Nat.le_of_ble_eq_true rfl) (c_X4_goOver (d := d + 2) (s := s) (q := q) (M := (tk1 q M)) (ok := ok3) (hs := hs) (hsc := ((mv.2.1 1 (by omega)).trans ((f4.2.1 1 (by omega)).trans hsm))) (ws := ws) (rs := (RepSc_e e4 rsm)) (wm := (tk1_wfn wm ws1.2)) (fd := (fld_mv fj mv)) (hS := (fun c hc => (mv.2.2.2.2.1 c hc).2.1)) (hk := mv.2.2.2.2.2) (hl := (fun _ => by rw [tk1_at (by omega)]; exact wxm.2.1 hM37))) ?_
          intro H5 ok6 hp7
          obtain ⟨fd5, f5⟩ := hp7
          have r32 := ok6.1 104 10
          rw [fd5.1] at r32
          have r33 := ok6.1 104 11
          rw [fd5.2.1] at r33
          have r37 := ok6.1 104 15
          rw [fd5.2.2.2.2.2.1] at r37
          have p35 : (tk2 q (tk1 q M)) 35 = M 35 := by rw [tk2_at (by omega), mvN_hi ws1.2 (by omega), tk1_at (by omega)]
          have p36 : (tk2 q (tk1 q M)) 36 = M 36 := by rw [tk2_at (by omega), mvN_hi ws1.2 (by omega), tk1_at (by omega)]
          have x36 := wxm.2.2.2.2.2 hM37
          refine x_aload_n (pc := 115) dX4_tick_115 (List.Mem.head _) ?_
          refine z_getI (pc := 116) (k := 10) (v := ((tk2 q (tk1 q M)) 32)) dX4_tick_116 lf_X4_61 sh_104 rfl fd5.1 ?_
          refine z_if_ne (pc := 119) (tgt := 139) dX4_tick_119 (by decide) (by omega) (by omega) (fun hb8 => ?_) (fun hb8 => ?_)
          · skip
            refine x_aload_n (pc := 139) dX4_tick_139 (List.Mem.head _) ?_
            refine x_dup (pc := 140) dX4_tick_140 rfl ?_
            refine z_getI (pc := 141) (k := 14) (v := ((tk2 q (tk1 q M)) 36)) dX4_tick_141 lf_X4_74 sh_104 rfl (by first | exact fd5.2.2.2.2.1 | (rw [wI1k (by omega)]; exact fd5.2.2.2.2.1)) ?_
            refine z_iconst (pc := 144) dX4_tick_144 ?_
            refine z_iadd (pc := 145) dX4_tick_145 ?_
            refine z_putI (pc := 146) (k := 14) dX4_tick_146 lp_X4_74 sh_104 rfl ?_
            have ok9 := okI ok6 104 14 (v := ((((tk2 q (tk1 q M)) 36)) + 1)) (by omega) (by omega)
            refine x_aload_n (pc := 149) dX4_tick_149 (List.Mem.head _) ?_
            refine z_getI (pc := 150) (k := 15) (v := ((tk2 q (tk1 q M)) 37)) dX4_tick_150 lf_X4_77 sh_104 rfl (by first | (rw [wI1k (by omega)]; exact fd5.2.2.2.2.2.1) | (rw [wI1k (by omega), wI1k (by omega)]; exact fd5.2.2.2.2.2.1)) ?_
            refine z_if_ne (pc := 153) (tgt := 170) dX4_tick_153 (by decide) (by omega) (by omega) (fun hb10 => ?_) (fun hb10 => ?_)
            · skip
              refine z_vreturn (pc := 170) dX4_tick_170 rfl ok9 ?_
              have eT : tickF q M = tk3 (tk2 q (tk1 q M)) := rfl
              have f6 : Fr4 H5 (wI H5 104 14 (((((tk2 q (tk1 q M)) 36)) + 1))) := by repeat' first | exact Fr4_0 _ | refine Fr4_I ?_ (by omega)
              have fd6 : FldR (wI H5 104 14 (((((tk2 q (tk1 q M)) 36)) + 1))) (tickF q M) := by
                rw [eT]
                refine ⟨?_, ?_, ?_, ?_, ?_, ?_, ?_, ?_⟩
                · show _ = _
                  rw [wI1k (by omega)]
                  exact fd5.1
                · show _ = _
                  rw [wI1k (by omega)]
                  exact fd5.2.1
                · show _ = _
                  rw [wI1k (by omega)]
                  exact fd5.2.2.1
                · show _ = _
                  rw [wI1k (by omega)]
                  show _ = (tk2 q (tk1 q M)) 35 + (if (tk2 q (tk1 q M)) 33 = 0 ∧ (tk2 q (tk1 q M)) 32 = 0 then 1 else 0)
                  rw [if_neg (by omega), Int.add_zero]; exact fd5.2.2.2.1
                · show _ = _
                  rw [wI1]
                  rfl
                · show _ = _
                  rw [wI1k (by omega)]
                  show _ = (if (tk2 q (tk1 q M)) 37 = 0 ∧ (tk2 q (tk1 q M)) 36 + 1 = 99 then 3 else (tk2 q (tk1 q M)) 37)
                  rw [if_neg (by omega)]; exact fd5.2.2.2.2.2.1
                · show _ = _
                  rw [wI1k (by omega)]
                  exact fd5.2.2.2.2.2.2.1
                · show _ = _
                  rw [wI1k (by omega)]
                  exact fd5.2.2.2.2.2.2.2
              have te := tk_end ws1 rdm f4 mv f5 f6 fd6
              obtain ⟨t1, t2, t3, t4, t5⟩ := te
              have tw := tickF_wf ws1 ws0 wm wxm hM37
              have ek : M 41 = q 1 := by omega
              refine ⟨tickF q M, ⟨fun c j hc => ?_, fun c j hc => ?_⟩, t1, fun j hj => (t4 j hj).trans (congrFun (fr 104 (by omega) (by omega) (by omega)) j), t2, ?_, rfl, ?_⟩
              · rw [t3 c (by omega) (by omega) (by omega) (by omega) (by omega) (by omega)]; exact congrFun (fr c (by omega) (by omega) (by omega)) j
              · rw [t5]; exact md.2 c j hc
              · exact ChS_cg (chs_t ws1 ws0 md.1 hM37 ek) (t3 111 (by omega) (by omega) (by omega) (by omega) (by omega) (by omega)) (t3 112 (by omega) (by omega) (by omega) (by omega) (by omega) (by omega)) (by rw [t5])
              · rw [tw.2.2.1, hMhi 36 (by omega) (by omega)]
            · skip
              refine x_aload_n (pc := 156) dX4_tick_156 (List.Mem.head _) ?_
              refine z_getI (pc := 157) (k := 14) (v := ((((tk2 q (tk1 q M)) 36)) + 1)) dX4_tick_157 lf_X4_74 sh_104 rfl (by rw [wI1]) ?_
              refine z_bipush (pc := 160) dX4_tick_160 bp_99 ?_
              refine z_icmp_lt (pc := 162) (tgt := 170) dX4_tick_162 (by decide) (by omega) (by omega) (by decide) (by decide) (fun hb11 => ?_) (fun hb11 => ?_)
              · skip
                refine z_vreturn (pc := 170) dX4_tick_170 rfl ok9 ?_
                have eT : tickF q M = tk3 (tk2 q (tk1 q M)) := rfl
                have f6 : Fr4 H5 (wI H5 104 14 (((((tk2 q (tk1 q M)) 36)) + 1))) := by repeat' first | exact Fr4_0 _ | refine Fr4_I ?_ (by omega)
                have fd6 : FldR (wI H5 104 14 (((((tk2 q (tk1 q M)) 36)) + 1))) (tickF q M) := by
                  rw [eT]
                  refine ⟨?_, ?_, ?_, ?_, ?_, ?_, ?_, ?_⟩
                  · show _ = _
                    rw [wI1k (by omega)]
                    exact fd5.1
                  · show _ = _
                    rw [wI1k (by omega)]
                    exact fd5.2.1
                  · show _ = _
                    rw [wI1k (by omega)]
                    exact fd5.2.2.1
                  · show _ = _
                    rw [wI1k (by omega)]
                    show _ = (tk2 q (tk1 q M)) 35 + (if (tk2 q (tk1 q M)) 33 = 0 ∧ (tk2 q (tk1 q M)) 32 = 0 then 1 else 0)
                    rw [if_neg (by omega), Int.add_zero]; exact fd5.2.2.2.1
                  · show _ = _
                    rw [wI1]
                    rfl
                  · show _ = _
                    rw [wI1k (by omega)]
                    show _ = (if (tk2 q (tk1 q M)) 37 = 0 ∧ (tk2 q (tk1 q M)) 36 + 1 = 99 then 3 else (tk2 q (tk1 q M)) 37)
                    rw [if_neg (by omega)]; exact fd5.2.2.2.2.2.1
                  · show _ = _
                    rw [wI1k (by omega)]
                    exact fd5.2.2.2.2.2.2.1
                  · show _ = _
                    rw [wI1k (by omega)]
                    exact fd5.2.2.2.2.2.2.2
                have te := tk_end ws1 rdm f4 mv f5 f6 fd6
                obtain ⟨t1, t2, t3, t4, t5⟩ := te
                have tw := tickF_wf ws1 ws0 wm wxm hM37
                have ek : M 41 = q 1 := by omega
                refine ⟨tickF q M, ⟨fun c j hc => ?_, fun c j hc => ?_⟩, t1, fun j hj => (t4 j hj).trans (congrFun (fr 104 (by omega) (by omega) (by omega)) j), t2, ?_, rfl, ?_⟩
                · rw [t3 c (by omega) (by omega) (by omega) (by omega) (by omega) (by omega)]; exact congrFun (fr c (by omega) (by omega) (by omega)) j
                · rw [t5]; exact md.2 c j hc
                · exact ChS_cg (chs_t ws1 ws0 md.1 hM37 ek) (t3 111 (by omega) (by omega) (by omega) (by omega) (by omega) (by omega)) (t3 112 (by omega) (by omega) (by omega) (by omega) (by omega) (by omega)) (by rw [t5])
                · rw [tw.2.2.1, hMhi 36 (by omega) (by omega)]
              · skip
                refine x_aload_n (pc := 165) dX4_tick_165 (List.Mem.head _) ?_
                refine z_iconst (pc := 166) dX4_tick_166 ?_
                refine z_putI (pc := 167) (k := 15) dX4_tick_167 lp_X4_77 sh_104 rfl ?_
                have ok12 := okI ok9 104 15 (v := 3) (by decide) (by decide)
                refine z_vreturn (pc := 170) dX4_tick_170 rfl ok12 ?_
                have eT : tickF q M = tk3 (tk2 q (tk1 q M)) := rfl
                have f6 : Fr4 H5 (wI (wI H5 104 14 (((((tk2 q (tk1 q M)) 36)) + 1))) 104 15 (3)) := by repeat' first | exact Fr4_0 _ | refine Fr4_I ?_ (by omega)
                have fd6 : FldR (wI (wI H5 104 14 (((((tk2 q (tk1 q M)) 36)) + 1))) 104 15 (3)) (tickF q M) := by
                  rw [eT]
                  refine ⟨?_, ?_, ?_, ?_, ?_, ?_, ?_, ?_⟩
                  · show _ = _
                    rw [wI1k (by omega), wI1k (by omega)]
                    exact fd5.1
                  · show _ = _
                    rw [wI1k (by omega), wI1k (by omega)]
                    exact fd5.2.1
                  · show _ = _
                    rw [wI1k (by omega), wI1k (by omega)]
                    exact fd5.2.2.1
                  · show _ = _
                    rw [wI1k (by omega), wI1k (by omega)]
                    show _ = (tk2 q (tk1 q M)) 35 + (if (tk2 q (tk1 q M)) 33 = 0 ∧ (tk2 q (tk1 q M)) 32 = 0 then 1 else 0)
                    rw [if_neg (by omega), Int.add_zero]; exact fd5.2.2.2.1
                  · show _ = _
                    rw [wI1k (by omega), wI1]
                    rfl
                  · show _ = _
                    rw [wI1]
                    show _ = (if (tk2 q (tk1 q M)) 37 = 0 ∧ (tk2 q (tk1 q M)) 36 + 1 = 99 then 3 else (tk2 q (tk1 q M)) 37)
                    rw [if_pos (by omega)]
                  · show _ = _
                    rw [wI1k (by omega), wI1k (by omega)]
                    exact fd5.2.2.2.2.2.2.1
                  · show _ = _
                    rw [wI1k (by omega), wI1k (by omega)]
                    exact fd5.2.2.2.2.2.2.2
                have te := tk_end ws1 rdm f4 mv f5 f6 fd6
                obtain ⟨t1, t2, t3, t4, t5⟩ := te
                have tw := tickF_wf ws1 ws0 wm wxm hM37
                have ek : M 41 = q 1 := by omega
                refine ⟨tickF q M, ⟨fun c j hc => ?_, fun c j hc => ?_⟩, t1, fun j hj => (t4 j hj).trans (congrFun (fr 104 (by omega) (by omega) (by omega)) j), t2, ?_, rfl, ?_⟩
                · rw [t3 c (by omega) (by omega) (by omega) (by omega) (by omega) (by omega)]; exact congrFun (fr c (by omega) (by omega) (by omega)) j
                · rw [t5]; exact md.2 c j hc
                · exact ChS_cg (chs_t ws1 ws0 md.1 hM37 ek) (t3 111 (by omega) (by omega) (by omega) (by omega) (by omega) (by omega)) (t3 112 (by omega) (by omega) (by omega) (by omega) (by omega) (by omega)) (by rw [t5])
                · rw [tw.2.2.1, hMhi 36 (by omega) (by omega)]
          · skip
            refine x_aload_n (pc := 122) dX4_tick_122 (List.Mem.head _) ?_
            refine z_getI (pc := 123) (k := 11) (v := ((tk2 q (tk1 q M)) 33)) dX4_tick_123 lf_X4_64 sh_104 rfl fd5.2.1 ?_
            refine z_if_ne (pc := 126) (tgt := 139) dX4_tick_126 (by decide) (by omega) (by omega) (fun hb13 => ?_) (fun hb13 => ?_)
            · skip
              refine x_aload_n (pc := 139) dX4_tick_139 (List.Mem.head _) ?_
              refine x_dup (pc := 140) dX4_tick_140 rfl ?_
              refine z_getI (pc := 141) (k := 14) (v := ((tk2 q (tk1 q M)) 36)) dX4_tick_141 lf_X4_74 sh_104 rfl (by first | exact fd5.2.2.2.2.1 | (rw [wI1k (by omega)]; exact fd5.2.2.2.2.1)) ?_
              refine z_iconst (pc := 144) dX4_tick_144 ?_
              refine z_iadd (pc := 145) dX4_tick_145 ?_
              refine z_putI (pc := 146) (k := 14) dX4_tick_146 lp_X4_74 sh_104 rfl ?_
              have ok14 := okI ok6 104 14 (v := ((((tk2 q (tk1 q M)) 36)) + 1)) (by omega) (by omega)
              refine x_aload_n (pc := 149) dX4_tick_149 (List.Mem.head _) ?_
              refine z_getI (pc := 150) (k := 15) (v := ((tk2 q (tk1 q M)) 37)) dX4_tick_150 lf_X4_77 sh_104 rfl (by first | (rw [wI1k (by omega)]; exact fd5.2.2.2.2.2.1) | (rw [wI1k (by omega), wI1k (by omega)]; exact fd5.2.2.2.2.2.1)) ?_
              refine z_if_ne (pc := 153) (tgt := 170) dX4_tick_153 (by decide) (by omega) (by omega) (fun hb15 => ?_) (fun hb15 => ?_)
              · skip
                refine z_vreturn (pc := 170) dX4_tick_170 rfl ok14 ?_
                have eT : tickF q M = tk3 (tk2 q (tk1 q M)) := rfl
                have f6 : Fr4 H5 (wI H5 104 14 (((((tk2 q (tk1 q M)) 36)) + 1))) := by repeat' first | exact Fr4_0 _ | refine Fr4_I ?_ (by omega)
                have fd6 : FldR (wI H5 104 14 (((((tk2 q (tk1 q M)) 36)) + 1))) (tickF q M) := by
                  rw [eT]
                  refine ⟨?_, ?_, ?_, ?_, ?_, ?_, ?_, ?_⟩
                  · show _ = _
                    rw [wI1k (by omega)]
                    exact fd5.1
                  · show _ = _
                    rw [wI1k (by omega)]
                    exact fd5.2.1
                  · show _ = _
                    rw [wI1k (by omega)]
                    exact fd5.2.2.1
                  · show _ = _
                    rw [wI1k (by omega)]
                    show _ = (tk2 q (tk1 q M)) 35 + (if (tk2 q (tk1 q M)) 33 = 0 ∧ (tk2 q (tk1 q M)) 32 = 0 then 1 else 0)
                    rw [if_neg (by omega), Int.add_zero]; exact fd5.2.2.2.1
                  · show _ = _
                    rw [wI1]
                    rfl
                  · show _ = _
                    rw [wI1k (by omega)]
                    show _ = (if (tk2 q (tk1 q M)) 37 = 0 ∧ (tk2 q (tk1 q M)) 36 + 1 = 99 then 3 else (tk2 q (tk1 q M)) 37)
                    rw [if_neg (by omega)]; exact fd5.2.2.2.2.2.1
                  · show _ = _
                    rw [wI1k (by omega)]
                    exact fd5.2.2.2.2.2.2.1
                  · show _ = _
                    rw [wI1k (by omega)]
                    exact fd5.2.2.2.2.2.2.2
                have te := tk_end ws1 rdm f4 mv f5 f6 fd6
                obtain ⟨t1, t2, t3, t4, t5⟩ := te
                have tw := tickF_wf ws1 ws0 wm wxm hM37
                have ek : M 41 = q 1 := by omega
                refine ⟨tickF q M, ⟨fun c j hc => ?_, fun c j hc => ?_⟩, t1, fun j hj => (t4 j hj).trans (congrFun (fr 104 (by omega) (by omega) (by omega)) j), t2, ?_, rfl, ?_⟩
                · rw [t3 c (by omega) (by omega) (by omega) (by omega) (by omega) (by omega)]; exact congrFun (fr c (by omega) (by omega) (by omega)) j
                · rw [t5]; exact md.2 c j hc
                · exact ChS_cg (chs_t ws1 ws0 md.1 hM37 ek) (t3 111 (by omega) (by omega) (by omega) (by omega) (by omega) (by omega)) (t3 112 (by omega) (by omega) (by omega) (by omega) (by omega) (by omega)) (by rw [t5])
                · rw [tw.2.2.1, hMhi 36 (by omega) (by omega)]
              · skip
                refine x_aload_n (pc := 156) dX4_tick_156 (List.Mem.head _) ?_
                refine z_getI (pc := 157) (k := 14) (v := ((((tk2 q (tk1 q M)) 36)) + 1)) dX4_tick_157 lf_X4_74 sh_104 rfl (by rw [wI1]) ?_
                refine z_bipush (pc := 160) dX4_tick_160 bp_99 ?_
                refine z_icmp_lt (pc := 162) (tgt := 170) dX4_tick_162 (by decide) (by omega) (by omega) (by decide) (by decide) (fun hb16 => ?_) (fun hb16 => ?_)
                · skip
                  refine z_vreturn (pc := 170) dX4_tick_170 rfl ok14 ?_
                  have eT : tickF q M = tk3 (tk2 q (tk1 q M)) := rfl
                  have f6 : Fr4 H5 (wI H5 104 14 (((((tk2 q (tk1 q M)) 36)) + 1))) := by repeat' first | exact Fr4_0 _ | refine Fr4_I ?_ (by omega)
                  have fd6 : FldR (wI H5 104 14 (((((tk2 q (tk1 q M)) 36)) + 1))) (tickF q M) := by
                    rw [eT]
                    refine ⟨?_, ?_, ?_, ?_, ?_, ?_, ?_, ?_⟩
                    · show _ = _
                      rw [wI1k (by omega)]
                      exact fd5.1
                    · show _ = _
                      rw [wI1k (by omega)]
                      exact fd5.2.1
                    · show _ = _
                      rw [wI1k (by omega)]
                      exact fd5.2.2.1
                    · show _ = _
                      rw [wI1k (by omega)]
                      show _ = (tk2 q (tk1 q M)) 35 + (if (tk2 q (tk1 q M)) 33 = 0 ∧ (tk2 q (tk1 q M)) 32 = 0 then 1 else 0)
                      rw [if_neg (by omega), Int.add_zero]; exact fd5.2.2.2.1
                    · show _ = _
                      rw [wI1]
                      rfl
                    · show _ = _
                      rw [wI1k (by omega)]
                      show _ = (if (tk2 q (tk1 q M)) 37 = 0 ∧ (tk2 q (tk1 q M)) 36 + 1 = 99 then 3 else (tk2 q (tk1 q M)) 37)
                      rw [if_neg (by omega)]; exact fd5.2.2.2.2.2.1
                    · show _ = _
                      rw [wI1k (by omega)]
                      exact fd5.2.2.2.2.2.2.1
                    · show _ = _
                      rw [wI1k (by omega)]
                      exact fd5.2.2.2.2.2.2.2
                  have te := tk_end ws1 rdm f4 mv f5 f6 fd6
                  obtain ⟨t1, t2, t3, t4, t5⟩ := te
                  have tw := tickF_wf ws1 ws0 wm wxm hM37
                  have ek : M 41 = q 1 := by omega
                  refine ⟨tickF q M, ⟨fun c j hc => ?_, fun c j hc => ?_⟩, t1, fun j hj => (t4 j hj).trans (congrFun (fr 104 (by omega) (by omega) (by omega)) j), t2, ?_, rfl, ?_⟩
                  · rw [t3 c (by omega) (by omega) (by omega) (by omega) (by omega) (by omega)]; exact congrFun (fr c (by omega) (by omega) (by omega)) j
                  · rw [t5]; exact md.2 c j hc
                  · exact ChS_cg (chs_t ws1 ws0 md.1 hM37 ek) (t3 111 (by omega) (by omega) (by omega) (by omega) (by omega) (by omega)) (t3 112 (by omega) (by omega) (by omega) (by omega) (by omega) (by omega)) (by rw [t5])
                  · rw [tw.2.2.1, hMhi 36 (by omega) (by omega)]
                · skip
                  refine x_aload_n (pc := 165) dX4_tick_165 (List.Mem.head _) ?_
                  refine z_iconst (pc := 166) dX4_tick_166 ?_
                  refine z_putI (pc := 167) (k := 15) dX4_tick_167 lp_X4_77 sh_104 rfl ?_
                  have ok17 := okI ok14 104 15 (v := 3) (by decide) (by decide)
                  refine z_vreturn (pc := 170) dX4_tick_170 rfl ok17 ?_
                  have eT : tickF q M = tk3 (tk2 q (tk1 q M)) := rfl
                  have f6 : Fr4 H5 (wI (wI H5 104 14 (((((tk2 q (tk1 q M)) 36)) + 1))) 104 15 (3)) := by repeat' first | exact Fr4_0 _ | refine Fr4_I ?_ (by omega)
                  have fd6 : FldR (wI (wI H5 104 14 (((((tk2 q (tk1 q M)) 36)) + 1))) 104 15 (3)) (tickF q M) := by
                    rw [eT]
                    refine ⟨?_, ?_, ?_, ?_, ?_, ?_, ?_, ?_⟩
                    · show _ = _
                      rw [wI1k (by omega), wI1k (by omega)]
                      exact fd5.1
                    · show _ = _
                      rw [wI1k (by omega), wI1k (by omega)]
                      exact fd5.2.1
                    · show _ = _
                      rw [wI1k (by omega), wI1k (by omega)]
                      exact fd5.2.2.1
                    · show _ = _
                      rw [wI1k (by omega), wI1k (by omega)]
                      show _ = (tk2 q (tk1 q M)) 35 + (if (tk2 q (tk1 q M)) 33 = 0 ∧ (tk2 q (tk1 q M)) 32 = 0 then 1 else 0)
                      rw [if_neg (by omega), Int.add_zero]; exact fd5.2.2.2.1
                    · show _ = _
                      rw [wI1k (by omega), wI1]
                      rfl
                    · show _ = _
                      rw [wI1]
                      show _ = (if (tk2 q (tk1 q M)) 37 = 0 ∧ (tk2 q (tk1 q M)) 36 + 1 = 99 then 3 else (tk2 q (tk1 q M)) 37)
                      rw [if_pos (by omega)]
                    · show _ = _
                      rw [wI1k (by omega), wI1k (by omega)]
                      exact fd5.2.2.2.2.2.2.1
                    · show _ = _
                      rw [wI1k (by omega), wI1k (by omega)]
                      exact fd5.2.2.2.2.2.2.2
                  have te := tk_end ws1 rdm f4 mv f5 f6 fd6
                  obtain ⟨t1, t2, t3, t4, t5⟩ := te
                  have tw := tickF_wf ws1 ws0 wm wxm hM37
                  have ek : M 41 = q 1 := by omega
                  refine ⟨tickF q M, ⟨fun c j hc => ?_, fun c j hc => ?_⟩, t1, fun j hj => (t4 j hj).trans (congrFun (fr 104 (by omega) (by omega) (by omega)) j), t2, ?_, rfl, ?_⟩
                  · rw [t3 c (by omega) (by omega) (by omega) (by omega) (by omega) (by omega)]; exact congrFun (fr c (by omega) (by omega) (by omega)) j
                  · rw [t5]; exact md.2 c j hc
                  · exact ChS_cg (chs_t ws1 ws0 md.1 hM37 ek) (t3 111 (by omega) (by omega) (by omega) (by omega) (by omega) (by omega)) (t3 112 (by omega) (by omega) (by omega) (by omega) (by omega) (by omega)) (by rw [t5])
                  · rw [tw.2.2.1, hMhi 36 (by omega) (by omega)]
            · skip
              refine x_aload_n (pc := 129) dX4_tick_129 (List.Mem.head _) ?_
              refine x_dup (pc := 130) dX4_tick_130 rfl ?_
              refine z_getI (pc := 131) (k := 13) (v := ((tk2 q (tk1 q M)) 35)) dX4_tick_131 lf_X4_71 sh_104 rfl fd5.2.2.2.1 ?_
              refine z_iconst (pc := 134) dX4_tick_134 ?_
              refine z_iadd (pc := 135) dX4_tick_135 ?_
              refine z_putI (pc := 136) (k := 13) dX4_tick_136 lp_X4_71 sh_104 rfl ?_
              have ok18 := okI ok6 104 13 (v := ((((tk2 q (tk1 q M)) 35)) + 1)) (by omega) (by omega)
              refine x_aload_n (pc := 139) dX4_tick_139 (List.Mem.head _) ?_
              refine x_dup (pc := 140) dX4_tick_140 rfl ?_
              refine z_getI (pc := 141) (k := 14) (v := ((tk2 q (tk1 q M)) 36)) dX4_tick_141 lf_X4_74 sh_104 rfl (by first | exact fd5.2.2.2.2.1 | (rw [wI1k (by omega)]; exact fd5.2.2.2.2.1)) ?_
              refine z_iconst (pc := 144) dX4_tick_144 ?_
              refine z_iadd (pc := 145) dX4_tick_145 ?_
              refine z_putI (pc := 146) (k := 14) dX4_tick_146 lp_X4_74 sh_104 rfl ?_
              have ok19 := okI ok18 104 14 (v := ((((tk2 q (tk1 q M)) 36)) + 1)) (by omega) (by omega)
              refine x_aload_n (pc := 149) dX4_tick_149 (List.Mem.head _) ?_
              refine z_getI (pc := 150) (k := 15) (v := ((tk2 q (tk1 q M)) 37)) dX4_tick_150 lf_X4_77 sh_104 rfl (by first | (rw [wI1k (by omega)]; exact fd5.2.2.2.2.2.1) | (rw [wI1k (by omega), wI1k (by omega)]; exact fd5.2.2.2.2.2.1)) ?_
              refine z_if_ne (pc := 153) (tgt := 170) dX4_tick_153 (by decide) (by omega) (by omega) (fun hb20 => ?_) (fun hb20 => ?_)
              · skip
                refine z_vreturn (pc := 170) dX4_tick_170 rfl ok19 ?_
                have eT : tickF q M = tk3 (tk2 q (tk1 q M)) := rfl
                have f6 : Fr4 H5 (wI (wI H5 104 13 (((((tk2 q (tk1 q M)) 35)) + 1))) 104 14 (((((tk2 q (tk1 q M)) 36)) + 1))) := by repeat' first | exact Fr4_0 _ | refine Fr4_I ?_ (by omega)
                have fd6 : FldR (wI (wI H5 104 13 (((((tk2 q (tk1 q M)) 35)) + 1))) 104 14 (((((tk2 q (tk1 q M)) 36)) + 1))) (tickF q M) := by
                  rw [eT]
                  refine ⟨?_, ?_, ?_, ?_, ?_, ?_, ?_, ?_⟩
                  · show _ = _
                    rw [wI1k (by omega), wI1k (by omega)]
                    exact fd5.1
                  · show _ = _
                    rw [wI1k (by omega), wI1k (by omega)]
                    exact fd5.2.1
                  · show _ = _
                    rw [wI1k (by omega), wI1k (by omega)]
                    exact fd5.2.2.1
                  · show _ = _
                    rw [wI1k (by omega), wI1]
                    show _ = (tk2 q (tk1 q M)) 35 + (if (tk2 q (tk1 q M)) 33 = 0 ∧ (tk2 q (tk1 q M)) 32 = 0 then 1 else 0)
                    rw [if_pos (by omega)]
                  · show _ = _
                    rw [wI1]
                    rfl
                  · show _ = _
                    rw [wI1k (by omega), wI1k (by omega)]
                    show _ = (if (tk2 q (tk1 q M)) 37 = 0 ∧ (tk2 q (tk1 q M)) 36 + 1 = 99 then 3 else (tk2 q (tk1 q M)) 37)
                    rw [if_neg (by omega)]; exact fd5.2.2.2.2.2.1
                  · show _ = _
                    rw [wI1k (by omega), wI1k (by omega)]
                    exact fd5.2.2.2.2.2.2.1
                  · show _ = _
                    rw [wI1k (by omega), wI1k (by omega)]
                    exact fd5.2.2.2.2.2.2.2
                have te := tk_end ws1 rdm f4 mv f5 f6 fd6
                obtain ⟨t1, t2, t3, t4, t5⟩ := te
                have tw := tickF_wf ws1 ws0 wm wxm hM37
                have ek : M 41 = q 1 := by omega
                refine ⟨tickF q M, ⟨fun c j hc => ?_, fun c j hc => ?_⟩, t1, fun j hj => (t4 j hj).trans (congrFun (fr 104 (by omega) (by omega) (by omega)) j), t2, ?_, rfl, ?_⟩
                · rw [t3 c (by omega) (by omega) (by omega) (by omega) (by omega) (by omega)]; exact congrFun (fr c (by omega) (by omega) (by omega)) j
                · rw [t5]; exact md.2 c j hc
                · exact ChS_cg (chs_t ws1 ws0 md.1 hM37 ek) (t3 111 (by omega) (by omega) (by omega) (by omega) (by omega) (by omega)) (t3 112 (by omega) (by omega) (by omega) (by omega) (by omega) (by omega)) (by rw [t5])
                · rw [tw.2.2.1, hMhi 36 (by omega) (by omega)]
              · skip
                refine x_aload_n (pc := 156) dX4_tick_156 (List.Mem.head _) ?_
                refine z_getI (pc := 157) (k := 14) (v := ((((tk2 q (tk1 q M)) 36)) + 1)) dX4_tick_157 lf_X4_74 sh_104 rfl (by rw [wI1]) ?_
                refine z_bipush (pc := 160) dX4_tick_160 bp_99 ?_
                refine z_icmp_lt (pc := 162) (tgt := 170) dX4_tick_162 (by decide) (by omega) (by omega) (by decide) (by decide) (fun hb21 => ?_) (fun hb21 => ?_)
                · skip
                  refine z_vreturn (pc := 170) dX4_tick_170 rfl ok19 ?_
                  have eT : tickF q M = tk3 (tk2 q (tk1 q M)) := rfl
                  have f6 : Fr4 H5 (wI (wI H5 104 13 (((((tk2 q (tk1 q M)) 35)) + 1))) 104 14 (((((tk2 q (tk1 q M)) 36)) + 1))) := by repeat' first | exact Fr4_0 _ | refine Fr4_I ?_ (by omega)
                  have fd6 : FldR (wI (wI H5 104 13 (((((tk2 q (tk1 q M)) 35)) + 1))) 104 14 (((((tk2 q (tk1 q M)) 36)) + 1))) (tickF q M) := by
                    rw [eT]
                    refine ⟨?_, ?_, ?_, ?_, ?_, ?_, ?_, ?_⟩
                    · show _ = _
                      rw [wI1k (by omega), wI1k (by omega)]
                      exact fd5.1
                    · show _ = _
                      rw [wI1k (by omega), wI1k (by omega)]
                      exact fd5.2.1
                    · show _ = _
                      rw [wI1k (by omega), wI1k (by omega)]
                      exact fd5.2.2.1
                    · show _ = _
                      rw [wI1k (by omega), wI1]
                      show _ = (tk2 q (tk1 q M)) 35 + (if (tk2 q (tk1 q M)) 33 = 0 ∧ (tk2 q (tk1 q M)) 32 = 0 then 1 else 0)
                      rw [if_pos (by omega)]
                    · show _ = _
                      rw [wI1]
                      rfl
                    · show _ = _
                      rw [wI1k (by omega), wI1k (by omega)]
                      show _ = (if (tk2 q (tk1 q M)) 37 = 0 ∧ (tk2 q (tk1 q M)) 36 + 1 = 99 then 3 else (tk2 q (tk1 q M)) 37)
                      rw [if_neg (by omega)]; exact fd5.2.2.2.2.2.1
                    · show _ = _
                      rw [wI1k (by omega), wI1k (by omega)]
                      exact fd5.2.2.2.2.2.2.1
                    · show _ = _
                      rw [wI1k (by omega), wI1k (by omega)]
                      exact fd5.2.2.2.2.2.2.2
                  have te := tk_end ws1 rdm f4 mv f5 f6 fd6
                  obtain ⟨t1, t2, t3, t4, t5⟩ := te
                  have tw := tickF_wf ws1 ws0 wm wxm hM37
                  have ek : M 41 = q 1 := by omega
                  refine ⟨tickF q M, ⟨fun c j hc => ?_, fun c j hc => ?_⟩, t1, fun j hj => (t4 j hj).trans (congrFun (fr 104 (by omega) (by omega) (by omega)) j), t2, ?_, rfl, ?_⟩
                  · rw [t3 c (by omega) (by omega) (by omega) (by omega) (by omega) (by omega)]; exact congrFun (fr c (by omega) (by omega) (by omega)) j
                  · rw [t5]; exact md.2 c j hc
                  · exact ChS_cg (chs_t ws1 ws0 md.1 hM37 ek) (t3 111 (by omega) (by omega) (by omega) (by omega) (by omega) (by omega)) (t3 112 (by omega) (by omega) (by omega) (by omega) (by omega) (by omega)) (by rw [t5])
                  · rw [tw.2.2.1, hMhi 36 (by omega) (by omega)]
                · skip
                  refine x_aload_n (pc := 165) dX4_tick_165 (List.Mem.head _) ?_
                  refine z_iconst (pc := 166) dX4_tick_166 ?_
                  refine z_putI (pc := 167) (k := 15) dX4_tick_167 lp_X4_77 sh_104 rfl ?_
                  have ok22 := okI ok19 104 15 (v := 3) (by decide) (by decide)
                  refine z_vreturn (pc := 170) dX4_tick_170 rfl ok22 ?_
                  have eT : tickF q M = tk3 (tk2 q (tk1 q M)) := rfl
                  have f6 : Fr4 H5 (wI (wI (wI H5 104 13 (((((tk2 q (tk1 q M)) 35)) + 1))) 104 14 (((((tk2 q (tk1 q M)) 36)) + 1))) 104 15 (3)) := by repeat' first | exact Fr4_0 _ | refine Fr4_I ?_ (by omega)
                  have fd6 : FldR (wI (wI (wI H5 104 13 (((((tk2 q (tk1 q M)) 35)) + 1))) 104 14 (((((tk2 q (tk1 q M)) 36)) + 1))) 104 15 (3)) (tickF q M) := by
                    rw [eT]
                    refine ⟨?_, ?_, ?_, ?_, ?_, ?_, ?_, ?_⟩
                    · show _ = _
                      rw [wI1k (by omega), wI1k (by omega), wI1k (by omega)]
                      exact fd5.1
                    · show _ = _
                      rw [wI1k (by omega), wI1k (by omega), wI1k (by omega)]
                      exact fd5.2.1
                    · show _ = _
                      rw [wI1k (by omega), wI1k (by omega), wI1k (by omega)]
                      exact fd5.2.2.1
                    · show _ = _
                      rw [wI1k (by omega), wI1k (by omega), wI1]
                      show _ = (tk2 q (tk1 q M)) 35 + (if (tk2 q (tk1 q M)) 33 = 0 ∧ (tk2 q (tk1 q M)) 32 = 0 then 1 else 0)
                      rw [if_pos (by omega)]
                    · show _ = _
                      rw [wI1k (by omega), wI1]
                      rfl
                    · show _ = _
                      rw [wI1]
                      show _ = (if (tk2 q (tk1 q M)) 37 = 0 ∧ (tk2 q (tk1 q M)) 36 + 1 = 99 then 3 else (tk2 q (tk1 q M)) 37)
                      rw [if_pos (by omega)]
                    · show _ = _
                      rw [wI1k (by omega), wI1k (by omega), wI1k (by omega)]
                      exact fd5.2.2.2.2.2.2.1
                    · show _ = _
                      rw [wI1k (by omega), wI1k (by omega), wI1k (by omega)]
                      exact fd5.2.2.2.2.2.2.2
                  have te := tk_end ws1 rdm f4 mv f5 f6 fd6
                  obtain ⟨t1, t2, t3, t4, t5⟩ := te
                  have tw := tickF_wf ws1 ws0 wm wxm hM37
                  have ek : M 41 = q 1 := by omega
                  refine ⟨tickF q M, ⟨fun c j hc => ?_, fun c j hc => ?_⟩, t1, fun j hj => (t4 j hj).trans (congrFun (fr 104 (by omega) (by omega) (by omega)) j), t2, ?_, rfl, ?_⟩
                  · rw [t3 c (by omega) (by omega) (by omega) (by omega) (by omega) (by omega)]; exact congrFun (fr c (by omega) (by omega) (by omega)) j
                  · rw [t5]; exact md.2 c j hc
                  · exact ChS_cg (chs_t ws1 ws0 md.1 hM37 ek) (t3 111 (by omega) (by omega) (by omega) (by omega) (by omega) (by omega)) (t3 112 (by omega) (by omega) (by omega) (by omega) (by omega) (by omega)) (by rw [t5])
                  · rw [tw.2.2.1, hMhi 36 (by omega) (by omega)]
        refine x_aload_n (pc := 58) dX4_tick_58 (List.Mem.head _) ?_
        refine z_getI (pc := 59) (k := 11) (v := (M 33)) dX4_tick_59 lf_X4_64 sh_104 rfl fdm.2.1 ?_
        refine z_if_ne (pc := 62) (tgt := 107) dX4_tick_62 (by decide) (by omega) (by omega) (fun hb23 => ?_) (fun hb23 => ?_)
        · skip
          have hE : entB q M = false := by unfold entB; rw [decide_eq_false (by omega : ¬ M 33 = 0)]; rfl
          refine x_weaken (L1 := [(0, .ref 104)]) (List.forall_mem_cons.mpr ⟨(List.Mem.head _), (fun _ h => absurd h List.not_mem_nil)⟩) ?_
          exact jn107  Hm okl2 (by repeat' first | exact Fr4_0 _ | refine Fr4_I ?_ (by omega)) (by first | exact FldR_tk1 fdm hE | (rw [tk1_no hE]; exact fdm))
        · skip
          refine x_aload_n (pc := 65) dX4_tick_65 (List.Mem.head _) ?_
          refine z_getI (pc := 66) (k := 10) (v := (M 32)) dX4_tick_66 lf_X4_61 sh_104 rfl fdm.1 ?_
          refine z_if_ne (pc := 69) (tgt := 86) dX4_tick_69 (by decide) (by omega) (by omega) (fun hb24 => ?_) (fun hb24 => ?_)
          · skip
            refine x_aload_n (pc := 86) dX4_tick_86 (List.Mem.head _) ?_
            refine x_aload_n (pc := 87) dX4_tick_87 (List.Mem.head _) ?_
            refine z_getI (pc := 88) (k := 10) (v := (M 32)) dX4_tick_88 lf_X4_61 sh_104 rfl fdm.1 ?_
            refine z_callVbp (pc := 91) (i := mX4_isFree) (S := []) [.int (zN (((M 32))))] dX4_tick_91 ml_X4_99 ok_X4_isFree rfl sh_104 rfl (Or.inr rfl) (Nat.le_of_ble_eq_true rfl) (c_X4_isFree (d := d + 2) (s := s) (q := q) (N := M) (ln := (((M 32)))) (ln1 := (by omega)) (ln2 := (by omega)) (ok := okl2) (hs := hs) (hsc := hsm) (ws := ws) (rs := rsm) (wn := wm) (rd := rdm)) (fun hc27 ok26 => ?_) (fun hc27 ok26 => ?_)
            · skip
              have hfr : tfr q M (M 32) (q 1).toNat = true := hc27
              have hE : entB q M = true := by unfold entB; rw [decide_eq_true (by omega : M 33 = 0), hfr]; rfl
              refine z_if_eq (pc := 94) (tgt := 107) dX4_tick_94 (by decide) (by decide) (by decide) (fun h => absurd h (by decide)) (fun _ => ?_)
              refine x_aload_n (pc := 97) dX4_tick_97 (List.Mem.head _) ?_
              refine z_iconst (pc := 98) dX4_tick_98 ?_
              refine z_putZ (pc := 99) (k := 11) dX4_tick_99 lp_X4_64 sh_104 rfl (by omega) ?_
              have ok29 := okI ok26 104 11 (v := 1) (by decide) (by decide)
              refine x_aload_n (pc := 102) dX4_tick_102 (List.Mem.head _) ?_
              refine z_iconst (pc := 103) dX4_tick_103 ?_
              refine z_putI (pc := 104) (k := 12) dX4_tick_104 lp_X4_68 sh_104 rfl ?_
              have ok30 := okI ok29 104 12 (v := 0) (by decide) (by decide)
              refine x_weaken (L1 := [(0, .ref 104)]) (List.forall_mem_cons.mpr ⟨(List.Mem.head _), (fun _ h => absurd h List.not_mem_nil)⟩) ?_
              exact jn107  (wI (wI Hm 104 11 (1)) 104 12 (0)) ok30 (by repeat' first | exact Fr4_0 _ | refine Fr4_I ?_ (by omega)) (by first | exact FldR_tk1 fdm hE | (rw [tk1_no hE]; exact fdm))
            · skip
              have hfr : tfr q M (M 32) (q 1).toNat = false := Bool.eq_false_iff.mpr hc27
              have hE : entB q M = false := by unfold entB; rw [hfr, decide_eq_false (by omega : ¬ (M 32 = 0 ∧ q 37 ≤ M 35)), Bool.or_false, Bool.and_false]
              refine z_if_eq (pc := 94) (tgt := 107) dX4_tick_94 (by decide) (by decide) (by decide) (fun _ => ?_) (fun h => absurd h (by decide))
              refine x_weaken (L1 := [(0, .ref 104)]) (List.forall_mem_cons.mpr ⟨(List.Mem.head _), (fun _ h => absurd h List.not_mem_nil)⟩) ?_
              exact jn107  Hm ok26 (by repeat' first | exact Fr4_0 _ | refine Fr4_I ?_ (by omega)) (by first | exact FldR_tk1 fdm hE | (rw [tk1_no hE]; exact fdm))
          · skip
            refine x_aload_n (pc := 72) dX4_tick_72 (List.Mem.head _) ?_
            refine z_getI (pc := 73) (k := 13) (v := (M 35)) dX4_tick_73 lf_X4_71 sh_104 rfl fdm.2.2.2.1 ?_
            refine x_aload_n (pc := 76) dX4_tick_76 (List.Mem.head _) ?_
            refine z_getY (pc := 77) (k := 1) (r := s) dX4_tick_77 lf_X4_42 sh_104 rfl (by rw [hsm]) (by omega) ?_
            refine z_getI (pc := 80) (k := 9) (v := (q 37)) dX4_tick_80 lf_X4_96 (sh_Sc0 hs) rfl (by rw [es s (by omega) (by omega)]; exact rs37) ?_
            refine z_icmp_ge (pc := 83) (tgt := 97) dX4_tick_83 (by decide) (by omega) (by omega) (by omega) (by omega) (fun hb32 => ?_) (fun hb32 => ?_)
            · skip
              have hE : entB q M = true := by unfold entB; rw [decide_eq_true (by omega : M 33 = 0), decide_eq_true (by omega : M 32 = 0 ∧ q 37 ≤ M 35), Bool.or_true]; rfl
              refine x_aload_n (pc := 97) dX4_tick_97 (List.Mem.head _) ?_
              refine z_iconst (pc := 98) dX4_tick_98 ?_
              refine z_putZ (pc := 99) (k := 11) dX4_tick_99 lp_X4_64 sh_104 rfl (by omega) ?_
              have ok33 := okI okl2 104 11 (v := 1) (by decide) (by decide)
              refine x_aload_n (pc := 102) dX4_tick_102 (List.Mem.head _) ?_
              refine z_iconst (pc := 103) dX4_tick_103 ?_
              refine z_putI (pc := 104) (k := 12) dX4_tick_104 lp_X4_68 sh_104 rfl ?_
              have ok34 := okI ok33 104 12 (v := 0) (by decide) (by decide)
              refine x_weaken (L1 := [(0, .ref 104)]) (List.forall_mem_cons.mpr ⟨(List.Mem.head _), (fun _ h => absurd h List.not_mem_nil)⟩) ?_
              exact jn107  (wI (wI Hm 104 11 (1)) 104 12 (0)) ok34 (by repeat' first | exact Fr4_0 _ | refine Fr4_I ?_ (by omega)) (by first | exact FldR_tk1 fdm hE | (rw [tk1_no hE]; exact fdm))
            · skip
              refine x_aload_n (pc := 86) dX4_tick_86 (List.Mem.head _) ?_
              refine x_aload_n (pc := 87) dX4_tick_87 (List.Mem.head _) ?_
              refine z_getI (pc := 88) (k := 10) (v := (M 32)) dX4_tick_88 lf_X4_61 sh_104 rfl fdm.1 ?_
              refine z_callVbp (pc := 91) (i := mX4_isFree) (S := []) [.int (zN (((M 32))))] dX4_tick_91 ml_X4_99 ok_X4_isFree rfl sh_104 rfl (Or.inr rfl) (Nat.le_of_ble_eq_true rfl) (c_X4_isFree (d := d + 2) (s := s) (q := q) (N := M) (ln := (((M 32)))) (ln1 := (by omega)) (ln2 := (by omega)) (ok := okl2) (hs := hs) (hsc := hsm) (ws := ws) (rs := rsm) (wn := wm) (rd := rdm)) (fun hc37 ok36 => ?_) (fun hc37 ok36 => ?_)
              · skip
                have hfr : tfr q M (M 32) (q 1).toNat = true := hc37
                have hE : entB q M = true := by unfold entB; rw [decide_eq_true (by omega : M 33 = 0), hfr]; rfl
                refine z_if_eq (pc := 94) (tgt := 107) dX4_tick_94 (by decide) (by decide) (by decide) (fun h => absurd h (by decide)) (fun _ => ?_)
                refine x_aload_n (pc := 97) dX4_tick_97 (List.Mem.head _) ?_
                refine z_iconst (pc := 98) dX4_tick_98 ?_
                refine z_putZ (pc := 99) (k := 11) dX4_tick_99 lp_X4_64 sh_104 rfl (by omega) ?_
                have ok39 := okI ok36 104 11 (v := 1) (by decide) (by decide)
                refine x_aload_n (pc := 102) dX4_tick_102 (List.Mem.head _) ?_
                refine z_iconst (pc := 103) dX4_tick_103 ?_
                refine z_putI (pc := 104) (k := 12) dX4_tick_104 lp_X4_68 sh_104 rfl ?_
                have ok40 := okI ok39 104 12 (v := 0) (by decide) (by decide)
                refine x_weaken (L1 := [(0, .ref 104)]) (List.forall_mem_cons.mpr ⟨(List.Mem.head _), (fun _ h => absurd h List.not_mem_nil)⟩) ?_
                exact jn107  (wI (wI Hm 104 11 (1)) 104 12 (0)) ok40 (by repeat' first | exact Fr4_0 _ | refine Fr4_I ?_ (by omega)) (by first | exact FldR_tk1 fdm hE | (rw [tk1_no hE]; exact fdm))
              · skip
                have hfr : tfr q M (M 32) (q 1).toNat = false := Bool.eq_false_iff.mpr hc37
                have hE : entB q M = false := by unfold entB; rw [hfr, decide_eq_false (by omega : ¬ (M 32 = 0 ∧ q 37 ≤ M 35)), Bool.or_false, Bool.and_false]
                refine z_if_eq (pc := 94) (tgt := 107) dX4_tick_94 (by decide) (by decide) (by decide) (fun _ => ?_) (fun h => absurd h (by decide))
                refine x_weaken (L1 := [(0, .ref 104)]) (List.forall_mem_cons.mpr ⟨(List.Mem.head _), (fun _ h => absurd h List.not_mem_nil)⟩) ?_
                exact jn107  Hm ok36 (by repeat' first | exact Fr4_0 _ | refine Fr4_I ?_ (by omega)) (by first | exact FldR_tk1 fdm hE | (rw [tk1_no hE]; exact fdm))
      · skip
        have dmk := rdm.1 k (by omega)
        have vmk := wmC k (by omega)
        refine x_aload_n (pc := 13) dX4_tick_13 (List.Mem.head _) ?_
        refine z_getR (pc := 14) (k := 6) (r := 107) dX4_tick_14 lf_X4_29 sh_104 rfl rf_104_6 ?_
        refine x_iload_n (pc := 17) dX4_tick_17 (List.Mem.tail _ (List.Mem.head _)) ?_
        refine z_iald (pc := 18) (j := k) (v := (M (16 + k))) dX4_tick_18 sh_107 rfl (by omega) (by decide) dmk.2.2.1 ?_
        refine z_if_ne (pc := 19) (tgt := 52) dX4_tick_19 (by decide) (by omega) (by omega) (fun hb42 => ?_) (fun hb42 => ?_)
        · skip
          have hA : ask q M k = false := decide_eq_false (by omega)
          have fr3 := fr
          have md3 : ChS Hm q (H.1 104 3) (drw1 q (H.1 104 3) M) X ∧ ∀ cc j, ¬ (cc = 111 ∧ j = 5) → Hm.2 cc j = H.2 cc j := ⟨chs_d ws1.2 md.1 hM37 (by omega) (rnd_na hM41 hA), md.2⟩
          have rdm3 : RepRd Hm q (drw1 q (H.1 104 3) M) := RepRd_cg ws1.2 rdm (fun j hj => drw1_no hM41 hA (by omega))
          have hM3 : MwI q N (drw1 q (H.1 104 3) M) (k + 1) := MwI_d ws1.2 hM (by omega)
          refine z_iinc (pc := 52) dX4_tick_52 (List.Mem.tail _ (List.Mem.head _)) (Nat.le_of_ble_eq_true rfl) ?_
          show Ev _ _ _ _ _ [(1, .int (zN ((k : Int) + 1))), (0, .ref 104)] _ _
          refine x_goto (pc := 55) (tgt := 2) dX4_tick_55 (by decide) ?_
          refine x_weaken (L1 := [(0, .ref 104), (1, .int (zN ((((k + 1) : Nat) : Int))))]) (List.forall_mem_cons.mpr ⟨(List.Mem.tail _ (List.Mem.head _)), (List.forall_mem_cons.mpr ⟨(mem_ci (by omega) (List.Mem.head _)), (fun _ h => absurd h List.not_mem_nil)⟩)⟩) ?_
          exact ih2 ((k + 1)) ((drw1 q (H.1 104 3) M)) Hm okl2 (by omega) (hM3) (fr3) (rdm3) (md3) (by omega)
        · skip
          refine x_aload_n (pc := 22) dX4_tick_22 (List.Mem.head _) ?_
          refine z_getR (pc := 23) (k := 4) (r := 105) dX4_tick_23 lf_X4_22 sh_104 rfl rf_104_4 ?_
          refine x_iload_n (pc := 26) dX4_tick_26 (List.Mem.tail _ (List.Mem.head _)) ?_
          refine z_iald (pc := 27) (j := k) (v := (M k)) dX4_tick_27 sh_105 rfl (by omega) (by decide) dmk.1 ?_
          refine z_if_le (pc := 28) (tgt := 52) dX4_tick_28 (by decide) (by omega) (by omega) (fun hb43 => ?_) (fun hb43 => ?_)
          · skip
            have hA : ask q M k = false := decide_eq_false (by omega)
            have fr3 := fr
            have md3 : ChS Hm q (H.1 104 3) (drw1 q (H.1 104 3) M) X ∧ ∀ cc j, ¬ (cc = 111 ∧ j = 5) → Hm.2 cc j = H.2 cc j := ⟨chs_d ws1.2 md.1 hM37 (by omega) (rnd_na hM41 hA), md.2⟩
            have rdm3 : RepRd Hm q (drw1 q (H.1 104 3) M) := RepRd_cg ws1.2 rdm (fun j hj => drw1_no hM41 hA (by omega))
            have hM3 : MwI q N (drw1 q (H.1 104 3) M) (k + 1) := MwI_d ws1.2 hM (by omega)
            refine z_iinc (pc := 52) dX4_tick_52 (List.Mem.tail _ (List.Mem.head _)) (Nat.le_of_ble_eq_true rfl) ?_
            show Ev _ _ _ _ _ [(1, .int (zN ((k : Int) + 1))), (0, .ref 104)] _ _
            refine x_goto (pc := 55) (tgt := 2) dX4_tick_55 (by decide) ?_
            refine x_weaken (L1 := [(0, .ref 104), (1, .int (zN ((((k + 1) : Nat) : Int))))]) (List.forall_mem_cons.mpr ⟨(List.Mem.tail _ (List.Mem.head _)), (List.forall_mem_cons.mpr ⟨(mem_ci (by omega) (List.Mem.head _)), (fun _ h => absurd h List.not_mem_nil)⟩)⟩) ?_
            exact ih2 ((k + 1)) ((drw1 q (H.1 104 3) M)) Hm okl2 (by omega) (hM3) (fr3) (rdm3) (md3) (by omega)
          · skip
            refine x_aload_n (pc := 31) dX4_tick_31 (List.Mem.head _) ?_
            refine z_getR (pc := 32) (k := 4) (r := 105) dX4_tick_32 lf_X4_22 sh_104 rfl rf_104_4 ?_
            refine x_iload_n (pc := 35) dX4_tick_35 (List.Mem.tail _ (List.Mem.head _)) ?_
            refine z_iald (pc := 36) (j := k) (v := (M k)) dX4_tick_36 sh_105 rfl (by omega) (by decide) dmk.1 ?_
            refine x_aload_n (pc := 37) dX4_tick_37 (List.Mem.head _) ?_
            refine z_getY (pc := 38) (k := 1) (r := s) dX4_tick_38 lf_X4_42 sh_104 rfl (by rw [hsm]) (by omega) ?_
            refine z_getI (pc := 41) (k := 10) (v := (q 38)) dX4_tick_41 lf_X4_89 (sh_Sc0 hs) rfl (by rw [es s (by omega) (by omega)]; exact rs38) ?_
            refine z_icmp_gt (pc := 44) (tgt := 52) dX4_tick_44 (by decide) (by omega) (by omega) (by omega) (by omega) (fun hb44 => ?_) (fun hb44 => ?_)
            · skip
              have hA : ask q M k = false := decide_eq_false (by omega)
              have fr3 := fr
              have md3 : ChS Hm q (H.1 104 3) (drw1 q (H.1 104 3) M) X ∧ ∀ cc j, ¬ (cc = 111 ∧ j = 5) → Hm.2 cc j = H.2 cc j := ⟨chs_d ws1.2 md.1 hM37 (by omega) (rnd_na hM41 hA), md.2⟩
              have rdm3 : RepRd Hm q (drw1 q (H.1 104 3) M) := RepRd_cg ws1.2 rdm (fun j hj => drw1_no hM41 hA (by omega))
              have hM3 : MwI q N (drw1 q (H.1 104 3) M) (k + 1) := MwI_d ws1.2 hM (by omega)
              refine z_iinc (pc := 52) dX4_tick_52 (List.Mem.tail _ (List.Mem.head _)) (Nat.le_of_ble_eq_true rfl) ?_
              show Ev _ _ _ _ _ [(1, .int (zN ((k : Int) + 1))), (0, .ref 104)] _ _
              refine x_goto (pc := 55) (tgt := 2) dX4_tick_55 (by decide) ?_
              refine x_weaken (L1 := [(0, .ref 104), (1, .int (zN ((((k + 1) : Nat) : Int))))]) (List.forall_mem_cons.mpr ⟨(List.Mem.tail _ (List.Mem.head _)), (List.forall_mem_cons.mpr ⟨(mem_ci (by omega) (List.Mem.head _)), (fun _ h => absurd h List.not_mem_nil)⟩)⟩) ?_
              exact ih2 ((k + 1)) ((drw1 q (H.1 104 3) M)) Hm okl2 (by omega) (hM3) (fr3) (rdm3) (md3) (by omega)
            · skip
              have hA : ask q M k = true := decide_eq_true (by omega)
              refine x_aload_n (pc := 47) dX4_tick_47 (List.Mem.head _) ?_
              refine x_iload_n (pc := 48) dX4_tick_48 (List.Mem.tail _ (List.Mem.head _)) ?_
              refine z_callVv (pc := 49) (i := mX4_decide) (S := []) [.int (zN ((k : Int)))] dX4_tick_49 ml_X4_92 ok_X4_decide rfl sh_104 rfl rfl (Nat.le_of_ble_eq_true rfl) (c_X4_decide_w (d := d) (s := s) (q := q) (N := M) (c := k) (hc := (show (k : Int) < q 1 by omega)) (ok := okl2) (hs := hs) (hsc := hsm) (ws := ws) (rs := rsm) (wn := wm) (rd := rdm) (rl := rlm) (wl := wl) (cb := (chs_b ws1 ws0 md.1).1) (c8 := (by have z1 := chs_b ws1 ws0 md.1; have z2 := und_pos (q := q) (M := M) (c := k) (by omega) (by omega); omega))) ?_
              intro H3 ok46 hp47
              rw [e3] at hp47
              obtain ⟨M2, hM3, dk3, rdm3, ch3, j3⟩ := dw_step ws1 ws0 wl hM hM37 (by omega) hA rdm md.1 hp47
              have fr3 : DkF H H3 := fun cc a b c => (dk3 cc a b c).trans (fr cc a b c)
              have md3 : ChS H3 q (H.1 104 3) M2 X ∧ ∀ cc j, ¬ (cc = 111 ∧ j = 5) → H3.2 cc j = H.2 cc j := ⟨ch3, fun cc j h => (j3 cc j h).trans (md.2 cc j h)⟩
              refine z_iinc (pc := 52) dX4_tick_52 (List.Mem.tail _ (List.Mem.head _)) (Nat.le_of_ble_eq_true rfl) ?_
              show Ev _ _ _ _ _ [(1, .int (zN ((k : Int) + 1))), (0, .ref 104)] _ _
              refine x_goto (pc := 55) (tgt := 2) dX4_tick_55 (by decide) ?_
              refine x_weaken (L1 := [(0, .ref 104), (1, .int (zN ((((k + 1) : Nat) : Int))))]) (List.forall_mem_cons.mpr ⟨(List.Mem.tail _ (List.Mem.head _)), (List.forall_mem_cons.mpr ⟨(mem_ci (by omega) (List.Mem.head _)), (fun _ h => absurd h List.not_mem_nil)⟩)⟩) ?_
              exact ih2 ((k + 1)) (M2) H3 ok46 (by omega) (hM3) (fr3) (rdm3) (md3) (by omega)
  refine x_weaken (L1 := [(0, .ref 104), (1, .int (zN (((0 : Nat) : Int))))]) (List.forall_mem_cons.mpr ⟨(List.Mem.tail _ (List.Mem.head _)), (List.forall_mem_cons.mpr ⟨(mem_ci (by omega) (List.Mem.head _)), (fun _ h => absurd h List.not_mem_nil)⟩)⟩) ?_
  exact lp2 ((q 1).toNat - 0 + 1) (0) (N) H ok (by omega) (⟨e41, wn, wx, fun _ _ _ => rfl⟩) (fun _ _ _ _ => rfl) (rd) (⟨chs, fun _ _ _ => rfl⟩) (Nat.lt_succ_self _)
