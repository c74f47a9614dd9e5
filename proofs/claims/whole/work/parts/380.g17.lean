/-! GROUP G17: how the cars go, in the class. -/
/-- with v at j -/
def ins (g : Nat → Int) (j : Nat) (v : Int) (k : Nat) : Int := if k = j then v else g k
theorem ins_at (g : Nat → Int) (j : Nat) (v : Int) : ins g j v j = v := if_pos rfl
theorem ins_ne {g : Nat → Int} {j : Nat} {v : Int} {k : Nat} (h : ¬ k = j) : ins g j v k = g k := if_neg h
theorem ins_self (g : Nat → Int) (j : Nat) : ins g j (g j) = g := by
  funext k
  unfold ins
  split
  · next q => rw [q]
  · rfl
/-- sorted up to i, with v to be put at j -/
def SrtH (D g : Nat → Int) (v : Int) (j i : Nat) : Prop := (∀ a b, a < b → b ≤ i → a ≠ j → b ≠ j → bfo D (g a).toNat (g b).toNat) ∧ ∀ b, j < b → b ≤ i → bfo D v.toNat (g b).toNat
def Srt (D f : Nat → Int) (i : Nat) : Prop := ∀ a b, a < b → b < i → bfo D (f a).toNat (f b).toNat
theorem srt_0 {D f : Nat → Int} {i : Nat} (h : Srt D f i) : SrtH D f (f i) i i := ⟨fun a b h1 h2 h3 h4 => h a b h1 (by omega), fun b h1 h2 => by omega⟩
/-- the one before goes up -/
theorem srt_s {D g : Nat → Int} {v : Int} {j i : Nat} (h : SrtH D g v (j + 1) i) (hi : j + 1 ≤ i) (hb : bfo D v.toNat (g j).toNat) : SrtH D (fun k => if k = j + 1 then g j else g k) v j i := by
  refine ⟨fun a b h1 h2 h3 h4 => ?_, fun b h1 h2 => ?_⟩
  · show bfo D (if a = j + 1 then g j else g a).toNat (if b = j + 1 then g j else g b).toNat
    by_cases q1 : a = j + 1
    · rw [if_pos q1, if_neg (by omega)]
      exact h.1 j b (by omega) h2 (by omega) (by omega)
    · by_cases q2 : b = j + 1
      · rw [if_neg q1, if_pos q2]
        exact h.1 a j (by omega) (by omega) (by omega) (by omega)
      · rw [if_neg q1, if_neg q2]
        exact h.1 a b h1 h2 q1 q2
  · show bfo D v.toNat (if b = j + 1 then g j else g b).toNat
    by_cases q2 : b = j + 1
    · rw [if_pos q2]; exact hb
    · rw [if_neg q2]; exact h.2 b (by omega) h2
/-- it stays here -/
theorem srt_e {D g : Nat → Int} {v : Int} {j i : Nat} (h : SrtH D g v j i) (hj : j ≤ i) (hb : 0 < j → bfo D (g (j - 1)).toNat v.toNat) : Srt D (ins g j v) (i + 1) := by
  intro a b h1 h2
  by_cases q1 : a = j
  · rw [q1, ins_at, ins_ne (by omega)]
    exact h.2 b (by omega) (by omega)
  · by_cases q2 : b = j
    · rw [ins_ne q1, q2, ins_at]
      by_cases q3 : a = j - 1
      · rw [q3]; exact hb (by omega)
      · exact bfo_tr (h.1 a (j - 1) (by omega) (by omega) q1 (by omega)) (hb (by omega))
    · rw [ins_ne q1, ins_ne q2]
      exact h.1 a b h1 (by omega) q1 q2
theorem perm_s {g : Nat → Int} {v : Int} {j n : Nat} (h : Perm8 (ins g (j + 1) v) n) (hj : j + 1 < n) : Perm8 (ins (fun k => if k = j + 1 then g j else g k) j v) n := by
  have e : ∀ k, ins (fun k => if k = j + 1 then g j else g k) j v k = ins g (j + 1) v (if k = j then j + 1 else if k = j + 1 then j else k) := by
    intro k
    by_cases q : k = j
    · rw [if_pos q, q, ins_at, ins_at]
    · rw [if_neg q, ins_ne q]
      by_cases q2 : k = j + 1
      · rw [if_pos q2, if_pos q2, ins_ne (by omega)]
      · rw [if_neg q2, if_neg q2, ins_ne q2]
  have hs : ∀ k, k < n → (if k = j then j + 1 else if k = j + 1 then j else k) < n := fun k hk => by (repeat' split) <;> omega
  obtain ⟨p1, p2, p3⟩ := h
  refine ⟨fun i hi => by rw [e]; exact p1 _ (hs i hi), fun i k hi hk hne => ?_, fun c hc => ?_⟩
  · rw [e, e]
    exact p2 _ _ (hs i hi) (hs k hk) (by (repeat' split) <;> omega)
  · obtain ⟨i, hi, ei⟩ := p3 c hc
    refine ⟨(if i = j then j + 1 else if i = j + 1 then j else i), hs i hi, ?_⟩
    rw [e]
    have : (if (if i = j then j + 1 else if i = j + 1 then j else i) = j then j + 1 else if (if i = j then j + 1 else if i = j + 1 then j else i) = j + 1 then j else (if i = j then j + 1 else if i = j + 1 then j else i)) = i := by
      (repeat' split) <;> omega
    rw [this]
    exact ei
theorem wI_wI (H : ZH) (c k : Nat) (a b : Int) : wI (wI H c k a) c k b = wI H c k b := by
  unfold wI
  refine Prod.ext ?_ rfl
  funext c' k'
  show (if c' = c ∧ k' = k then b else if c' = c ∧ k' = k then a else H.1 c' k') = if c' = c ∧ k' = k then b else H.1 c' k'
  split <;> rfl
def mvC (H : ZH) (c l : Nat) (h s d w k : Int) : ZH := wI (wI (wI (wI (wI H 108 c h) 106 c s) 105 c d) 110 l w) 104 18 k
theorem wIp {H : ZH} {c k : Nat} {v : Int} (j : Nat) : (wI H c k v).1 c j = if j = k then v else H.1 c j := by
  rw [wIg]
  by_cases q : j = k
  · rw [if_pos ⟨rfl, q⟩, if_pos q]
  · rw [if_neg (fun z => q z.2), if_neg q]
theorem mvC_105 (H : ZH) (c l : Nat) (h s d w k : Int) (j : Nat) : (mvC H c l h s d w k).1 105 j = if j = c then d else H.1 105 j := by
  unfold mvC
  rw [wI1c (by omega), wI1c (by omega), wIp, wI1c (by omega), wI1c (by omega)]
theorem mvC_106 (H : ZH) (c l : Nat) (h s d w k : Int) (j : Nat) : (mvC H c l h s d w k).1 106 j = if j = c then s else H.1 106 j := by
  unfold mvC
  rw [wI1c (by omega), wI1c (by omega), wI1c (by omega), wIp, wI1c (by omega)]
theorem mvC_108 (H : ZH) (c l : Nat) (h s d w k : Int) (j : Nat) : (mvC H c l h s d w k).1 108 j = if j = c then h else H.1 108 j := by
  unfold mvC
  rw [wI1c (by omega), wI1c (by omega), wI1c (by omega), wI1c (by omega), wIp]
theorem mvC_110 (H : ZH) (c l : Nat) (h s d w k : Int) (j : Nat) : (mvC H c l h s d w k).1 110 j = if j = l then w else H.1 110 j := by
  unfold mvC
  rw [wI1c (by omega), wIp, wI1c (by omega), wI1c (by omega), wI1c (by omega)]
theorem mvC_104 (H : ZH) (c l : Nat) (h s d w k : Int) (j : Nat) : (mvC H c l h s d w k).1 104 j = if j = 18 then k else H.1 104 j := by
  unfold mvC
  rw [wIp, wI1c (by omega), wI1c (by omega), wI1c (by omega), wI1c (by omega)]
theorem mvC_o (H : ZH) (c l : Nat) (h s d w k : Int) {cc : Nat} (hc : cc ≠ 104 ∧ cc ≠ 105 ∧ cc ≠ 106 ∧ cc ≠ 108 ∧ cc ≠ 110) : (mvC H c l h s d w k).1 cc = H.1 cc := by
  unfold mvC
  rw [wIf (by omega), wIf (by omega), wIf (by omega), wIf (by omega), wIf (by omega)]
/-- the class half way -/
def CkI (H Hm : ZH) (q N f : Nat → Int) (G : Nat → Bool) : Prop := (∀ cc, cc ≠ 104 → cc ≠ 105 → cc ≠ 106 → cc ≠ 108 → cc ≠ 109 → cc ≠ 110 → Hm.1 cc = H.1 cc) ∧ (∀ k, k ≠ 18 → Hm.1 104 k = H.1 104 k) ∧ Hm.2 = H.2 ∧ Hm.1 109 = f ∧ MVI q N G (Hm.1 105) (Hm.1 106) (Hm.1 108) (fun c => N (24 + c)) (Hm.1 104 18) ∧ ∀ l : Nat, l < 4 → Hm.1 110 l = wlG q N G (l : Int)
theorem wlG_bd {q N : Nat → Int} {G : Nat → Bool} {l : Int} (h : ∀ c : Nat, (c : Int) < q 1 → G c = true → 0 < N c ∧ N c ≤ 200 ∧ 0 ≤ N (8 + c) ∧ N (8 + c) ≤ 9) : 0 ≤ wlG q N G l ∧ wlG q N G l ≤ 200 := by
  refine ⟨mxf_nn _ _, mxf_le (by decide) (fun d hd => ?_)⟩
  show (if q (2 + d) = l ∧ G d = true then ctr N d (wl q N d) else 0) ≤ 200
  split
  · next z =>
    obtain ⟨h1, h2, h3, h4⟩ := h d (by omega) z.2
    have b := ndi_bd (V := N) (c := d) (w := wl q N d) ⟨h1, h2⟩ ⟨h3, h4⟩
    unfold ctr
    split <;> omega
  · omega
theorem ck_step {H Hm : ZH} {q N f : Nat → Int} {G : Nat → Bool} {c : Nat} {w : Int} (h : CkI H Hm q N f G) (ws : WFS q) (wn : WFN q N) (hc : (c : Int) < q 1) (hG : G c = false) (hp : 0 < N c) (hk : ∀ d : Nat, (d : Int) < q 1 → q (2 + d) = q (2 + c) → (G d = true ↔ 0 < N d ∧ bfo N d c)) (hw : w = Hm.1 110 (q (2 + c)).toNat) : CkI H (mvC Hm c (q (2 + c)).toNat (if hld N c w = true then 1 else 0) (nsp N c) (ndi N c w) (if w < ctr N c w then ctr N c w else w) (if (ndi N c w ≤ 0 ∧ N 33 = 1 ∧ q (2 + c) = N 32) ∧ (Hm.1 104 18 = -1 ∨ (c : Int) < Hm.1 104 18) then (c : Int) else Hm.1 104 18)) q N f (Gup G c) := by
  have h8 : q 1 ≤ 8 := ws.2.1.2
  obtain ⟨fr, f104, f2, f109, mv, wa⟩ := h
  have lb := (ws.2.2.1 c hc).1
  have l4 := ws.1.2
  have eW : w = wl q N c := by
    rw [hw, wa _ (by omega), show (((q (2 + c)).toNat : Nat) : Int) = q (2 + c) by omega]
    exact (wl_G h8 hc (wn.1 c hc).1.2 hk).symm
  rw [eW]
  refine ⟨fun cc h1 h2 h3 h4 h5 h6 => ?_, fun k hk18 => ?_, f2, ?_, ?_, fun l hl => ?_⟩
  · rw [mvC_o _ _ _ _ _ _ _ _ (by omega)]; exact fr cc h1 h2 h3 h4 h5 h6
  · rw [mvC_104, if_neg hk18]; exact f104 k hk18
  · rw [mvC_o _ _ _ _ _ _ _ _ (by omega)]; exact f109
  · refine MVI_s mv hc hG hp (fun d hd => by rw [mvC_105]) (fun d hd => by rw [mvC_106]) (fun d hd => by rw [mvC_108]) ?_
    rw [mvC_104, if_pos rfl]
  · rw [mvC_110, wlG_s hc hG]
    have e0 : wlG q N G (q (2 + c)) = wl q N c := (wl_G h8 hc (wn.1 c hc).1.2 hk).symm
    by_cases z : l = (q (2 + c)).toNat
    · have z2 : (l : Int) = q (2 + c) := by omega
      rw [if_pos z, z2, e0]
      by_cases y : wl q N c < ctr N c (wl q N c)
      · rw [if_pos y, if_pos ⟨rfl, y⟩]
      · rw [if_neg y, if_neg (fun x => y x.2)]
    · rw [if_neg z, if_neg (fun x => z (by omega))]
      exact wa l hl
/-- what the cars' moving makes of the class's road -/
def MvP (H H1 : ZH) (q N : Nat → Int) : Prop := (∀ cc, cc ≠ 104 → cc ≠ 105 → cc ≠ 106 → cc ≠ 108 → cc ≠ 109 → cc ≠ 110 → H1.1 cc = H.1 cc) ∧ (∀ k, k ≠ 18 → H1.1 104 k = H.1 104 k) ∧ H1.2 = H.2 ∧ Perm8 (H1.1 109) (q 1).toNat ∧ (∀ c : Nat, (c : Int) < q 1 → H1.1 105 c = mvN q N c ∧ H1.1 106 c = mvN q N (8 + c) ∧ H1.1 108 c = mvN q N (24 + c)) ∧ H1.1 104 18 = knF q N
theorem ck_key {q N D f : Nat → Int} {G : Nat → Bool} {i : Nat} (hD : ∀ d : Nat, (d : Int) < q 1 → D d = N d) (pm : Perm8 f (q 1).toNat) (st : Srt D f (q 1).toNat) (hi : i < (q 1).toNat) (gi : ∀ d : Nat, (d : Int) < q 1 → (G d = true ↔ 0 < N d ∧ ∃ j, j < i ∧ f j = (d : Int))) : G (f i).toNat = false ∧ ∀ d : Nat, (d : Int) < q 1 → (G d = true ↔ 0 < N d ∧ bfo N d (f i).toNat) := by
  obtain ⟨p1, p2, p3⟩ := pm
  have pi := p1 i hi
  have cv : ∀ a b : Nat, (a : Int) < q 1 → (b : Int) < q 1 → bfo D a b → bfo N a b := by
    intro a b ha hb h
    unfold bfo at h ⊢
    rw [hD a ha, hD b hb] at h
    exact h
  refine ⟨?_, fun d hd => ?_⟩
  · cases g : G (f i).toNat with
    | false => rfl
    | true =>
      obtain ⟨_, j, hj, e⟩ := (gi _ (by omega)).mp g
      exact absurd (show f j = f i by rw [e]; omega) (p2 j i (by omega) hi (by omega))
  · rw [gi d hd]
    refine and_congr_right (fun hp => ⟨fun ⟨j, hj, e⟩ => ?_, fun hb => ?_⟩)
    · have z := st j i hj hi
      rw [show (f j).toNat = d by omega] at z
      exact cv _ _ hd (by omega) z
    · obtain ⟨j, hj, e⟩ := p3 d (by omega)
      rcases Nat.lt_trichotomy j i with y | y | y
      · exact ⟨j, y, e⟩
      · subst y
        rw [show (f j).toNat = d by omega] at hb
        exact absurd hb bfo_irr
      · have z := st i j y hj
        rw [show (f j).toNat = d by omega] at z
        exact absurd (bfo_tr hb (cv _ _ (by omega) hd z)) bfo_irr

theorem c_X4_isBehind {d : Nat} {H : ZH} (ok : okZ H) {c e : Nat} (hc : c < 8) (he : e < 8) : EvC zX (d + 1) mX4_isBehind [.ref 104, .int (zN ((c : Int))), .int (zN ((e : Int)))] (eh H) (zPi (fun (rz : Int) (Hz : ZH) => rz = (if bfo (H.1 105) e c then 1 else 0) ∧ Hz = H)) := by
  show _ ∧ Ev zX mX4_isBehind (EvC zX d) (zPi (fun (rz : Int) (Hz : ZH) => rz = (if bfo (H.1 105) e c then 1 else 0) ∧ Hz = H)) 0 [(0, .ref 104), (1, .int (zN ((c : Int)))), (2, .int (zN ((e : Int))))] [] (eh H)
  refine ⟨Nat.le_of_ble_eq_true rfl, ?_⟩
  refine x_aload_n (pc := 0) dX4_isBehind_0 (List.Mem.head _) ?_
  refine z_getR (pc := 1) (k := 4) (r := 105) dX4_isBehind_1 lf_X4_22 sh_104 rfl rf_104_4 ?_
  refine x_iload_n (pc := 4) dX4_isBehind_4 (List.Mem.tail _ (List.Mem.head _)) ?_
  have rd1 := ok.1 105 c
  refine z_iald (pc := 5) (j := c) (v := H.1 105 c) dX4_isBehind_5 sh_105 rfl (by omega) (by decide) rfl ?_
  refine x_aload_n (pc := 6) dX4_isBehind_6 (List.Mem.head _) ?_
  refine z_getR (pc := 7) (k := 4) (r := 105) dX4_isBehind_7 lf_X4_22 sh_104 rfl rf_104_4 ?_
  refine x_iload_n (pc := 10) dX4_isBehind_10 (List.Mem.tail _ (List.Mem.tail _ (List.Mem.head _))) ?_
  have rd2 := ok.1 105 e
  refine z_iald (pc := 11) (j := e) (v := H.1 105 e) dX4_isBehind_11 sh_105 rfl (by omega) (by decide) rfl ?_
  refine z_icmp_gt (pc := 12) (tgt := 35) dX4_isBehind_12 (by decide) (by omega) (by omega) (by omega) (by omega) (fun hb3 => ?_) (fun hb3 => ?_)
  · skip
    refine z_iconst (pc := 35) dX4_isBehind_35 ?_
    refine x_goto (pc := 36) (tgt := 40) dX4_isBehind_36 (by decide) ?_
    refine z_ireturn (pc := 40) dX4_isBehind_40 rfl (Or.inr ⟨rfl, by omega⟩) ok (by decide) (by decide) ?_
    refine ⟨?_, rfl⟩
    first | exact (if_pos (by unfold bfo; omega)).symm | exact (if_neg (by unfold bfo; omega)).symm
  · skip
    refine x_aload_n (pc := 15) dX4_isBehind_15 (List.Mem.head _) ?_
    refine z_getR (pc := 16) (k := 4) (r := 105) dX4_isBehind_16 lf_X4_22 sh_104 rfl rf_104_4 ?_
    refine x_iload_n (pc := 19) dX4_isBehind_19 (List.Mem.tail _ (List.Mem.head _)) ?_
    have rd4 := ok.1 105 c
    refine z_iald (pc := 20) (j := c) (v := H.1 105 c) dX4_isBehind_20 sh_105 rfl (by omega) (by decide) rfl ?_
    refine x_aload_n (pc := 21) dX4_isBehind_21 (List.Mem.head _) ?_
    refine z_getR (pc := 22) (k := 4) (r := 105) dX4_isBehind_22 lf_X4_22 sh_104 rfl rf_104_4 ?_
    refine x_iload_n (pc := 25) dX4_isBehind_25 (List.Mem.tail _ (List.Mem.tail _ (List.Mem.head _))) ?_
    have rd5 := ok.1 105 e
    refine z_iald (pc := 26) (j := e) (v := H.1 105 e) dX4_isBehind_26 sh_105 rfl (by omega) (by decide) rfl ?_
    refine z_icmp_ne (pc := 27) (tgt := 39) dX4_isBehind_27 (by decide) (by omega) (by omega) (by omega) (by omega) (fun hb6 => ?_) (fun hb6 => ?_)
    · skip
      refine z_iconst (pc := 39) dX4_isBehind_39 ?_
      refine z_ireturn (pc := 40) dX4_isBehind_40 rfl (Or.inr ⟨rfl, by omega⟩) ok (by decide) (by decide) ?_
      refine ⟨?_, rfl⟩
      first | exact (if_pos (by unfold bfo; omega)).symm | exact (if_neg (by unfold bfo; omega)).symm
    · skip
      refine x_iload_n (pc := 30) dX4_isBehind_30 (List.Mem.tail _ (List.Mem.head _)) ?_
      refine x_iload_n (pc := 31) dX4_isBehind_31 (List.Mem.tail _ (List.Mem.tail _ (List.Mem.head _))) ?_
      refine z_icmp_le (pc := 32) (tgt := 39) dX4_isBehind_32 (by decide) (by omega) (by omega) (by omega) (by omega) (fun hb7 => ?_) (fun hb7 => ?_)
      · skip
        refine z_iconst (pc := 39) dX4_isBehind_39 ?_
        refine z_ireturn (pc := 40) dX4_isBehind_40 rfl (Or.inr ⟨rfl, by omega⟩) ok (by decide) (by decide) ?_
        refine ⟨?_, rfl⟩
        first | exact (if_pos (by unfold bfo; omega)).symm | exact (if_neg (by unfold bfo; omega)).symm
      · skip
        refine z_iconst (pc := 35) dX4_isBehind_35 ?_
        refine x_goto (pc := 36) (tgt := 40) dX4_isBehind_36 (by decide) ?_
        refine z_ireturn (pc := 40) dX4_isBehind_40 rfl (Or.inr ⟨rfl, by omega⟩) ok (by decide) (by decide) ?_
        refine ⟨?_, rfl⟩
        first | exact (if_pos (by unfold bfo; omega)).symm | exact (if_neg (by unfold bfo; omega)).symm

theorem c_X4_sortByDist {d : Nat} {H : ZH} (ok : okZ H) {s : Nat} {q : Nat → Int} (hs : isSc s) (hsc : H.1 104 1 = (s : Int)) (ws : WFS q) (rs : RepSc H s q) (pm : Perm8 (H.1 109) (q 1).toNat) : EvC zX (d + 2) mX4_sortByDist [.ref 104] (eh H) (zPv (fun (H1 : ZH) => ∃ f, H1 = wA H 109 f ∧ Perm8 f (q 1).toNat ∧ Srt (H.1 105) f (q 1).toNat)) := by
  show _ ∧ Ev zX mX4_sortByDist (EvC zX (d + 1)) (zPv (fun (H1 : ZH) => ∃ f, H1 = wA H 109 f ∧ Perm8 f (q 1).toNat ∧ Srt (H.1 105) f (q 1).toNat)) 0 [(0, .ref 104)] [] (eh H)
  refine ⟨Nat.le_of_ble_eq_true rfl, ?_⟩
  have hsr := isSc_r hs
  have wsx := ws
  obtain ⟨ws0, ws1, wsC, ws34, ws35, ws36, ws37, ws38, ws39⟩ := wsx
  have rsx := rs
  obtain ⟨rs0, rs1, rsC, rs34, rs35, rs36, rs37, rs38, rs39⟩ := rsx
  refine z_iconst (pc := 0) dX4_sortByDist_0 ?_
  refine x_istore_n (pc := 1) dX4_sortByDist_1 (Nat.le_of_ble_eq_true rfl) ?_
  show Ev _ _ _ _ _ [(1, .int (zN (1))), (0, .ref 104)] _ _
  have lp2 : ∀ (nF : Nat) (i : Nat) (f : Nat → Int), okZ (wA H 109 (f)) → (1 ≤ i) → (i ≤ 8) → (Perm8 f (q 1).toNat) → (Srt (H.1 105) f i) → (q 1).toNat - i < nF → Ev zX mX4_sortByDist (EvC zX (d + 1)) (zPv (fun (H1 : ZH) => ∃ f, H1 = wA H 109 f ∧ Perm8 f (q 1).toNat ∧ Srt (H.1 105) f (q 1).toNat)) 2 [(0, .ref 104), (1, .int (zN ((i : Int))))] [] (eh (wA H 109 (f))) := by
    intro nF
    induction nF with
    | zero => intro i f okl2 h1 h2 pf sf hm; exact absurd hm (Nat.not_lt_zero _)
    | succ nF ih2 =>
      intro i f okl2 h1 h2 pf sf hm
      refine x_iload_n (pc := 2) dX4_sortByDist_2 (List.Mem.tail _ (List.Mem.head _)) ?_
      refine x_aload_n (pc := 3) dX4_sortByDist_3 (List.Mem.head _) ?_
      refine z_getY (pc := 4) (k := 1) (r := s) dX4_sortByDist_4 lf_X4_42 sh_104 rfl (by rw [wA1c (by omega), hsc]) (by omega) ?_
      refine z_getI (pc := 7) (k := 1) (v := (q 1)) dX4_sortByDist_7 lf_X4_56 (sh_Sc0 hs) rfl (by rw [wA1c (by omega), rs1]) ?_
      refine z_icmp_ge (pc := 10) (tgt := 75) dX4_sortByDist_10 (by decide) (by omega) (by omega) (by omega) (by omega) (fun hb1 => ?_) (fun hb1 => ?_)
      · skip
        refine z_vreturn (pc := 75) dX4_sortByDist_75 rfl okl2 ?_
        exact ⟨f, rfl, pf, fun a b x y => sf a b x (by omega)⟩
      · skip
        have pi0 := pf.1 i (by omega)
        refine x_aload_n (pc := 13) dX4_sortByDist_13 (List.Mem.head _) ?_
        refine z_getR (pc := 14) (k := 8) (r := 109) dX4_sortByDist_14 lf_X4_36 sh_104 rfl rf_104_8 ?_
        refine x_iload_n (pc := 17) dX4_sortByDist_17 (List.Mem.tail _ (List.Mem.head _)) ?_
        refine z_iald (pc := 18) (j := i) (v := (f) i) dX4_sortByDist_18 sh_109 rfl (by omega) (by decide) (by rw [wA1]) ?_
        refine x_istore_n (pc := 19) dX4_sortByDist_19 (Nat.le_of_ble_eq_true rfl) ?_
        show Ev _ _ _ _ _ [(2, .int (zN (((f) i)))), (0, .ref 104), (1, .int (zN ((i : Int))))] _ _
        refine x_iload_n (pc := 20) dX4_sortByDist_20 (List.Mem.tail _ (List.Mem.tail _ (List.Mem.head _))) ?_
        refine x_istore_n (pc := 21) dX4_sortByDist_21 (Nat.le_of_ble_eq_true rfl) ?_
        show Ev _ _ _ _ _ [(3, .int (zN ((i : Int)))), (2, .int (zN (((f) i)))), (0, .ref 104), (1, .int (zN ((i : Int))))] _ _
        have lp22 : ∀ (nF : Nat) (j : Nat) (g : Nat → Int), okZ (wA H 109 (g)) → (j ≤ i) → (Perm8 (ins g j (f i)) (q 1).toNat) → (SrtH (H.1 105) g (f i) j i) → j < nF → Ev zX mX4_sortByDist (EvC zX (d + 1)) (zPv (fun (H1 : ZH) => ∃ f, H1 = wA H 109 f ∧ Perm8 f (q 1).toNat ∧ Srt (H.1 105) f (q 1).toNat)) 22 [(0, .ref 104), (1, .int (zN ((i : Int)))), (2, .int (zN ((f i)))), (3, .int (zN ((j : Int))))] [] (eh (wA H 109 (g))) := by
          intro nF
          induction nF with
          | zero => intro j g okl22 hj hper sh hm; exact absurd hm (Nat.not_lt_zero _)
          | succ nF ih22 =>
            intro j g okl22 hj hper sh hm
            have pi := hper.1 j (by omega)
            rw [ins_at] at pi
            refine x_iload_n (pc := 22) dX4_sortByDist_22 (List.Mem.tail _ (List.Mem.tail _ (List.Mem.tail _ (List.Mem.head _)))) ?_
            refine z_if_le (pc := 23) (tgt := 62) dX4_sortByDist_23 (by decide) (by omega) (by omega) (fun hb2 => ?_) (fun hb2 => ?_)
            · skip
              have hb2 : 0 < j → bfo (H.1 105) (g (j - 1)).toNat (f i).toNat := fun z => absurd z (by omega)
              refine x_aload_n (pc := 62) dX4_sortByDist_62 (List.Mem.head _) ?_
              refine z_getR (pc := 63) (k := 8) (r := 109) dX4_sortByDist_63 lf_X4_36 sh_104 rfl rf_104_8 ?_
              refine x_iload_n (pc := 66) dX4_sortByDist_66 (List.Mem.tail _ (List.Mem.tail _ (List.Mem.tail _ (List.Mem.head _)))) ?_
              refine x_iload_n (pc := 67) dX4_sortByDist_67 (List.Mem.tail _ (List.Mem.tail _ (List.Mem.head _))) ?_
              refine z_iast (pc := 68) (j := j) (v := (f i)) dX4_sortByDist_68 sh_109 rfl (by omega) (by decide) ?_
              have ok3 := okI okl22 109 j (v := (f i)) (by omega) (by omega)
              refine z_iinc (pc := 69) dX4_sortByDist_69 (List.Mem.tail _ (List.Mem.head _)) (Nat.le_of_ble_eq_true rfl) ?_
              show Ev _ _ _ _ _ [(1, .int (zN ((i : Int) + 1))), (0, .ref 104), (2, .int (zN ((f i)))), (3, .int (zN ((j : Int))))] _ _
              refine x_goto (pc := 72) (tgt := 2) dX4_sortByDist_72 (by decide) ?_
              refine x_weaken (L1 := [(0, .ref 104), (1, .int (zN ((((i + 1) : Nat) : Int))))]) (List.forall_mem_cons.mpr ⟨(List.Mem.tail _ (List.Mem.head _)), (List.forall_mem_cons.mpr ⟨(mem_ci (by omega) (List.Mem.head _)), (fun _ h => absurd h List.not_mem_nil)⟩)⟩) ?_
              have he4 : (wI (wA H 109 (g)) 109 j ((f i))) = (wA H 109 ((ins g j (f i)))) := by rw [wI_wA]; rfl
              refine Ev_heq he4 ?_
              have ok5 : okZ (wA H 109 ((ins g j (f i)))) := by rw [← he4]; exact ok3
              exact ih2 ((i + 1)) ((ins g j (f i))) ok5 (by omega) (by omega) (hper) (srt_e sh (by omega) hb2) (by omega)
            · skip
              have hj1 : j - 1 + 1 = j := by omega
              have pj := hper.1 (j - 1) (by omega)
              rw [ins_ne (by omega)] at pj
              refine x_aload_n (pc := 26) dX4_sortByDist_26 (List.Mem.head _) ?_
              refine x_aload_n (pc := 27) dX4_sortByDist_27 (List.Mem.head _) ?_
              refine z_getR (pc := 28) (k := 8) (r := 109) dX4_sortByDist_28 lf_X4_36 sh_104 rfl rf_104_8 ?_
              refine x_iload_n (pc := 31) dX4_sortByDist_31 (List.Mem.tail _ (List.Mem.tail _ (List.Mem.tail _ (List.Mem.head _)))) ?_
              refine z_iconst (pc := 32) dX4_sortByDist_32 ?_
              refine z_isub (pc := 33) dX4_sortByDist_33 ?_
              refine z_iald (pc := 34) (j := j - 1) (v := (g) (j - 1)) dX4_sortByDist_34 sh_109 (by omega) (by omega) (by decide) (by rw [wA1]) ?_
              refine x_iload_n (pc := 35) dX4_sortByDist_35 (List.Mem.tail _ (List.Mem.tail _ (List.Mem.head _))) ?_
              refine z_callVbp (pc := 36) (i := mX4_isBehind) (S := []) [.int (zN (((g) (j - 1)))), .int (zN ((f i)))] dX4_sortByDist_36 ml_X4_187 ok_X4_isBehind rfl sh_104 rfl (Or.inr rfl) (Nat.le_of_ble_eq_true rfl) (by have qz := c_X4_isBehind (d := d) (c := ((g (j - 1)).toNat)) (e := ((f i).toNat)) (hc := (by omega)) (he := (by omega)) (ok := okl22); rw [show (((g (j - 1)).toNat : Nat) : Int) = ((g) (j - 1)) by omega] at qz; rw [show (((f i).toNat : Nat) : Int) = (f i) by omega] at qz; exact qz) (fun hc8 ok7 => ?_) (fun hc8 ok7 => ?_)
              · skip
                have hcb : bfo (H.1 105) (f i).toNat (g (j - 1)).toNat := hc8
                refine z_if_eq (pc := 39) (tgt := 62) dX4_sortByDist_39 (by decide) (by decide) (by decide) (fun h => absurd h (by decide)) (fun _ => ?_)
                refine x_aload_n (pc := 42) dX4_sortByDist_42 (List.Mem.head _) ?_
                refine z_getR (pc := 43) (k := 8) (r := 109) dX4_sortByDist_43 lf_X4_36 sh_104 rfl rf_104_8 ?_
                refine x_iload_n (pc := 46) dX4_sortByDist_46 (List.Mem.tail _ (List.Mem.tail _ (List.Mem.tail _ (List.Mem.head _)))) ?_
                refine x_aload_n (pc := 47) dX4_sortByDist_47 (List.Mem.head _) ?_
                refine z_getR (pc := 48) (k := 8) (r := 109) dX4_sortByDist_48 lf_X4_36 sh_104 rfl rf_104_8 ?_
                refine x_iload_n (pc := 51) dX4_sortByDist_51 (List.Mem.tail _ (List.Mem.tail _ (List.Mem.tail _ (List.Mem.head _)))) ?_
                refine z_iconst (pc := 52) dX4_sortByDist_52 ?_
                refine z_isub (pc := 53) dX4_sortByDist_53 ?_
                refine z_iald (pc := 54) (j := j - 1) (v := (g) (j - 1)) dX4_sortByDist_54 sh_109 (by omega) (by omega) (by decide) (by rw [wA1]) ?_
                refine z_iast (pc := 55) (j := j) (v := ((g) (j - 1))) dX4_sortByDist_55 sh_109 rfl (by omega) (by decide) ?_
                have ok10 := okI ok7 109 j (v := ((g) (j - 1))) (by omega) (by omega)
                refine z_iinc (pc := 56) dX4_sortByDist_56 (List.Mem.tail _ (List.Mem.tail _ (List.Mem.tail _ (List.Mem.head _)))) (Nat.le_of_ble_eq_true rfl) ?_
                show Ev _ _ _ _ _ [(3, .int (zN ((j : Int) + (-1)))), (0, .ref 104), (1, .int (zN ((i : Int)))), (2, .int (zN ((f i))))] _ _
                refine x_goto (pc := 59) (tgt := 22) dX4_sortByDist_59 (by decide) ?_
                refine x_weaken (L1 := [(0, .ref 104), (1, .int (zN ((i : Int)))), (2, .int (zN ((f i)))), (3, .int (zN ((((j - 1) : Nat) : Int))))]) (List.forall_mem_cons.mpr ⟨(List.Mem.tail _ (List.Mem.head _)), (List.forall_mem_cons.mpr ⟨(List.Mem.tail _ (List.Mem.tail _ (List.Mem.head _))), (List.forall_mem_cons.mpr ⟨(List.Mem.tail _ (List.Mem.tail _ (List.Mem.tail _ (List.Mem.head _)))), (List.forall_mem_cons.mpr ⟨(mem_ci (by omega) (List.Mem.head _)), (fun _ h => absurd h List.not_mem_nil)⟩)⟩)⟩)⟩) ?_
                have he11 : (wI (wA H 109 (g)) 109 j (((g) (j - 1)))) = (wA H 109 ((fun k => if k = j then g (j - 1) else g k))) := by rw [wI_wA]
                refine Ev_heq he11 ?_
                have ok12 : okZ (wA H 109 ((fun k => if k = j then g (j - 1) else g k))) := by rw [← he11]; exact ok10
                exact ih22 ((j - 1)) ((fun k => if k = j then g (j - 1) else g k)) ok12 (by omega) (by have z := perm_s (j := j - 1) (v := f i) (by rw [hj1]; exact hper) (by omega); rw [hj1] at z; exact z) (by have z := srt_s (j := j - 1) (v := f i) (by rw [hj1]; exact sh) (by omega) hcb; rw [hj1] at z; exact z) (by omega)
              · skip
                have hcn : ¬ bfo (H.1 105) (f i).toNat (g (j - 1)).toNat := hc8
                have hdi := hper.2.1 (j - 1) j (by omega) (by omega) (by omega)
                rw [ins_ne (by omega), ins_at] at hdi
                have hb2 : 0 < j → bfo (H.1 105) (g (j - 1)).toNat (f i).toNat := fun _ => bfo_tot hcn (fun z => hdi (by omega))
                refine z_if_eq (pc := 39) (tgt := 62) dX4_sortByDist_39 (by decide) (by decide) (by decide) (fun _ => ?_) (fun h => absurd h (by decide))
                refine x_aload_n (pc := 62) dX4_sortByDist_62 (List.Mem.head _) ?_
                refine z_getR (pc := 63) (k := 8) (r := 109) dX4_sortByDist_63 lf_X4_36 sh_104 rfl rf_104_8 ?_
                refine x_iload_n (pc := 66) dX4_sortByDist_66 (List.Mem.tail _ (List.Mem.tail _ (List.Mem.tail _ (List.Mem.head _)))) ?_
                refine x_iload_n (pc := 67) dX4_sortByDist_67 (List.Mem.tail _ (List.Mem.tail _ (List.Mem.head _))) ?_
                refine z_iast (pc := 68) (j := j) (v := (f i)) dX4_sortByDist_68 sh_109 rfl (by omega) (by decide) ?_
                have ok14 := okI ok7 109 j (v := (f i)) (by omega) (by omega)
                refine z_iinc (pc := 69) dX4_sortByDist_69 (List.Mem.tail _ (List.Mem.head _)) (Nat.le_of_ble_eq_true rfl) ?_
                show Ev _ _ _ _ _ [(1, .int (zN ((i : Int) + 1))), (0, .ref 104), (2, .int (zN ((f i)))), (3, .int (zN ((j : Int))))] _ _
                refine x_goto (pc := 72) (tgt := 2) dX4_sortByDist_72 (by decide) ?_
                refine x_weaken (L1 := [(0, .ref 104), (1, .int (zN ((((i + 1) : Nat) : Int))))]) (List.forall_mem_cons.mpr ⟨(List.Mem.tail _ (List.Mem.head _)), (List.forall_mem_cons.mpr ⟨(mem_ci (by omega) (List.Mem.head _)), (fun _ h => absurd h List.not_mem_nil)⟩)⟩) ?_
                have he15 : (wI (wA H 109 (g)) 109 j ((f i))) = (wA H 109 ((ins g j (f i)))) := by rw [wI_wA]; rfl
                refine Ev_heq he15 ?_
                have ok16 : okZ (wA H 109 ((ins g j (f i)))) := by rw [← he15]; exact ok14
                exact ih2 ((i + 1)) ((ins g j (f i))) ok16 (by omega) (by omega) (hper) (srt_e sh (by omega) hb2) (by omega)
        refine x_weaken (L1 := [(0, .ref 104), (1, .int (zN ((i : Int)))), (2, .int (zN ((f i)))), (3, .int (zN (((i : Nat) : Int))))]) (List.forall_mem_cons.mpr ⟨(List.Mem.tail _ (List.Mem.tail _ (List.Mem.head _))), (List.forall_mem_cons.mpr ⟨(List.Mem.tail _ (List.Mem.tail _ (List.Mem.tail _ (List.Mem.head _)))), (List.forall_mem_cons.mpr ⟨(mem_ci (by omega) (List.Mem.tail _ (List.Mem.head _))), (List.forall_mem_cons.mpr ⟨(mem_ci (by omega) (List.Mem.head _)), (fun _ h => absurd h List.not_mem_nil)⟩)⟩)⟩)⟩) ?_
        have he17 : (wA H 109 (f)) = (wA H 109 (f)) := rfl
        refine Ev_heq he17 ?_
        have ok18 : okZ (wA H 109 (f)) := by rw [← he17]; exact okl2
        exact lp22 (i + 1) (i) (f) ok18 (by omega) (by rw [ins_self]; exact pf) (srt_0 sf) (Nat.lt_succ_self _)
  refine x_weaken (L1 := [(0, .ref 104), (1, .int (zN (((1 : Nat) : Int))))]) (List.forall_mem_cons.mpr ⟨(List.Mem.tail _ (List.Mem.head _)), (List.forall_mem_cons.mpr ⟨(mem_ci (by omega) (List.Mem.head _)), (fun _ h => absurd h List.not_mem_nil)⟩)⟩) ?_
  have he19 : H = (wA H 109 (H.1 109)) := (wA_self H 109).symm
  refine Ev_heq he19 ?_
  have ok20 : okZ (wA H 109 (H.1 109)) := by rw [← he19]; exact ok
  exact lp2 ((q 1).toNat - 1 + 1) (1) (H.1 109) ok20 (by omega) (by omega) (pm) (fun a b x y => absurd y (by omega)) (Nat.lt_succ_self _)

theorem c_X4_moveCar {d : Nat} {H : ZH} (ok : okZ H) {s : Nat} {q N : Nat → Int} {c : Nat} {w : Int} (hc : (c : Int) < q 1) (hs : isSc s) (hsc : H.1 104 1 = (s : Int)) (ws : WFS q) (rs : RepSc H s q) (wn : WFN q N) (hD : H.1 105 c = N c) (hS : H.1 106 c = N (8 + c)) (hM : H.1 107 c = N (16 + c)) (h10 : H.1 104 10 = N 32) (h11 : H.1 104 11 = N 33) (hp : 0 < N c) (hw : H.1 110 (q (2 + c)).toNat = w) (hwb : 0 ≤ w ∧ w ≤ 200) : EvC zX (d + 1) mX4_moveCar [.ref 104, .int (zN ((c : Int)))] (eh H) (zPv (fun (H1 : ZH) => H1 = mvC H c (q (2 + c)).toNat (if hld N c w = true then (1 : Int) else 0) (nsp N c) (ndi N c w) (if w < ctr N c w then ctr N c w else w) (if (ndi N c w ≤ 0 ∧ N 33 = 1 ∧ q (2 + c) = N 32) ∧ (H.1 104 18 = -1 ∨ (c : Int) < H.1 104 18) then (c : Int) else H.1 104 18))) := by
  show _ ∧ Ev zX mX4_moveCar (EvC zX d) (zPv (fun (H1 : ZH) => H1 = mvC H c (q (2 + c)).toNat (if hld N c w = true then (1 : Int) else 0) (nsp N c) (ndi N c w) (if w < ctr N c w then ctr N c w else w) (if (ndi N c w ≤ 0 ∧ N 33 = 1 ∧ q (2 + c) = N 32) ∧ (H.1 104 18 = -1 ∨ (c : Int) < H.1 104 18) then (c : Int) else H.1 104 18))) 0 [(0, .ref 104), (1, .int (zN ((c : Int))))] [] (eh H)
  refine ⟨Nat.le_of_ble_eq_true rfl, ?_⟩
  have hsr := isSc_r hs
  have wsx := ws
  obtain ⟨ws0, ws1, wsC, ws34, ws35, ws36, ws37, ws38, ws39⟩ := wsx
  have rsx := rs
  obtain ⟨rs0, rs1, rsC, rs34, rs35, rs36, rs37, rs38, rs39⟩ := rsx
  have wck := wsC c hc
  have vck := wn.1 c hc
  have lk := (rsC c hc).1
  have nb := ndi_bd (V := N) (c := c) (w := w) ⟨hp, vck.1.2⟩ vck.2.1
  have sbb := nsp_bd (V := N) (c := c) vck.2.1
  have n33 := wn.2.2.1
  have n32 := wn.2.1
  refine x_aload_n (pc := 0) dX4_moveCar_0 (List.Mem.head _) ?_
  refine z_getY (pc := 1) (k := 1) (r := s) dX4_moveCar_1 lf_X4_42 sh_104 rfl (by rw [hsc]) (by omega) ?_
  refine z_getR (pc := 4) (k := 2) (r := (s + 1)) dX4_moveCar_4 lf_X4_143 (sh_Sc0 hs) rfl (rf_Sc_2 hs) ?_
  refine x_iload_n (pc := 7) dX4_moveCar_7 (List.Mem.tail _ (List.Mem.head _)) ?_
  refine z_iald (pc := 8) (j := c) (v := (q (2 + c))) dX4_moveCar_8 (sh_Sc1 hs) rfl (by omega) (by decide) (by rw [lk]) ?_
  refine x_istore_n (pc := 9) dX4_moveCar_9 (Nat.le_of_ble_eq_true rfl) ?_
  show Ev _ _ _ _ _ [(2, .int (zN (((q (2 + c)))))), (0, .ref 104), (1, .int (zN ((c : Int))))] _ _
  have jn194 : okZ (wI (wI (wI (wI H 108 c ((if hld N c w = true then (1 : Int) else 0))) 106 c (nsp N c)) 105 c (ndi N c w)) 110 ((q (2 + c)).toNat) ((if w < ctr N c w then ctr N c w else w))) → Ev zX mX4_moveCar (EvC zX d) (zPv (fun (H1 : ZH) => H1 = mvC H c (q (2 + c)).toNat (if hld N c w = true then (1 : Int) else 0) (nsp N c) (ndi N c w) (if w < ctr N c w then ctr N c w else w) (if (ndi N c w ≤ 0 ∧ N 33 = 1 ∧ q (2 + c) = N 32) ∧ (H.1 104 18 = -1 ∨ (c : Int) < H.1 104 18) then (c : Int) else H.1 104 18))) 194 [(0, .ref 104), (1, .int (zN ((c : Int)))), (2, .int (zN ((q (2 + c)))))] [] (eh (wI (wI (wI (wI H 108 c ((if hld N c w = true then (1 : Int) else 0))) 106 c (nsp N c)) 105 c (ndi N c w)) 110 ((q (2 + c)).toNat) ((if w < ctr N c w then ctr N c w else w)))) := by
    intro okj194
    refine x_aload_n (pc := 194) dX4_moveCar_194 (List.Mem.head _) ?_
    refine z_getR (pc := 195) (k := 4) (r := 105) dX4_moveCar_195 lf_X4_22 sh_104 rfl rf_104_4 ?_
    refine x_iload_n (pc := 198) dX4_moveCar_198 (List.Mem.tail _ (List.Mem.head _)) ?_
    refine z_iald (pc := 199) (j := c) (v := ndi N c w) dX4_moveCar_199 sh_105 rfl (by omega) (by decide) (by rw [wI1c (by omega), wI1]) ?_
    refine z_if_gt (pc := 200) (tgt := 239) dX4_moveCar_200 (by decide) (by omega) (by omega) (fun hb1 => ?_) (fun hb1 => ?_)
    · skip
      refine z_vreturn (pc := 239) dX4_moveCar_239 rfl okj194 ?_
      first | (unfold mvC; rw [show (if (ndi N c w ≤ 0 ∧ N 33 = 1 ∧ q (2 + c) = N 32) ∧ (H.1 104 18 = -1 ∨ (c : Int) < H.1 104 18) then (c : Int) else H.1 104 18) = (c : Int) from if_pos (by omega)]; done) | (unfold mvC; rw [show (if (ndi N c w ≤ 0 ∧ N 33 = 1 ∧ q (2 + c) = N 32) ∧ (H.1 104 18 = -1 ∨ (c : Int) < H.1 104 18) then (c : Int) else H.1 104 18) = H.1 104 18 from if_neg (by omega)]; refine (wI_id ?_).symm; rw [wI1c (by omega), wI1c (by omega), wI1c (by omega), wI1c (by omega)])
    · skip
      refine x_aload_n (pc := 203) dX4_moveCar_203 (List.Mem.head _) ?_
      refine z_getI (pc := 204) (k := 11) (v := (N 33)) dX4_moveCar_204 lf_X4_64 sh_104 rfl (by rw [wI1c (by omega), wI1c (by omega), wI1c (by omega), wI1c (by omega), h11]) ?_
      refine z_if_eq (pc := 207) (tgt := 239) dX4_moveCar_207 (by decide) (by omega) (by omega) (fun hb2 => ?_) (fun hb2 => ?_)
      · skip
        refine z_vreturn (pc := 239) dX4_moveCar_239 rfl okj194 ?_
        first | (unfold mvC; rw [show (if (ndi N c w ≤ 0 ∧ N 33 = 1 ∧ q (2 + c) = N 32) ∧ (H.1 104 18 = -1 ∨ (c : Int) < H.1 104 18) then (c : Int) else H.1 104 18) = (c : Int) from if_pos (by omega)]; done) | (unfold mvC; rw [show (if (ndi N c w ≤ 0 ∧ N 33 = 1 ∧ q (2 + c) = N 32) ∧ (H.1 104 18 = -1 ∨ (c : Int) < H.1 104 18) then (c : Int) else H.1 104 18) = H.1 104 18 from if_neg (by omega)]; refine (wI_id ?_).symm; rw [wI1c (by omega), wI1c (by omega), wI1c (by omega), wI1c (by omega)])
      · skip
        refine x_iload_n (pc := 210) dX4_moveCar_210 (List.Mem.tail _ (List.Mem.tail _ (List.Mem.head _))) ?_
        refine x_aload_n (pc := 211) dX4_moveCar_211 (List.Mem.head _) ?_
        refine z_getI (pc := 212) (k := 10) (v := (N 32)) dX4_moveCar_212 lf_X4_61 sh_104 rfl (by rw [wI1c (by omega), wI1c (by omega), wI1c (by omega), wI1c (by omega), h10]) ?_
        refine z_icmp_ne (pc := 215) (tgt := 239) dX4_moveCar_215 (by decide) (by omega) (by omega) (by omega) (by omega) (fun hb3 => ?_) (fun hb3 => ?_)
        · skip
          refine z_vreturn (pc := 239) dX4_moveCar_239 rfl okj194 ?_
          first | (unfold mvC; rw [show (if (ndi N c w ≤ 0 ∧ N 33 = 1 ∧ q (2 + c) = N 32) ∧ (H.1 104 18 = -1 ∨ (c : Int) < H.1 104 18) then (c : Int) else H.1 104 18) = (c : Int) from if_pos (by omega)]; done) | (unfold mvC; rw [show (if (ndi N c w ≤ 0 ∧ N 33 = 1 ∧ q (2 + c) = N 32) ∧ (H.1 104 18 = -1 ∨ (c : Int) < H.1 104 18) then (c : Int) else H.1 104 18) = H.1 104 18 from if_neg (by omega)]; refine (wI_id ?_).symm; rw [wI1c (by omega), wI1c (by omega), wI1c (by omega), wI1c (by omega)])
        · skip
          refine x_aload_n (pc := 218) dX4_moveCar_218 (List.Mem.head _) ?_
          have rd4 := ok.1 104 18
          refine z_getI (pc := 219) (k := 18) (v := H.1 104 18) dX4_moveCar_219 lf_X4_173 sh_104 rfl (by rw [wI1c (by omega), wI1c (by omega), wI1c (by omega), wI1c (by omega)]) ?_
          refine z_iconst (pc := 222) dX4_moveCar_222 ?_
          refine z_icmp_eq (pc := 223) (tgt := 234) dX4_moveCar_223 (by decide) (by omega) (by omega) (by decide) (by decide) (fun hb5 => ?_) (fun hb5 => ?_)
          · skip
            refine x_aload_n (pc := 234) dX4_moveCar_234 (List.Mem.head _) ?_
            refine x_iload_n (pc := 235) dX4_moveCar_235 (List.Mem.tail _ (List.Mem.head _)) ?_
            refine z_putI (pc := 236) (k := 18) dX4_moveCar_236 lp_X4_173 sh_104 rfl ?_
            have ok6 := okI okj194 104 18 (v := (c : Int)) (by omega) (by omega)
            refine z_vreturn (pc := 239) dX4_moveCar_239 rfl ok6 ?_
            first | (unfold mvC; rw [show (if (ndi N c w ≤ 0 ∧ N 33 = 1 ∧ q (2 + c) = N 32) ∧ (H.1 104 18 = -1 ∨ (c : Int) < H.1 104 18) then (c : Int) else H.1 104 18) = (c : Int) from if_pos (by omega)]; done) | (unfold mvC; rw [show (if (ndi N c w ≤ 0 ∧ N 33 = 1 ∧ q (2 + c) = N 32) ∧ (H.1 104 18 = -1 ∨ (c : Int) < H.1 104 18) then (c : Int) else H.1 104 18) = H.1 104 18 from if_neg (by omega)]; refine (wI_id ?_).symm; rw [wI1c (by omega), wI1c (by omega), wI1c (by omega), wI1c (by omega)])
          · skip
            refine x_iload_n (pc := 226) dX4_moveCar_226 (List.Mem.tail _ (List.Mem.head _)) ?_
            refine x_aload_n (pc := 227) dX4_moveCar_227 (List.Mem.head _) ?_
            have rd7 := ok.1 104 18
            refine z_getI (pc := 228) (k := 18) (v := H.1 104 18) dX4_moveCar_228 lf_X4_173 sh_104 rfl (by rw [wI1c (by omega), wI1c (by omega), wI1c (by omega), wI1c (by omega)]) ?_
            refine z_icmp_ge (pc := 231) (tgt := 239) dX4_moveCar_231 (by decide) (by omega) (by omega) (by omega) (by omega) (fun hb8 => ?_) (fun hb8 => ?_)
            · skip
              refine z_vreturn (pc := 239) dX4_moveCar_239 rfl okj194 ?_
              first | (unfold mvC; rw [show (if (ndi N c w ≤ 0 ∧ N 33 = 1 ∧ q (2 + c) = N 32) ∧ (H.1 104 18 = -1 ∨ (c : Int) < H.1 104 18) then (c : Int) else H.1 104 18) = (c : Int) from if_pos (by omega)]; done) | (unfold mvC; rw [show (if (ndi N c w ≤ 0 ∧ N 33 = 1 ∧ q (2 + c) = N 32) ∧ (H.1 104 18 = -1 ∨ (c : Int) < H.1 104 18) then (c : Int) else H.1 104 18) = H.1 104 18 from if_neg (by omega)]; refine (wI_id ?_).symm; rw [wI1c (by omega), wI1c (by omega), wI1c (by omega), wI1c (by omega)])
            · skip
              refine x_aload_n (pc := 234) dX4_moveCar_234 (List.Mem.head _) ?_
              refine x_iload_n (pc := 235) dX4_moveCar_235 (List.Mem.tail _ (List.Mem.head _)) ?_
              refine z_putI (pc := 236) (k := 18) dX4_moveCar_236 lp_X4_173 sh_104 rfl ?_
              have ok9 := okI okj194 104 18 (v := (c : Int)) (by omega) (by omega)
              refine z_vreturn (pc := 239) dX4_moveCar_239 rfl ok9 ?_
              first | (unfold mvC; rw [show (if (ndi N c w ≤ 0 ∧ N 33 = 1 ∧ q (2 + c) = N 32) ∧ (H.1 104 18 = -1 ∨ (c : Int) < H.1 104 18) then (c : Int) else H.1 104 18) = (c : Int) from if_pos (by omega)]; done) | (unfold mvC; rw [show (if (ndi N c w ≤ 0 ∧ N 33 = 1 ∧ q (2 + c) = N 32) ∧ (H.1 104 18 = -1 ∨ (c : Int) < H.1 104 18) then (c : Int) else H.1 104 18) = H.1 104 18 from if_neg (by omega)]; refine (wI_id ?_).symm; rw [wI1c (by omega), wI1c (by omega), wI1c (by omega), wI1c (by omega)])
  have jn145 : okZ (wI (wI (wI H 108 c ((if hld N c w = true then (1 : Int) else 0))) 106 c (nsp N c)) 105 c (ndi N c w)) → Ev zX mX4_moveCar (EvC zX d) (zPv (fun (H1 : ZH) => H1 = mvC H c (q (2 + c)).toNat (if hld N c w = true then (1 : Int) else 0) (nsp N c) (ndi N c w) (if w < ctr N c w then ctr N c w else w) (if (ndi N c w ≤ 0 ∧ N 33 = 1 ∧ q (2 + c) = N 32) ∧ (H.1 104 18 = -1 ∨ (c : Int) < H.1 104 18) then (c : Int) else H.1 104 18))) 145 [(0, .ref 104), (1, .int (zN ((c : Int)))), (2, .int (zN ((q (2 + c)))))] [] (eh (wI (wI (wI H 108 c ((if hld N c w = true then (1 : Int) else 0))) 106 c (nsp N c)) 105 c (ndi N c w))) := by
    intro okj145
    refine x_aload_n (pc := 145) dX4_moveCar_145 (List.Mem.head _) ?_
    refine z_getR (pc := 146) (k := 4) (r := 105) dX4_moveCar_146 lf_X4_22 sh_104 rfl rf_104_4 ?_
    refine x_iload_n (pc := 149) dX4_moveCar_149 (List.Mem.tail _ (List.Mem.head _)) ?_
    refine z_iald (pc := 150) (j := c) (v := ndi N c w) dX4_moveCar_150 sh_105 rfl (by omega) (by decide) (by rw [wI1]) ?_
    refine z_if_le (pc := 151) (tgt := 194) dX4_moveCar_151 (by decide) (by omega) (by omega) (fun hb10 => ?_) (fun hb10 => ?_)
    · skip
      have hct : ctr N c w = 0 := if_neg (fun z => by have := z.2; omega)
      refine x_weaken (L1 := [(0, .ref 104), (1, .int (zN ((c : Int)))), (2, .int (zN ((q (2 + c)))))]) (List.forall_mem_cons.mpr ⟨(List.Mem.head _), (List.forall_mem_cons.mpr ⟨(List.Mem.tail _ (List.Mem.head _)), (List.forall_mem_cons.mpr ⟨(List.Mem.tail _ (List.Mem.tail _ (List.Mem.head _))), (fun _ h => absurd h List.not_mem_nil)⟩)⟩)⟩) ?_
      have he11 : (wI (wI (wI H 108 c ((if hld N c w = true then (1 : Int) else 0))) 106 c (nsp N c)) 105 c (ndi N c w)) = (wI (wI (wI (wI H 108 c ((if hld N c w = true then (1 : Int) else 0))) 106 c (nsp N c)) 105 c (ndi N c w)) 110 ((q (2 + c)).toNat) ((if w < ctr N c w then ctr N c w else w))) := by first | (rw [hct]; done) | (rw [hct, if_neg (show ¬ w < 0 by omega), wI_id (c := 110) (k := (q (2 + c)).toNat) (by rw [wI1c (by omega), wI1c (by omega), wI1c (by omega)]; exact hw)])
      refine Ev_heq he11 ?_
      have ok12 : okZ (wI (wI (wI (wI H 108 c ((if hld N c w = true then (1 : Int) else 0))) 106 c (nsp N c)) 105 c (ndi N c w)) 110 ((q (2 + c)).toNat) ((if w < ctr N c w then ctr N c w else w))) := by rw [← he11]; exact okj145
      exact jn194  ok12 
    · skip
      refine x_aload_n (pc := 154) dX4_moveCar_154 (List.Mem.head _) ?_
      refine z_getR (pc := 155) (k := 6) (r := 107) dX4_moveCar_155 lf_X4_29 sh_104 rfl rf_104_6 ?_
      refine x_iload_n (pc := 158) dX4_moveCar_158 (List.Mem.tail _ (List.Mem.head _)) ?_
      refine z_iald (pc := 159) (j := c) (v := (N (16 + c))) dX4_moveCar_159 sh_107 rfl (by omega) (by decide) (by rw [wI1c (by omega), wI1c (by omega), wI1c (by omega), hM]) ?_
      refine z_iconst (pc := 160) dX4_moveCar_160 ?_
      refine z_icmp_eq (pc := 161) (tgt := 173) dX4_moveCar_161 (by decide) (by omega) (by omega) (by decide) (by decide) (fun hb13 => ?_) (fun hb13 => ?_)
      · skip
        have hct : ctr N c w = ndi N c w := if_pos ⟨Or.inl (by omega), by omega⟩
        refine x_aload_n (pc := 173) dX4_moveCar_173 (List.Mem.head _) ?_
        refine z_getR (pc := 174) (k := 9) (r := 110) dX4_moveCar_174 lf_X4_39 sh_104 rfl rf_104_9 ?_
        refine x_iload_n (pc := 177) dX4_moveCar_177 (List.Mem.tail _ (List.Mem.tail _ (List.Mem.head _))) ?_
        refine x_aload_n (pc := 178) dX4_moveCar_178 (List.Mem.head _) ?_
        refine z_getR (pc := 179) (k := 9) (r := 110) dX4_moveCar_179 lf_X4_39 sh_104 rfl rf_104_9 ?_
        refine x_iload_n (pc := 182) dX4_moveCar_182 (List.Mem.tail _ (List.Mem.tail _ (List.Mem.head _))) ?_
        refine z_iald (pc := 183) (j := (q (2 + c)).toNat) (v := w) dX4_moveCar_183 sh_110 (by omega) (by omega) (by decide) (by rw [wI1c (by omega), wI1c (by omega), wI1c (by omega), hw]) ?_
        refine x_aload_n (pc := 184) dX4_moveCar_184 (List.Mem.head _) ?_
        refine z_getR (pc := 185) (k := 4) (r := 105) dX4_moveCar_185 lf_X4_22 sh_104 rfl rf_104_4 ?_
        refine x_iload_n (pc := 188) dX4_moveCar_188 (List.Mem.tail _ (List.Mem.head _)) ?_
        refine z_iald (pc := 189) (j := c) (v := ndi N c w) dX4_moveCar_189 sh_105 rfl (by omega) (by decide) (by rw [wI1]) ?_
        refine z_mmax (pc := 190) dX4_moveCar_190 ml_X4_179 (Nat.le_of_ble_eq_true rfl) (by omega) (by omega) (by omega) (by omega) ?_
        refine z_iast (pc := 193) (j := (q (2 + c)).toNat) (v := (if w < (ndi N c w) then (ndi N c w) else w)) dX4_moveCar_193 sh_110 (by omega) (by omega) (by decide) ?_
        have ok14 := okI okj145 110 ((q (2 + c)).toNat) (v := (if w < (ndi N c w) then (ndi N c w) else w)) (by omega) (by omega)
        refine x_weaken (L1 := [(0, .ref 104), (1, .int (zN ((c : Int)))), (2, .int (zN ((q (2 + c)))))]) (List.forall_mem_cons.mpr ⟨(List.Mem.head _), (List.forall_mem_cons.mpr ⟨(List.Mem.tail _ (List.Mem.head _)), (List.forall_mem_cons.mpr ⟨(List.Mem.tail _ (List.Mem.tail _ (List.Mem.head _))), (fun _ h => absurd h List.not_mem_nil)⟩)⟩)⟩) ?_
        have he15 : (wI (wI (wI (wI H 108 c ((if hld N c w = true then (1 : Int) else 0))) 106 c (nsp N c)) 105 c (ndi N c w)) 110 ((q (2 + c)).toNat) ((if w < (ndi N c w) then (ndi N c w) else w))) = (wI (wI (wI (wI H 108 c ((if hld N c w = true then (1 : Int) else 0))) 106 c (nsp N c)) 105 c (ndi N c w)) 110 ((q (2 + c)).toNat) ((if w < ctr N c w then ctr N c w else w))) := by first | (rw [hct]; done) | (rw [hct, if_neg (show ¬ w < 0 by omega), wI_id (c := 110) (k := (q (2 + c)).toNat) (by rw [wI1c (by omega), wI1c (by omega), wI1c (by omega)]; exact hw)])
        refine Ev_heq he15 ?_
        have ok16 : okZ (wI (wI (wI (wI H 108 c ((if hld N c w = true then (1 : Int) else 0))) 106 c (nsp N c)) 105 c (ndi N c w)) 110 ((q (2 + c)).toNat) ((if w < ctr N c w then ctr N c w else w))) := by rw [← he15]; exact ok14
        exact jn194  ok16 
      · skip
        refine x_aload_n (pc := 164) dX4_moveCar_164 (List.Mem.head _) ?_
        refine z_getR (pc := 165) (k := 7) (r := 108) dX4_moveCar_165 lf_X4_32 sh_104 rfl rf_104_7 ?_
        refine x_iload_n (pc := 168) dX4_moveCar_168 (List.Mem.tail _ (List.Mem.head _)) ?_
        refine z_zald (pc := 169) (j := c) (v := (if hld N c w = true then (1 : Int) else 0)) dX4_moveCar_169 sh_108 rfl (by omega) (by decide) (by rw [wI1c (by omega), wI1c (by omega), wI1]) ?_
        refine z_if_eq (pc := 170) (tgt := 194) dX4_moveCar_170 (by decide) (by omega) (by omega) (fun hb17 => ?_) (fun hb17 => ?_)
        · skip
          have hhf := ite01_0 hb17
          have hct : ctr N c w = 0 := if_neg (fun z => z.1.elim (fun y => by omega) (fun y => by rw [hhf] at y; exact absurd y (by decide)))
          refine x_weaken (L1 := [(0, .ref 104), (1, .int (zN ((c : Int)))), (2, .int (zN ((q (2 + c)))))]) (List.forall_mem_cons.mpr ⟨(List.Mem.head _), (List.forall_mem_cons.mpr ⟨(List.Mem.tail _ (List.Mem.head _)), (List.forall_mem_cons.mpr ⟨(List.Mem.tail _ (List.Mem.tail _ (List.Mem.head _))), (fun _ h => absurd h List.not_mem_nil)⟩)⟩)⟩) ?_
          have he18 : (wI (wI (wI H 108 c ((if hld N c w = true then (1 : Int) else 0))) 106 c (nsp N c)) 105 c (ndi N c w)) = (wI (wI (wI (wI H 108 c ((if hld N c w = true then (1 : Int) else 0))) 106 c (nsp N c)) 105 c (ndi N c w)) 110 ((q (2 + c)).toNat) ((if w < ctr N c w then ctr N c w else w))) := by first | (rw [hct]; done) | (rw [hct, if_neg (show ¬ w < 0 by omega), wI_id (c := 110) (k := (q (2 + c)).toNat) (by rw [wI1c (by omega), wI1c (by omega), wI1c (by omega)]; exact hw)])
          refine Ev_heq he18 ?_
          have ok19 : okZ (wI (wI (wI (wI H 108 c ((if hld N c w = true then (1 : Int) else 0))) 106 c (nsp N c)) 105 c (ndi N c w)) 110 ((q (2 + c)).toNat) ((if w < ctr N c w then ctr N c w else w))) := by rw [← he18]; exact okj145
          exact jn194  ok19 
        · skip
          have hhf := ite01_1 hb17
          have hct : ctr N c w = ndi N c w := if_pos ⟨Or.inr hhf, by omega⟩
          refine x_aload_n (pc := 173) dX4_moveCar_173 (List.Mem.head _) ?_
          refine z_getR (pc := 174) (k := 9) (r := 110) dX4_moveCar_174 lf_X4_39 sh_104 rfl rf_104_9 ?_
          refine x_iload_n (pc := 177) dX4_moveCar_177 (List.Mem.tail _ (List.Mem.tail _ (List.Mem.head _))) ?_
          refine x_aload_n (pc := 178) dX4_moveCar_178 (List.Mem.head _) ?_
          refine z_getR (pc := 179) (k := 9) (r := 110) dX4_moveCar_179 lf_X4_39 sh_104 rfl rf_104_9 ?_
          refine x_iload_n (pc := 182) dX4_moveCar_182 (List.Mem.tail _ (List.Mem.tail _ (List.Mem.head _))) ?_
          refine z_iald (pc := 183) (j := (q (2 + c)).toNat) (v := w) dX4_moveCar_183 sh_110 (by omega) (by omega) (by decide) (by rw [wI1c (by omega), wI1c (by omega), wI1c (by omega), hw]) ?_
          refine x_aload_n (pc := 184) dX4_moveCar_184 (List.Mem.head _) ?_
          refine z_getR (pc := 185) (k := 4) (r := 105) dX4_moveCar_185 lf_X4_22 sh_104 rfl rf_104_4 ?_
          refine x_iload_n (pc := 188) dX4_moveCar_188 (List.Mem.tail _ (List.Mem.head _)) ?_
          refine z_iald (pc := 189) (j := c) (v := ndi N c w) dX4_moveCar_189 sh_105 rfl (by omega) (by decide) (by rw [wI1]) ?_
          refine z_mmax (pc := 190) dX4_moveCar_190 ml_X4_179 (Nat.le_of_ble_eq_true rfl) (by omega) (by omega) (by omega) (by omega) ?_
          refine z_iast (pc := 193) (j := (q (2 + c)).toNat) (v := (if w < (ndi N c w) then (ndi N c w) else w)) dX4_moveCar_193 sh_110 (by omega) (by omega) (by decide) ?_
          have ok20 := okI okj145 110 ((q (2 + c)).toNat) (v := (if w < (ndi N c w) then (ndi N c w) else w)) (by omega) (by omega)
          refine x_weaken (L1 := [(0, .ref 104), (1, .int (zN ((c : Int)))), (2, .int (zN ((q (2 + c)))))]) (List.forall_mem_cons.mpr ⟨(List.Mem.head _), (List.forall_mem_cons.mpr ⟨(List.Mem.tail _ (List.Mem.head _)), (List.forall_mem_cons.mpr ⟨(List.Mem.tail _ (List.Mem.tail _ (List.Mem.head _))), (fun _ h => absurd h List.not_mem_nil)⟩)⟩)⟩) ?_
          have he21 : (wI (wI (wI (wI H 108 c ((if hld N c w = true then (1 : Int) else 0))) 106 c (nsp N c)) 105 c (ndi N c w)) 110 ((q (2 + c)).toNat) ((if w < (ndi N c w) then (ndi N c w) else w))) = (wI (wI (wI (wI H 108 c ((if hld N c w = true then (1 : Int) else 0))) 106 c (nsp N c)) 105 c (ndi N c w)) 110 ((q (2 + c)).toNat) ((if w < ctr N c w then ctr N c w else w))) := by first | (rw [hct]; done) | (rw [hct, if_neg (show ¬ w < 0 by omega), wI_id (c := 110) (k := (q (2 + c)).toNat) (by rw [wI1c (by omega), wI1c (by omega), wI1c (by omega)]; exact hw)])
          refine Ev_heq he21 ?_
          have ok22 : okZ (wI (wI (wI (wI H 108 c ((if hld N c w = true then (1 : Int) else 0))) 106 c (nsp N c)) 105 c (ndi N c w)) 110 ((q (2 + c)).toNat) ((if w < ctr N c w then ctr N c w else w))) := by rw [← he21]; exact ok20
          exact jn194  ok22 
  refine x_aload_n (pc := 10) dX4_moveCar_10 (List.Mem.tail _ (List.Mem.head _)) ?_
  refine z_getR (pc := 11) (k := 7) (r := 108) dX4_moveCar_11 lf_X4_32 sh_104 rfl rf_104_7 ?_
  refine x_iload_n (pc := 14) dX4_moveCar_14 (List.Mem.tail _ (List.Mem.tail _ (List.Mem.head _))) ?_
  refine z_iconst (pc := 15) dX4_moveCar_15 ?_
  refine z_zast (pc := 16) (j := c) (v := 0) dX4_moveCar_16 sh_108 rfl (by omega) (by decide) (by omega) ?_
  have ok23 := okI ok 108 c (v := 0) (by decide) (by decide)
  refine x_aload_n (pc := 17) dX4_moveCar_17 (List.Mem.tail _ (List.Mem.head _)) ?_
  refine z_getR (pc := 18) (k := 6) (r := 107) dX4_moveCar_18 lf_X4_29 sh_104 rfl rf_104_6 ?_
  refine x_iload_n (pc := 21) dX4_moveCar_21 (List.Mem.tail _ (List.Mem.tail _ (List.Mem.head _))) ?_
  refine z_iald (pc := 22) (j := c) (v := (N (16 + c))) dX4_moveCar_22 sh_107 rfl (by omega) (by decide) (by rw [wI1c (by omega), hM]) ?_
  refine z_iconst (pc := 23) dX4_moveCar_23 ?_
  refine z_icmp_ne (pc := 24) (tgt := 63) dX4_moveCar_24 (by decide) (by omega) (by omega) (by decide) (by decide) (fun hb24 => ?_) (fun hb24 => ?_)
  · skip
    have hns : nsp N c = N (8 + c) := if_neg (by omega)
    refine x_aload_n (pc := 63) dX4_moveCar_63 (List.Mem.tail _ (List.Mem.head _)) ?_
    refine z_getR (pc := 64) (k := 4) (r := 105) dX4_moveCar_64 lf_X4_22 sh_104 rfl rf_104_4 ?_
    refine x_iload_n (pc := 67) dX4_moveCar_67 (List.Mem.tail _ (List.Mem.tail _ (List.Mem.head _))) ?_
    refine z_iald (pc := 68) (j := c) (v := (N c)) dX4_moveCar_68 sh_105 rfl (by omega) (by decide) (by rw [wI1c (by omega), hD]) ?_
    refine x_aload_n (pc := 69) dX4_moveCar_69 (List.Mem.tail _ (List.Mem.head _)) ?_
    refine z_getR (pc := 70) (k := 5) (r := 106) dX4_moveCar_70 lf_X4_26 sh_104 rfl rf_104_5 ?_
    refine x_iload_n (pc := 73) dX4_moveCar_73 (List.Mem.tail _ (List.Mem.tail _ (List.Mem.head _))) ?_
    refine z_iald (pc := 74) (j := c) (v := (N (8 + c))) dX4_moveCar_74 sh_106 rfl (by omega) (by decide) (by rw [wI1c (by omega), hS]) ?_
    refine z_isub (pc := 75) dX4_moveCar_75 ?_
    refine x_istore_n (pc := 76) dX4_moveCar_76 (Nat.le_of_ble_eq_true rfl) ?_
    show Ev _ _ _ _ _ [(3, .int (zN ((((N c)) - ((N (8 + c))))))), (2, .int (zN (((q (2 + c)))))), (0, .ref 104), (1, .int (zN ((c : Int))))] _ _
    refine x_aload_n (pc := 77) dX4_moveCar_77 (List.Mem.tail _ (List.Mem.tail _ (List.Mem.head _))) ?_
    refine z_getR (pc := 78) (k := 7) (r := 108) dX4_moveCar_78 lf_X4_32 sh_104 rfl rf_104_7 ?_
    refine x_iload_n (pc := 81) dX4_moveCar_81 (List.Mem.tail _ (List.Mem.tail _ (List.Mem.tail _ (List.Mem.head _)))) ?_
    refine x_aload_n (pc := 82) dX4_moveCar_82 (List.Mem.tail _ (List.Mem.tail _ (List.Mem.head _))) ?_
    refine z_getR (pc := 83) (k := 9) (r := 110) dX4_moveCar_83 lf_X4_39 sh_104 rfl rf_104_9 ?_
    refine x_iload_n (pc := 86) dX4_moveCar_86 (List.Mem.tail _ (List.Mem.head _)) ?_
    refine z_iald (pc := 87) (j := (q (2 + c)).toNat) (v := w) dX4_moveCar_87 sh_110 (by omega) (by omega) (by decide) (by rw [wI1c (by omega), hw]) ?_
    refine z_if_le (pc := 88) (tgt := 107) dX4_moveCar_88 (by decide) (by omega) (by omega) (fun hb25 => ?_) (fun hb25 => ?_)
    · skip
      have hh : (if hld N c w = true then (1 : Int) else 0) = 0 := by rw [hld_f (by omega)]; rfl
      have hnd : ndi N c w = N c - N (8 + c) := by unfold ndi; rw [if_neg (by omega)]; exact if_neg (by omega)
      refine z_iconst (pc := 107) dX4_moveCar_107 ?_
      refine z_zast (pc := 108) (j := c) (v := 0) dX4_moveCar_108 sh_108 rfl (by omega) (by decide) (by omega) ?_
      have ok26 := okI ok23 108 c (v := 0) (by decide) (by decide)
      refine x_aload_n (pc := 109) dX4_moveCar_109 (List.Mem.tail _ (List.Mem.tail _ (List.Mem.head _))) ?_
      refine z_getR (pc := 110) (k := 4) (r := 105) dX4_moveCar_110 lf_X4_22 sh_104 rfl rf_104_4 ?_
      refine x_iload_n (pc := 113) dX4_moveCar_113 (List.Mem.tail _ (List.Mem.tail _ (List.Mem.tail _ (List.Mem.head _)))) ?_
      refine x_aload_n (pc := 114) dX4_moveCar_114 (List.Mem.tail _ (List.Mem.tail _ (List.Mem.head _))) ?_
      refine z_getR (pc := 115) (k := 7) (r := 108) dX4_moveCar_115 lf_X4_32 sh_104 rfl rf_104_7 ?_
      refine x_iload_n (pc := 118) dX4_moveCar_118 (List.Mem.tail _ (List.Mem.tail _ (List.Mem.tail _ (List.Mem.head _)))) ?_
      refine z_zald (pc := 119) (j := c) (v := 0) dX4_moveCar_119 sh_108 rfl (by omega) (by decide) (by rw [wI1]) ?_
      refine z_if_eq (pc := 120) (tgt := 143) dX4_moveCar_120 (by decide) (by decide) (by decide) (fun _ => ?_) (fun h => absurd h (by decide))
      refine x_iload_n (pc := 143) dX4_moveCar_143 (List.Mem.head _) ?_
      refine z_iast (pc := 144) (j := c) (v := (((N c)) - ((N (8 + c))))) dX4_moveCar_144 sh_105 rfl (by omega) (by decide) ?_
      have ok28 := okI ok26 105 c (v := (((N c)) - ((N (8 + c))))) (by omega) (by omega)
      refine x_weaken (L1 := [(0, .ref 104), (1, .int (zN ((c : Int)))), (2, .int (zN ((q (2 + c)))))]) (List.forall_mem_cons.mpr ⟨(List.Mem.tail _ (List.Mem.tail _ (List.Mem.head _))), (List.forall_mem_cons.mpr ⟨(List.Mem.tail _ (List.Mem.tail _ (List.Mem.tail _ (List.Mem.head _)))), (List.forall_mem_cons.mpr ⟨(mem_ci (by omega) (List.Mem.tail _ (List.Mem.head _))), (fun _ h => absurd h List.not_mem_nil)⟩)⟩)⟩) ?_
      have he29 : (wI (wI (wI H 108 c (0)) 108 c (0)) 105 c ((((N c)) - ((N (8 + c)))))) = (wI (wI (wI H 108 c ((if hld N c w = true then (1 : Int) else 0))) 106 c (nsp N c)) 105 c (ndi N c w)) := by first | (rw [hh, hns, hnd]; done) | (rw [wI_wI, hh, hns, wI_id (c := 106) (k := c) (by rw [wI1c (by omega)]; exact hS), hnd]; done) | (exfalso; omega)
      refine Ev_heq he29 ?_
      have ok30 : okZ (wI (wI (wI H 108 c ((if hld N c w = true then (1 : Int) else 0))) 106 c (nsp N c)) 105 c (ndi N c w)) := by rw [← he29]; exact ok28
      exact jn145  ok30 
    · skip
      refine x_aload_n (pc := 91) dX4_moveCar_91 (List.Mem.tail _ (List.Mem.tail _ (List.Mem.head _))) ?_
      refine z_getR (pc := 92) (k := 9) (r := 110) dX4_moveCar_92 lf_X4_39 sh_104 rfl rf_104_9 ?_
      refine x_iload_n (pc := 95) dX4_moveCar_95 (List.Mem.tail _ (List.Mem.head _)) ?_
      refine z_iald (pc := 96) (j := (q (2 + c)).toNat) (v := w) dX4_moveCar_96 sh_110 (by omega) (by omega) (by decide) (by rw [wI1c (by omega), hw]) ?_
      refine z_iconst (pc := 97) dX4_moveCar_97 ?_
      refine z_iadd (pc := 98) dX4_moveCar_98 ?_
      refine x_iload_n (pc := 99) dX4_moveCar_99 (List.Mem.head _) ?_
      refine z_icmp_le (pc := 100) (tgt := 107) dX4_moveCar_100 (by decide) (by omega) (by omega) (by omega) (by omega) (fun hb31 => ?_) (fun hb31 => ?_)
      · skip
        have hh : (if hld N c w = true then (1 : Int) else 0) = 0 := by rw [hld_f (by omega)]; rfl
        have hnd : ndi N c w = N c - N (8 + c) := by unfold ndi; rw [if_neg (by omega)]; exact if_neg (by omega)
        refine z_iconst (pc := 107) dX4_moveCar_107 ?_
        refine z_zast (pc := 108) (j := c) (v := 0) dX4_moveCar_108 sh_108 rfl (by omega) (by decide) (by omega) ?_
        have ok32 := okI ok23 108 c (v := 0) (by decide) (by decide)
        refine x_aload_n (pc := 109) dX4_moveCar_109 (List.Mem.tail _ (List.Mem.tail _ (List.Mem.head _))) ?_
        refine z_getR (pc := 110) (k := 4) (r := 105) dX4_moveCar_110 lf_X4_22 sh_104 rfl rf_104_4 ?_
        refine x_iload_n (pc := 113) dX4_moveCar_113 (List.Mem.tail _ (List.Mem.tail _ (List.Mem.tail _ (List.Mem.head _)))) ?_
        refine x_aload_n (pc := 114) dX4_moveCar_114 (List.Mem.tail _ (List.Mem.tail _ (List.Mem.head _))) ?_
        refine z_getR (pc := 115) (k := 7) (r := 108) dX4_moveCar_115 lf_X4_32 sh_104 rfl rf_104_7 ?_
        refine x_iload_n (pc := 118) dX4_moveCar_118 (List.Mem.tail _ (List.Mem.tail _ (List.Mem.tail _ (List.Mem.head _)))) ?_
        refine z_zald (pc := 119) (j := c) (v := 0) dX4_moveCar_119 sh_108 rfl (by omega) (by decide) (by rw [wI1]) ?_
        refine z_if_eq (pc := 120) (tgt := 143) dX4_moveCar_120 (by decide) (by decide) (by decide) (fun _ => ?_) (fun h => absurd h (by decide))
        refine x_iload_n (pc := 143) dX4_moveCar_143 (List.Mem.head _) ?_
        refine z_iast (pc := 144) (j := c) (v := (((N c)) - ((N (8 + c))))) dX4_moveCar_144 sh_105 rfl (by omega) (by decide) ?_
        have ok34 := okI ok32 105 c (v := (((N c)) - ((N (8 + c))))) (by omega) (by omega)
        refine x_weaken (L1 := [(0, .ref 104), (1, .int (zN ((c : Int)))), (2, .int (zN ((q (2 + c)))))]) (List.forall_mem_cons.mpr ⟨(List.Mem.tail _ (List.Mem.tail _ (List.Mem.head _))), (List.forall_mem_cons.mpr ⟨(List.Mem.tail _ (List.Mem.tail _ (List.Mem.tail _ (List.Mem.head _)))), (List.forall_mem_cons.mpr ⟨(mem_ci (by omega) (List.Mem.tail _ (List.Mem.head _))), (fun _ h => absurd h List.not_mem_nil)⟩)⟩)⟩) ?_
        have he35 : (wI (wI (wI H 108 c (0)) 108 c (0)) 105 c ((((N c)) - ((N (8 + c)))))) = (wI (wI (wI H 108 c ((if hld N c w = true then (1 : Int) else 0))) 106 c (nsp N c)) 105 c (ndi N c w)) := by first | (rw [hh, hns, hnd]; done) | (rw [wI_wI, hh, hns, wI_id (c := 106) (k := c) (by rw [wI1c (by omega)]; exact hS), hnd]; done) | (exfalso; omega)
        refine Ev_heq he35 ?_
        have ok36 : okZ (wI (wI (wI H 108 c ((if hld N c w = true then (1 : Int) else 0))) 106 c (nsp N c)) 105 c (ndi N c w)) := by rw [← he35]; exact ok34
        exact jn145  ok36 
      · skip
        have hh : (if hld N c w = true then (1 : Int) else 0) = 1 := by rw [hld_t (by omega)]; rfl
        have hnd : ndi N c w = (if w + 2 < N c then w + 2 else N c) := by unfold ndi; rw [if_neg (by omega), if_pos (by omega)]
        refine z_iconst (pc := 103) dX4_moveCar_103 ?_
        refine x_goto (pc := 104) (tgt := 108) dX4_moveCar_104 (by decide) ?_
        refine z_zast (pc := 108) (j := c) (v := 1) dX4_moveCar_108 sh_108 rfl (by omega) (by decide) (by omega) ?_
        have ok37 := okI ok23 108 c (v := 1) (by decide) (by decide)
        refine x_aload_n (pc := 109) dX4_moveCar_109 (List.Mem.tail _ (List.Mem.tail _ (List.Mem.head _))) ?_
        refine z_getR (pc := 110) (k := 4) (r := 105) dX4_moveCar_110 lf_X4_22 sh_104 rfl rf_104_4 ?_
        refine x_iload_n (pc := 113) dX4_moveCar_113 (List.Mem.tail _ (List.Mem.tail _ (List.Mem.tail _ (List.Mem.head _)))) ?_
        refine x_aload_n (pc := 114) dX4_moveCar_114 (List.Mem.tail _ (List.Mem.tail _ (List.Mem.head _))) ?_
        refine z_getR (pc := 115) (k := 7) (r := 108) dX4_moveCar_115 lf_X4_32 sh_104 rfl rf_104_7 ?_
        refine x_iload_n (pc := 118) dX4_moveCar_118 (List.Mem.tail _ (List.Mem.tail _ (List.Mem.tail _ (List.Mem.head _)))) ?_
        refine z_zald (pc := 119) (j := c) (v := 1) dX4_moveCar_119 sh_108 rfl (by omega) (by decide) (by rw [wI1]) ?_
        refine z_if_eq (pc := 120) (tgt := 143) dX4_moveCar_120 (by decide) (by decide) (by decide) (fun h => absurd h (by decide)) (fun _ => ?_)
        refine x_aload_n (pc := 123) dX4_moveCar_123 (List.Mem.tail _ (List.Mem.tail _ (List.Mem.head _))) ?_
        refine z_getR (pc := 124) (k := 4) (r := 105) dX4_moveCar_124 lf_X4_22 sh_104 rfl rf_104_4 ?_
        refine x_iload_n (pc := 127) dX4_moveCar_127 (List.Mem.tail _ (List.Mem.tail _ (List.Mem.tail _ (List.Mem.head _)))) ?_
        refine z_iald (pc := 128) (j := c) (v := (N c)) dX4_moveCar_128 sh_105 rfl (by omega) (by decide) (by rw [wI1c (by omega), wI1c (by omega), hD]) ?_
        refine x_aload_n (pc := 129) dX4_moveCar_129 (List.Mem.tail _ (List.Mem.tail _ (List.Mem.head _))) ?_
        refine z_getR (pc := 130) (k := 9) (r := 110) dX4_moveCar_130 lf_X4_39 sh_104 rfl rf_104_9 ?_
        refine x_iload_n (pc := 133) dX4_moveCar_133 (List.Mem.tail _ (List.Mem.head _)) ?_
        refine z_iald (pc := 134) (j := (q (2 + c)).toNat) (v := w) dX4_moveCar_134 sh_110 (by omega) (by omega) (by decide) (by rw [wI1c (by omega), wI1c (by omega), hw]) ?_
        refine z_iconst (pc := 135) dX4_moveCar_135 ?_
        refine z_iadd (pc := 136) dX4_moveCar_136 ?_
        refine z_mmin (pc := 137) dX4_moveCar_137 ml_X4_184 (Nat.le_of_ble_eq_true rfl) (by omega) (by omega) (by omega) (by omega) ?_
        refine x_goto (pc := 140) (tgt := 144) dX4_moveCar_140 (by decide) ?_
        refine z_iast (pc := 144) (j := c) (v := (if (w + 2) < ((N c)) then (w + 2) else ((N c)))) dX4_moveCar_144 sh_105 rfl (by omega) (by decide) ?_
        have ok39 := okI ok37 105 c (v := (if (w + 2) < ((N c)) then (w + 2) else ((N c)))) (by omega) (by omega)
        refine x_weaken (L1 := [(0, .ref 104), (1, .int (zN ((c : Int)))), (2, .int (zN ((q (2 + c)))))]) (List.forall_mem_cons.mpr ⟨(List.Mem.tail _ (List.Mem.tail _ (List.Mem.head _))), (List.forall_mem_cons.mpr ⟨(List.Mem.tail _ (List.Mem.tail _ (List.Mem.tail _ (List.Mem.head _)))), (List.forall_mem_cons.mpr ⟨(mem_ci (by omega) (List.Mem.tail _ (List.Mem.head _))), (fun _ h => absurd h List.not_mem_nil)⟩)⟩)⟩) ?_
        have he40 : (wI (wI (wI H 108 c (0)) 108 c (1)) 105 c ((if (w + 2) < ((N c)) then (w + 2) else ((N c))))) = (wI (wI (wI H 108 c ((if hld N c w = true then (1 : Int) else 0))) 106 c (nsp N c)) 105 c (ndi N c w)) := by first | (rw [hh, hns, hnd]; done) | (rw [wI_wI, hh, hns, wI_id (c := 106) (k := c) (by rw [wI1c (by omega)]; exact hS), hnd]; done) | (exfalso; omega)
        refine Ev_heq he40 ?_
        have ok41 : okZ (wI (wI (wI H 108 c ((if hld N c w = true then (1 : Int) else 0))) 106 c (nsp N c)) 105 c (ndi N c w)) := by rw [← he40]; exact ok39
        exact jn145  ok41 
  · skip
    have hh : (if hld N c w = true then (1 : Int) else 0) = 0 := by rw [hld_f (by omega)]; rfl
    have hns : nsp N c = (if ((N (8 + c)) - 1) < 0 then 0 else ((N (8 + c)) - 1)) := by unfold nsp; (repeat' split) <;> omega
    have hnd : ndi N c w = N c - (if ((N (8 + c)) - 1) < 0 then 0 else ((N (8 + c)) - 1)) := by rw [← hns]; exact if_pos (by omega)
    refine x_aload_n (pc := 27) dX4_moveCar_27 (List.Mem.tail _ (List.Mem.head _)) ?_
    refine z_getR (pc := 28) (k := 5) (r := 106) dX4_moveCar_28 lf_X4_26 sh_104 rfl rf_104_5 ?_
    refine x_iload_n (pc := 31) dX4_moveCar_31 (List.Mem.tail _ (List.Mem.tail _ (List.Mem.head _))) ?_
    refine x_aload_n (pc := 32) dX4_moveCar_32 (List.Mem.tail _ (List.Mem.head _)) ?_
    refine z_getR (pc := 33) (k := 5) (r := 106) dX4_moveCar_33 lf_X4_26 sh_104 rfl rf_104_5 ?_
    refine x_iload_n (pc := 36) dX4_moveCar_36 (List.Mem.tail _ (List.Mem.tail _ (List.Mem.head _))) ?_
    refine z_iald (pc := 37) (j := c) (v := (N (8 + c))) dX4_moveCar_37 sh_106 rfl (by omega) (by decide) (by rw [wI1c (by omega), hS]) ?_
    refine z_iconst (pc := 38) dX4_moveCar_38 ?_
    refine z_isub (pc := 39) dX4_moveCar_39 ?_
    refine z_iconst (pc := 40) dX4_moveCar_40 ?_
    refine z_mmax (pc := 41) dX4_moveCar_41 ml_X4_179 (Nat.le_of_ble_eq_true rfl) (by omega) (by omega) (by decide) (by decide) ?_
    refine z_iast (pc := 44) (j := c) (v := (if (((N (8 + c))) - 1) < 0 then 0 else (((N (8 + c))) - 1))) dX4_moveCar_44 sh_106 rfl (by omega) (by decide) ?_
    have ok42 := okI ok23 106 c (v := (if (((N (8 + c))) - 1) < 0 then 0 else (((N (8 + c))) - 1))) (by omega) (by omega)
    refine x_aload_n (pc := 45) dX4_moveCar_45 (List.Mem.tail _ (List.Mem.head _)) ?_
    refine z_getR (pc := 46) (k := 4) (r := 105) dX4_moveCar_46 lf_X4_22 sh_104 rfl rf_104_4 ?_
    refine x_iload_n (pc := 49) dX4_moveCar_49 (List.Mem.tail _ (List.Mem.tail _ (List.Mem.head _))) ?_
    refine x_dup2 (pc := 50) dX4_moveCar_50 rfl rfl ?_
    refine z_iald (pc := 51) (j := c) (v := (N c)) dX4_moveCar_51 sh_105 rfl (by omega) (by decide) (by rw [wI1c (by omega), wI1c (by omega), hD]) ?_
    refine x_aload_n (pc := 52) dX4_moveCar_52 (List.Mem.tail _ (List.Mem.head _)) ?_
    refine z_getR (pc := 53) (k := 5) (r := 106) dX4_moveCar_53 lf_X4_26 sh_104 rfl rf_104_5 ?_
    refine x_iload_n (pc := 56) dX4_moveCar_56 (List.Mem.tail _ (List.Mem.tail _ (List.Mem.head _))) ?_
    refine z_iald (pc := 57) (j := c) (v := (if (((N (8 + c))) - 1) < 0 then 0 else (((N (8 + c))) - 1))) dX4_moveCar_57 sh_106 rfl (by omega) (by decide) (by rw [wI1]) ?_
    refine z_isub (pc := 58) dX4_moveCar_58 ?_
    refine z_iast (pc := 59) (j := c) (v := (((N c)) - ((if (((N (8 + c))) - 1) < 0 then 0 else (((N (8 + c))) - 1))))) dX4_moveCar_59 sh_105 rfl (by omega) (by decide) ?_
    have ok43 := okI ok42 105 c (v := (((N c)) - ((if (((N (8 + c))) - 1) < 0 then 0 else (((N (8 + c))) - 1))))) (by omega) (by omega)
    refine x_goto (pc := 60) (tgt := 145) dX4_moveCar_60 (by decide) ?_
    refine x_weaken (L1 := [(0, .ref 104), (1, .int (zN ((c : Int)))), (2, .int (zN ((q (2 + c)))))]) (List.forall_mem_cons.mpr ⟨(List.Mem.tail _ (List.Mem.head _)), (List.forall_mem_cons.mpr ⟨(List.Mem.tail _ (List.Mem.tail _ (List.Mem.head _))), (List.forall_mem_cons.mpr ⟨(mem_ci (by omega) (List.Mem.head _)), (fun _ h => absurd h List.not_mem_nil)⟩)⟩)⟩) ?_
    have he44 : (wI (wI (wI H 108 c (0)) 106 c ((if (((N (8 + c))) - 1) < 0 then 0 else (((N (8 + c))) - 1)))) 105 c ((((N c)) - ((if (((N (8 + c))) - 1) < 0 then 0 else (((N (8 + c))) - 1)))))) = (wI (wI (wI H 108 c ((if hld N c w = true then (1 : Int) else 0))) 106 c (nsp N c)) 105 c (ndi N c w)) := by first | (rw [hh, hns, hnd]; done) | (rw [wI_wI, hh, hns, wI_id (c := 106) (k := c) (by rw [wI1c (by omega)]; exact hS), hnd]; done) | (exfalso; omega)
    refine Ev_heq he44 ?_
    have ok45 : okZ (wI (wI (wI H 108 c ((if hld N c w = true then (1 : Int) else 0))) 106 c (nsp N c)) 105 c (ndi N c w)) := by rw [← he44]; exact ok43
    exact jn145  ok45 
