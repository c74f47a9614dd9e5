/-! GROUP G14: the drawn runs of the reference. -/
def lcg (x : Int) : Int := (1103515245 * x + 12345).bmod 4294967296
/-- by how many it stops, if it can -/
def shr (A N : Nat → Int) (wo : Int) (c : Nat) : Int := if N (8 + c) * (N (8 + c) - 1) / 2 ≤ N c - A 35 then tsp A N wo c (A 40).toNat 0 else 0
def ask (A N : Nat → Int) (c : Nat) : Bool := decide (N (16 + c) = 0 ∧ 1 ≤ N c ∧ N c ≤ A 38)
/-- the car NEXT decides, by a draw -/
def drd (A : Nat → Int) (wo : Int) (N : Nat → Int) (j : Nat) : Int := if ask A N (N 41).toNat = true then (if shr A N wo (N 41).toNat = 0 then (if j = 16 + (N 41).toNat then 1 else N j) else if shr A N wo (N 41).toNat = 100 then (if j = 16 + (N 41).toNat then 2 else N j) else (if j = 16 + (N 41).toNat then (if lcg (N 40) % 4294967296 / 65536 % 100 < shr A N wo (N 41).toNat then 2 else 1) else if j = 40 then lcg (N 40) else N j)) else N j
def drw1 (A : Nat → Int) (wo : Int) (N : Nat → Int) (j : Nat) : Int := if j = 41 then N 41 + 1 else drd A wo N j
def drws (A : Nat → Int) (wo : Int) : Nat → (Nat → Int) → (Nat → Int)
  | 0, N => N
  | k + 1, N => drw1 A wo (drws A wo k N)
theorem drd_n {A N : Nat → Int} {wo : Int} {k : Nat} (e : N 41 = (k : Int)) (h : ask A N k = false) : N = drd A wo N := by
  funext j
  unfold drd
  rw [e, Int.toNat_natCast, if_neg (by rw [h]; decide)]
theorem drd_0 {A N : Nat → Int} {wo : Int} {k : Nat} (e : N 41 = (k : Int)) (h : ask A N k = true) (hs : shr A N wo k = 0) : (fun j => if j = 16 + k then 1 else N j) = drd A wo N := by
  funext j
  unfold drd
  rw [e, Int.toNat_natCast, if_pos h, if_pos hs]
theorem drd_100 {A N : Nat → Int} {wo : Int} {k : Nat} (e : N 41 = (k : Int)) (h : ask A N k = true) (hs : shr A N wo k = 100) : (fun j => if j = 16 + k then 2 else N j) = drd A wo N := by
  funext j
  unfold drd
  rw [e, Int.toNat_natCast, if_pos h, if_neg (show ¬ shr A N wo k = 0 by omega), if_pos hs]
theorem drd_d {A N : Nat → Int} {wo v : Int} {k : Nat} (e : N 41 = (k : Int)) (h : ask A N k = true) (h0 : shr A N wo k ≠ 0) (h1 : shr A N wo k ≠ 100) (hv : v = if lcg (N 40) % 4294967296 / 65536 % 100 < shr A N wo k then 2 else 1) : (fun j => if j = 16 + k then v else if j = 40 then lcg (N 40) else N j) = drd A wo N := by
  funext j
  unfold drd
  rw [e, Int.toNat_natCast, if_pos h, if_neg (show ¬ shr A N wo k = 0 from h0), if_neg (show ¬ shr A N wo k = 100 from h1), hv]
theorem drd_41 {A N : Nat → Int} {wo : Int} {k : Nat} (e : N 41 = (k : Int)) (hk : k < 8) : drd A wo N 41 = N 41 := by
  unfold drd
  rw [e, Int.toNat_natCast]
  rw [if_neg (show ¬ 41 = 16 + k by omega), if_neg (show ¬ 41 = 16 + k by omega), if_neg (show ¬ 41 = 16 + k by omega), if_neg (show ¬ 41 = 40 by omega)]
  (repeat' split) <;> first | rfl | exact e
theorem drw1_at {A N : Nat → Int} {wo : Int} {k : Nat} (e : N 41 = (k : Int)) {j : Nat} (h1 : j ≠ 16 + k) (h2 : j ≠ 40) (h3 : j ≠ 41) : drw1 A wo N j = N j := by
  unfold drw1 drd
  rw [e, Int.toNat_natCast, if_neg h3, if_neg h1, if_neg h1, if_neg h1, if_neg h2]
  (repeat' split) <;> rfl
theorem drw1_16 {A N : Nat → Int} {wo : Int} {k : Nat} (e : N 41 = (k : Int)) (hk : k < 8) : drw1 A wo N (16 + k) = N (16 + k) ∨ drw1 A wo N (16 + k) = 1 ∨ drw1 A wo N (16 + k) = 2 := by
  unfold drw1 drd
  rw [e, Int.toNat_natCast, if_neg (show ¬ 16 + k = 41 by omega), if_pos rfl, if_pos rfl, if_pos rfl]
  (repeat' split) <;> first | exact Or.inl rfl | exact Or.inr (Or.inl rfl) | exact Or.inr (Or.inr rfl)
theorem drw1_2 {A N : Nat → Int} {wo : Int} {k : Nat} (e : N 41 = (k : Int)) (hk : k < 8) (h : N (16 + k) = 2) : drw1 A wo N (16 + k) = 2 := by
  unfold drw1 drd
  rw [e, Int.toNat_natCast, if_neg (show ¬ 16 + k = 41 by omega), if_neg (show ¬ ask A N k = true by unfold ask; rw [decide_eq_false (by omega)]; decide)]
  exact h
theorem drw1_wf {A N : Nat → Int} {wo : Int} {k : Nat} (e : N 41 = (k : Int)) (hk : (k : Int) < A 1) (h8 : A 1 ≤ 8) (h : WFN A N) (hx : WFX A N) : WFN A (drw1 A wo N) ∧ WFX A (drw1 A wo N) := by
  have a : ∀ j, j ≠ 16 + k → j ≠ 40 → j ≠ 41 → drw1 A wo N j = N j := fun j h1 h2 h3 => drw1_at e h1 h2 h3
  obtain ⟨hC, h32, h33, h34, h35, h36, h37, h38, h39⟩ := h
  obtain ⟨x1, x2, x3, x4, x5, x6⟩ := hx
  refine ⟨⟨fun c hc => ?_, ?_, ?_, ?_, ?_, ?_, ?_, ?_, ?_⟩, ⟨fun c hc => ?_, ?_, ?_, ?_, ?_, ?_⟩⟩
  · obtain ⟨a1, a2, a3, a4, a5⟩ := hC c hc
    rw [a c (by omega) (by omega) (by omega), a (8 + c) (by omega) (by omega) (by omega), a (24 + c) (by omega) (by omega) (by omega)]
    by_cases q : c = k
    · subst q
      have z := drw1_16 (A := A) (wo := wo) e (by omega)
      have z2 := drw1_2 (A := A) (wo := wo) e (by omega)
      exact ⟨a1, a2, by omega, fun w => a4 (fun w2 => w (z2 w2)), a5⟩
    · rw [a (16 + c) (by omega) (by omega) (by omega)]
      exact ⟨a1, a2, a3, a4, a5⟩
  · rw [a 32 (by omega) (by omega) (by omega)]; exact h32
  · rw [a 33 (by omega) (by omega) (by omega)]; exact h33
  · rw [a 34 (by omega) (by omega) (by omega)]; exact h34
  · rw [a 35 (by omega) (by omega) (by omega)]; exact h35
  · rw [a 36 (by omega) (by omega) (by omega)]; exact h36
  · rw [a 37 (by omega) (by omega) (by omega)]; exact h37
  · rw [a 38 (by omega) (by omega) (by omega)]; exact h38
  · rw [a 39 (by omega) (by omega) (by omega)]; exact h39
  · rw [a c (by omega) (by omega) (by omega), a (24 + c) (by omega) (by omega) (by omega)]; exact x1 c hc
  · rw [a 37 (by omega) (by omega) (by omega), a 32 (by omega) (by omega) (by omega)]; exact x2
  · rw [a 33 (by omega) (by omega) (by omega), a 34 (by omega) (by omega) (by omega)]; exact x3
  · rw [a 33 (by omega) (by omega) (by omega), a 32 (by omega) (by omega) (by omega)]; exact x4
  · rw [a 35 (by omega) (by omega) (by omega), a 36 (by omega) (by omega) (by omega)]; exact x5
  · rw [a 37 (by omega) (by omega) (by omega), a 36 (by omega) (by omega) (by omega)]; exact x6
theorem drws_ok {A N : Nat → Int} {wo : Int} (h8 : A 1 ≤ 8) (h : WFN A N) (hx : WFX A N) (e : N 41 = 0) (k : Nat) (hk : (k : Int) ≤ A 1) : drws A wo k N 41 = (k : Int) ∧ WFN A (drws A wo k N) ∧ WFX A (drws A wo k N) ∧ ∀ j, 32 ≤ j → j < 40 → drws A wo k N j = N j := by
  induction k with
  | zero => exact ⟨e, h, hx, fun _ _ _ => rfl⟩
  | succ k ih =>
    obtain ⟨i1, i2, i3, i4⟩ := ih (by omega)
    obtain ⟨w1, w2⟩ := drw1_wf (wo := wo) i1 (by omega) h8 i2 i3
    refine ⟨?_, w1, w2, fun j h1 h2 => ?_⟩
    · show drws A wo k N 41 + 1 = _
      rw [i1]; omega
    · show drw1 A wo (drws A wo k N) j = _
      rw [drw1_at i1 (by omega) (by omega) (by omega)]
      exact i4 j h1 h2
/-- t ticks of a drawn run -/
def rnF (A : Nat → Int) (wo : Int) (N : Nat → Int) : Nat → (Nat → Int)
  | 0 => N
  | t + 1 => if rnF A wo N t 37 = 0 then tickF A (drws A wo (A 1).toNat (rnF A wo N t)) else rnF A wo N t
theorem rnF_st {A N : Nat → Int} {wo : Int} {t : Nat} (h : rnF A wo N t 37 ≠ 0) (d : Nat) : rnF A wo N (t + d) = rnF A wo N t := by
  induction d with
  | zero => rfl
  | succ d ih =>
    show (if rnF A wo N (t + d) 37 = 0 then _ else rnF A wo N (t + d)) = _
    rw [ih, if_neg h]
def RnOK (A N : Nat → Int) (t : Nat) : Prop := WFN A N ∧ WFX A N ∧ N 41 = 0 ∧ N 36 ≤ (t : Int) ∧ (N 37 = 0 → N 36 = (t : Int))
theorem tickF_41 (A N : Nat → Int) : tickF A N 41 = 0 := rfl
theorem rnF_step {A N : Nat → Int} {wo : Int} (ws1 : 0 ≤ A 1 ∧ A 1 ≤ 8) (ws0 : 1 ≤ A 0 ∧ A 0 ≤ 4) {t : Nat} (h : RnOK A N t) (he : N 37 = 0) : RnOK A (tickF A (drws A wo (A 1).toNat N)) (t + 1) := by
  obtain ⟨h1, h2, h3, h4, h5⟩ := h
  obtain ⟨d1, d2, d3, d4⟩ := drws_ok (wo := wo) ws1.2 h1 h2 h3 (A 1).toNat (by omega)
  obtain ⟨t1, t2, t3, t4⟩ := tickF_wf ws1 ws0 d2 d3 (by rw [d4 37 (by omega) (by omega)]; exact he)
  have := h5 he
  rw [d4 36 (by omega) (by omega)] at t3
  exact ⟨t1, t2, tickF_41 _ _, by omega, fun _ => by omega⟩
theorem rnF_ok {A N : Nat → Int} {wo : Int} (ws1 : 0 ≤ A 1 ∧ A 1 ≤ 8) (ws0 : 1 ≤ A 0 ∧ A 0 ≤ 4) (h : RnOK A N 0) (t : Nat) : RnOK A (rnF A wo N t) t := by
  induction t with
  | zero => exact h
  | succ t ih =>
    show RnOK A (if rnF A wo N t 37 = 0 then _ else rnF A wo N t) (t + 1)
    by_cases q : rnF A wo N t 37 = 0
    · rw [if_pos q]
      exact rnF_step ws1 ws0 ih q
    · rw [if_neg q]
      obtain ⟨h1, h2, h3, h4, h5⟩ := ih
      exact ⟨h1, h2, h3, by omega, fun z => absurd z q⟩
theorem bgn_rn {A o : Nat → Int} {wc sd : Int} (ws : WFS A) : RnOK A (bgn A o wc sd) 0 := by
  have wn := bgn_wfn (o := o) (wc := wc) (sd := sd) ws
  obtain ⟨ws0, ws1, wsC, wsR⟩ := ws
  have z : ∀ j : Nat, 8 + (A 1).toNat ≤ j → j < 42 → j ≠ 39 → j ≠ 40 → bgn A o wc sd j = 0 := by
    intro j h1 h2 h3 h4
    unfold bgn
    rw [if_neg h4, if_neg h3]
    unfold bg2
    rw [if_neg (show ¬ j < (A 1).toNat by omega), if_neg (show ¬ (8 ≤ j ∧ j < 8 + (A 1).toNat) by omega), if_pos h2]
  have e := fun j h1 h2 h3 h4 => z j h1 h2 h3 h4
  refine ⟨wn, ⟨fun c hc _ => e (24 + c) (by omega) (by omega) (by omega) (by omega), fun _ => ?_, fun h => ?_, fun h => ?_, ?_, fun _ => ?_⟩, e 41 (by omega) (by omega) (by omega) (by omega), ?_, fun _ => ?_⟩
  · rw [e 32 (by omega) (by omega) (by omega) (by omega)]; omega
  · rw [e 33 (by omega) (by omega) (by omega) (by omega)] at h; omega
  · rw [e 33 (by omega) (by omega) (by omega) (by omega)] at h; omega
  · rw [e 35 (by omega) (by omega) (by omega) (by omega), e 36 (by omega) (by omega) (by omega) (by omega)]; decide
  · rw [e 36 (by omega) (by omega) (by omega) (by omega)]; decide
  · rw [e 36 (by omega) (by omega) (by omega) (by omega)]; decide
  · rw [e 36 (by omega) (by omega) (by omega) (by omega)]; rfl
theorem shr_bd {A N : Nat → Int} {wo : Int} {c : Nat} (h : WFL A) : 0 ≤ shr A N wo c ∧ shr A N wo c ≤ 100 := by
  unfold shr
  split
  · exact tsp_bd h (A 40).toNat 0 (by have := h.1; omega)
  · decide
theorem w68 (H : ZH) (M f : Nat → Int) (k : Nat) (v : Int) : wI (wA (wA H 6 M) 8 f) 6 k v = wA (wA H 6 (fun j => if j = k then v else M j)) 8 f := by
  rw [← wI_wA]
  unfold wI wA
  refine Prod.ext ?_ rfl
  funext c' k'
  show (if c' = 6 ∧ k' = k then v else if c' = 8 then f k' else if c' = 6 then M k' else H.1 c' k') = if c' = 8 then f k' else if c' = 6 ∧ k' = k then v else if c' = 6 then M k' else H.1 c' k'
  by_cases h1 : c' = 8
  · rw [if_neg (by omega), if_pos h1, if_pos h1]
  · rw [if_neg h1, if_neg h1]
theorem z_iaddw {X : MX} {mi : MI} {C : MCall} {Rt : MPost} {pc : Nat} {L : ML} {S : List Value} {H : ZH} {a b : Int} (dg : decode mi.2.1 (pc) = .ok (.iadd, 1)) (kk : Ev X mi C Rt (pc + 1) L (.int (zN ((a + b).bmod 4294967296)) :: S) (eh H)) : Ev X mi C Rt pc L (.int (zN b) :: .int (zN a) :: S) (eh H) := z_iadd dg (by rw [← zN_w]; exact kk)

/-- what the ticks leave as it is -/
def FrR (H Hm : ZH) : Prop := Hm.2 = H.2 ∧ ∀ cc k, ¬ (cc = 6 ∨ cc = 8 ∨ cc = 9 ∨ cc = 10 ∨ (cc = 0 ∧ (k = 26 ∨ k = 23))) → Hm.1 cc k = H.1 cc k
theorem FrR_2 {H Hm : ZH} (h : FrR H Hm) : Hm.1 2 = H.1 2 := funext (fun k => h.2 2 k (by omega))
theorem FrR_C {H Ha Hb : ZH} (h : FrR H Ha) (h2 : FrC Ha Hb) : FrR H Hb := ⟨h2.1.trans h.1, fun cc k q => (h2.2 cc k (by omega)).trans (h.2 cc k q)⟩

theorem c_X11_decides_1 {d : Nat} {H : ZH} (ok : okZ H)  (ws : WFS (H.1 2)) (wn : WFN (H.1 2) (H.1 6)) (wl : WFL (H.1 2)) (wx : WFX (H.1 2) (H.1 6)) (e41 : H.1 6 41 = 0) : EvC zX (d + 5) mX11_decides [.ref 0, .int (zN (1))] (eh H) (zPi (fun (r : Int) (H1 : ZH) => r = -1 ∧ ∃ f, H1 = wA (wA H 6 (drws (H.1 2) (H.1 0 21) (H.1 2 1).toNat (H.1 6))) 8 f)) := by
  show _ ∧ Ev zX mX11_decides (EvC zX (d + 4)) (zPi (fun (r : Int) (H1 : ZH) => r = -1 ∧ ∃ f, H1 = wA (wA H 6 (drws (H.1 2) (H.1 0 21) (H.1 2 1).toNat (H.1 6))) 8 f)) 0 [(0, .ref 0), (1, .int (zN (1)))] [] (eh H)
  refine ⟨Nat.le_of_ble_eq_true rfl, ?_⟩
  have wsx := ws
  obtain ⟨ws0, ws1, wsC, ws34, ws35, ws36, ws37, ws38, ws39⟩ := wsx
  have lp0 : ∀ (nF : Nat) (k : Nat) (M : Nat → Int) (f : Nat → Int), okZ (wA (wA H 6 (M)) 8 (f)) → ((k : Int) ≤ H.1 2 1) → (M = drws (H.1 2) (H.1 0 21) k (H.1 6)) → (H.1 2 1).toNat - k < nF → Ev zX mX11_decides (EvC zX (d + 4)) (zPi (fun (r : Int) (H1 : ZH) => r = -1 ∧ ∃ f, H1 = wA (wA H 6 (drws (H.1 2) (H.1 0 21) (H.1 2 1).toNat (H.1 6))) 8 f)) 0 [(0, .ref 0), (1, .int (zN (1)))] [] (eh (wA (wA H 6 (M)) 8 (f))) := by
    intro nF
    induction nF with
    | zero => intro k M f okl0 hk hM hm; exact absurd hm (Nat.not_lt_zero _)
    | succ nF ih0 =>
      intro k M f okl0 hk hM hm
      obtain ⟨hM41, wm, wxm, _⟩ := drws_ok (wo := (H.1 0 21)) ws1.2 wn wx e41 k hk
      rw [← hM] at hM41 wm wxm
      refine x_aload_n (pc := 0) dX11_decides_0 (List.Mem.head _) ?_
      refine z_getR (pc := 1) (k := 18) (r := 6) dX11_decides_1 lf_X11_33 sh_0 rfl rf_0_18 ?_
      refine z_bipush (pc := 4) dX11_decides_4 bp_41 ?_
      refine z_iald (pc := 6) (j := 41) (v := (k : Int)) dX11_decides_6 sh_6 rfl (Nat.le_of_ble_eq_true rfl) (by decide) hM41 ?_
      refine x_aload_n (pc := 7) dX11_decides_7 (List.Mem.head _) ?_
      refine z_getR (pc := 8) (k := 2) (r := 2) dX11_decides_8 lf_X11_17 sh_0 rfl rf_0_2 ?_
      refine z_iconst (pc := 11) dX11_decides_11 ?_
      have rd1 := ok.1 2 1
      refine z_iald (pc := 12) (j := 1) (v := H.1 2 1) dX11_decides_12 sh_2 rfl (Nat.le_of_ble_eq_true rfl) (by decide) (by rw [wA1c (by omega), wA1c (by omega)]) ?_
      refine z_icmp_ge (pc := 13) (tgt := 186) dX11_decides_13 (by decide) (by omega) (by omega) (by omega) (by omega) (fun hb2 => ?_) (fun hb2 => ?_)
      · skip
        refine z_iconst (pc := 186) dX11_decides_186 ?_
        refine z_ireturn (pc := 187) dX11_decides_187 rfl (Or.inl rfl) okl0 (by decide) (by decide) ?_
        exact ⟨rfl, f, by rw [hM, show k = (H.1 2 1).toNat by omega]⟩
      · skip
        have jn172 : ∀ (g : Nat → Int), okZ (wA (wA H 6 (drd (H.1 2) (H.1 0 21) M)) 8 (g)) → Ev zX mX11_decides (EvC zX (d + 4)) (zPi (fun (r : Int) (H1 : ZH) => r = -1 ∧ ∃ f, H1 = wA (wA H 6 (drws (H.1 2) (H.1 0 21) (H.1 2 1).toNat (H.1 6))) 8 f)) 172 [(0, .ref 0), (1, .int (zN (1)))] [] (eh (wA (wA H 6 (drd (H.1 2) (H.1 0 21) M)) 8 (g))) := by
          intro g okj172
          refine x_aload_n (pc := 172) dX11_decides_172 (List.Mem.head _) ?_
          refine z_getR (pc := 173) (k := 18) (r := 6) dX11_decides_173 lf_X11_33 sh_0 rfl rf_0_18 ?_
          refine z_bipush (pc := 176) dX11_decides_176 bp_41 ?_
          refine x_dup2 (pc := 178) dX11_decides_178 rfl rfl ?_
          refine z_iald (pc := 179) (j := 41) (v := (k : Int)) dX11_decides_179 sh_6 rfl (Nat.le_of_ble_eq_true rfl) (by decide) ((drd_41 hM41 (by omega)).trans hM41) ?_
          refine z_iconst (pc := 180) dX11_decides_180 ?_
          refine z_iadd (pc := 181) dX11_decides_181 ?_
          refine z_iast (pc := 182) (j := 41) (v := (((k : Int)) + 1)) dX11_decides_182 sh_6 rfl (Nat.le_of_ble_eq_true rfl) (by decide) ?_
          have ok3 := okI okj172 6 41 (v := (((k : Int)) + 1)) (by omega) (by omega)
          refine x_goto (pc := 183) (tgt := 0) dX11_decides_183 (by decide) ?_
          refine x_weaken (L1 := [(0, .ref 0), (1, .int (zN (1)))]) (List.forall_mem_cons.mpr ⟨(List.Mem.head _), (List.forall_mem_cons.mpr ⟨(List.Mem.tail _ (List.Mem.head _)), (fun _ h => absurd h List.not_mem_nil)⟩)⟩) ?_
          have he4 : (wI (wA (wA H 6 (drd (H.1 2) (H.1 0 21) M)) 8 (g)) 6 41 ((((k : Int)) + 1))) = (wA (wA H 6 ((drw1 (H.1 2) (H.1 0 21) M))) 8 (g)) := by rw [w68, ← hM41]; rfl
          refine Ev_heq he4 ?_
          have ok5 : okZ (wA (wA H 6 ((drw1 (H.1 2) (H.1 0 21) M))) 8 (g)) := by rw [← he4]; exact ok3
          exact ih0 ((k + 1)) ((drw1 (H.1 2) (H.1 0 21) M)) (g) ok5 (by omega) (by rw [hM]; rfl) (by omega)
        have wck := wsC k (by omega)
        have vck := wm.1 k (by omega)
        have sbd := shr_bd (N := M) (wo := (H.1 0 21)) (c := k) wl
        refine x_aload_n (pc := 16) dX11_decides_16 (List.Mem.head _) ?_
        refine z_getR (pc := 17) (k := 18) (r := 6) dX11_decides_17 lf_X11_33 sh_0 rfl rf_0_18 ?_
        refine z_bipush (pc := 20) dX11_decides_20 bp_41 ?_
        refine z_iald (pc := 22) (j := 41) (v := (k : Int)) dX11_decides_22 sh_6 rfl (Nat.le_of_ble_eq_true rfl) (by decide) hM41 ?_
        refine x_istore_n (pc := 23) dX11_decides_23 (Nat.le_of_ble_eq_true rfl) ?_
        show Ev _ _ _ _ _ [(2, .int (zN (((k : Int))))), (0, .ref 0), (1, .int (zN (1)))] _ _
        refine x_aload_n (pc := 24) dX11_decides_24 (List.Mem.tail _ (List.Mem.head _)) ?_
        refine z_getR (pc := 25) (k := 18) (r := 6) dX11_decides_25 lf_X11_33 sh_0 rfl rf_0_18 ?_
        refine z_bipush (pc := 28) dX11_decides_28 bp_16 ?_
        refine x_iload_n (pc := 30) dX11_decides_30 (List.Mem.head _) ?_
        refine z_iadd (pc := 31) dX11_decides_31 ?_
        refine z_iald (pc := 32) (j := 16 + k) (v := (M) (16 + k)) dX11_decides_32 sh_6 (by omega) (by omega) (by decide) (by rw [wA1c (by omega), wA1]) ?_
        refine z_if_ne (pc := 33) (tgt := 172) dX11_decides_33 (by decide) (by omega) (by omega) (fun hb6 => ?_) (fun hb6 => ?_)
        · skip
          have hD := drd_n (A := H.1 2) (wo := H.1 0 21) hM41 (decide_eq_false (by omega))
          refine x_weaken (L1 := [(0, .ref 0), (1, .int (zN (1)))]) (List.forall_mem_cons.mpr ⟨(List.Mem.tail _ (List.Mem.head _)), (List.forall_mem_cons.mpr ⟨(List.Mem.tail _ (List.Mem.tail _ (List.Mem.head _))), (fun _ h => absurd h List.not_mem_nil)⟩)⟩) ?_
          have he7 : (wA (wA H 6 (M)) 8 (f)) = (wA (wA H 6 (drd (H.1 2) (H.1 0 21) M)) 8 (f)) := by first | ((repeat rw [w68]); exact congrArg (fun z => wA (wA H 6 z) 8 _) hD) | (exfalso; omega)
          refine Ev_heq he7 ?_
          have ok8 : okZ (wA (wA H 6 (drd (H.1 2) (H.1 0 21) M)) 8 (f)) := by rw [← he7]; exact okl0
          exact jn172 (f) ok8 
        · skip
          refine x_aload_n (pc := 36) dX11_decides_36 (List.Mem.tail _ (List.Mem.head _)) ?_
          refine z_getR (pc := 37) (k := 18) (r := 6) dX11_decides_37 lf_X11_33 sh_0 rfl rf_0_18 ?_
          refine z_iconst (pc := 40) dX11_decides_40 ?_
          refine x_iload_n (pc := 41) dX11_decides_41 (List.Mem.head _) ?_
          refine z_iadd (pc := 42) dX11_decides_42 ?_
          refine z_iald (pc := 43) (j := k) (v := (M) k) dX11_decides_43 sh_6 (by omega) (by omega) (by decide) (by rw [wA1c (by omega), wA1]) ?_
          refine z_i2l (pc := 44) dX11_decides_44 (by omega) (by omega) ?_
          refine z_lconst (pc := 45) 1 dX11_decides_45 rfl ?_
          refine x_aload_n (pc := 46) dX11_decides_46 (List.Mem.tail _ (List.Mem.head _)) ?_
          refine z_getR (pc := 47) (k := 2) (r := 2) dX11_decides_47 lf_X11_17 sh_0 rfl rf_0_2 ?_
          refine z_bipush (pc := 50) dX11_decides_50 bp_38 ?_
          have rd9 := ok.1 2 38
          refine z_iald (pc := 52) (j := 38) (v := H.1 2 38) dX11_decides_52 sh_2 rfl (Nat.le_of_ble_eq_true rfl) (by decide) (by rw [wA1c (by omega), wA1c (by omega)]) ?_
          refine z_i2l (pc := 53) dX11_decides_53 (by omega) (by omega) ?_
          refine z_callSbp (pc := 54) (i := mX11_within) (S := []) [.long (zL (((M) k))), .long (zL (1)), .long (zL ((H.1 2 38)))] dX11_decides_54 ml_X11_152 ok_X11_within rfl (Or.inr rfl) (Nat.le_of_ble_eq_true rfl) (c_X11_within (d := d + 3) (v := (((M) k))) (lo := 1) (hi := ((H.1 2 38))) (v1 := (by omega)) (v2 := (by omega)) (lo1 := (by omega)) (lo2 := (by omega)) (hi1 := (by omega)) (hi2 := (by omega)) (ok := okl0)) (fun hc12 ok11 => ?_) (fun hc12 ok11 => ?_)
          · skip
            have hA : ask (H.1 2) M k = true := decide_eq_true (by omega)
            refine z_if_eq (pc := 57) (tgt := 172) dX11_decides_57 (by decide) (by decide) (by decide) (fun h => absurd h (by decide)) (fun _ => ?_)
            refine x_aload_n (pc := 60) dX11_decides_60 (List.Mem.tail _ (List.Mem.head _)) ?_
            refine x_iload_n (pc := 61) dX11_decides_61 (List.Mem.head _) ?_
            refine z_callVbp (pc := 62) (i := mX11_canStop) (S := []) [.int (zN (((k : Int))))] dX11_decides_62 ml_X11_246 ok_X11_canStop rfl sh_0 rfl (Or.inr rfl) (Nat.le_of_ble_eq_true rfl) (c_X11_canStop (d := d + 3) (c := k) (hc := (show (k : Int) < H.1 2 1 by omega)) (ok := ok11) (ws := (show WFS (H.1 2) from ws)) (wn := (show WFN (H.1 2) M from wm))) (fun hc16 ok15 => ?_) (fun hc16 ok15 => ?_)
            · skip
              have hcs : M (8 + k) * (M (8 + k) - 1) / 2 ≤ M k - H.1 2 35 := hc16
              have hsh : shr (H.1 2) M (H.1 0 21) k = tsp (H.1 2) M (H.1 0 21) k (H.1 2 40).toNat 0 := if_pos hcs
              refine z_if_eq (pc := 65) (tgt := 76) dX11_decides_65 (by decide) (by decide) (by decide) (fun h => absurd h (by decide)) (fun _ => ?_)
              refine x_aload_n (pc := 68) dX11_decides_68 (List.Mem.tail _ (List.Mem.head _)) ?_
              refine x_iload_n (pc := 69) dX11_decides_69 (List.Mem.head _) ?_
              refine z_callVi (pc := 70) (i := mX11_stopsBy) (S := []) [.int (zN (((k : Int))))] dX11_decides_70 ml_X11_243 ok_X11_stopsBy rfl sh_0 rfl (Or.inl rfl) (Nat.le_of_ble_eq_true rfl) (c_X11_stopsBy (d := d) (c := k) (hc := (show (k : Int) < H.1 2 1 by omega)) (ok := ok15) (ws := (show WFS (H.1 2) from ws)) (wn := (show WFN (H.1 2) M from wm)) (wl := (show WFL (H.1 2) from wl))) ?_
              intro r18 H21 r18a r18b ok19 hp20
              obtain ⟨er, f2, ef⟩ := hp20
              have er2 : r18 = tsp (H.1 2) M (H.1 0 21) k (H.1 2 40).toNat 0 := er
              have ef2 : H21 = wA (wA H 6 M) 8 f2 := by rw [ef, wA_wA]
              subst ef2
              rw [← hsh] at er2
              subst er2
              refine x_goto (pc := 73) (tgt := 77) dX11_decides_73 (by decide) ?_
              refine x_istore_n (pc := 77) dX11_decides_77 (Nat.le_of_ble_eq_true rfl) ?_
              show Ev _ _ _ _ _ [(3, .int (zN ((shr (H.1 2) M (H.1 0 21) k)))), (2, .int (zN (((k : Int))))), (0, .ref 0), (1, .int (zN (1)))] _ _
              refine x_iload_n (pc := 78) dX11_decides_78 (List.Mem.head _) ?_
              refine z_if_eq (pc := 79) (tgt := 88) dX11_decides_79 (by decide) (by omega) (by omega) (fun hb22 => ?_) (fun hb22 => ?_)
              · skip
                have hs0 : shr (H.1 2) M (H.1 0 21) k = 0 := by omega
                have hD := drd_0 hM41 hA hs0
                refine x_aload_n (pc := 88) dX11_decides_88 (List.Mem.tail _ (List.Mem.tail _ (List.Mem.head _))) ?_
                refine z_getR (pc := 89) (k := 18) (r := 6) dX11_decides_89 lf_X11_33 sh_0 rfl rf_0_18 ?_
                refine z_bipush (pc := 92) dX11_decides_92 bp_16 ?_
                refine x_iload_n (pc := 94) dX11_decides_94 (List.Mem.tail _ (List.Mem.head _)) ?_
                refine z_iadd (pc := 95) dX11_decides_95 ?_
                refine x_iload_n (pc := 96) dX11_decides_96 (List.Mem.head _) ?_
                refine z_if_ne (pc := 97) (tgt := 104) dX11_decides_97 (by decide) (by omega) (by omega) (fun hb23 => ?_) (fun hb23 => ?_)
                · skip
                  refine z_iconst (pc := 104) dX11_decides_104 ?_
                  refine z_iast (pc := 105) (j := 16 + k) (v := 2) dX11_decides_105 sh_6 (by omega) (by omega) (by decide) ?_
                  have ok24 := okI ok19 6 (16 + k) (v := 2) (by decide) (by decide)
                  refine x_goto (pc := 106) (tgt := 172) dX11_decides_106 (by decide) ?_
                  refine x_weaken (L1 := [(0, .ref 0), (1, .int (zN (1)))]) (List.forall_mem_cons.mpr ⟨(List.Mem.tail _ (List.Mem.tail _ (List.Mem.head _))), (List.forall_mem_cons.mpr ⟨(List.Mem.tail _ (List.Mem.tail _ (List.Mem.tail _ (List.Mem.head _)))), (fun _ h => absurd h List.not_mem_nil)⟩)⟩) ?_
                  have he25 : (wI (wA (wA H 6 (M)) 8 (f2)) 6 (16 + k) (2)) = (wA (wA H 6 (drd (H.1 2) (H.1 0 21) M)) 8 (f2)) := by first | ((repeat rw [w68]); exact congrArg (fun z => wA (wA H 6 z) 8 _) hD) | (exfalso; omega)
                  refine Ev_heq he25 ?_
                  have ok26 : okZ (wA (wA H 6 (drd (H.1 2) (H.1 0 21) M)) 8 (f2)) := by rw [← he25]; exact ok24
                  exact jn172 (f2) ok26 
                · skip
                  refine z_iconst (pc := 100) dX11_decides_100 ?_
                  refine x_goto (pc := 101) (tgt := 105) dX11_decides_101 (by decide) ?_
                  refine z_iast (pc := 105) (j := 16 + k) (v := 1) dX11_decides_105 sh_6 (by omega) (by omega) (by decide) ?_
                  have ok27 := okI ok19 6 (16 + k) (v := 1) (by decide) (by decide)
                  refine x_goto (pc := 106) (tgt := 172) dX11_decides_106 (by decide) ?_
                  refine x_weaken (L1 := [(0, .ref 0), (1, .int (zN (1)))]) (List.forall_mem_cons.mpr ⟨(List.Mem.tail _ (List.Mem.tail _ (List.Mem.head _))), (List.forall_mem_cons.mpr ⟨(List.Mem.tail _ (List.Mem.tail _ (List.Mem.tail _ (List.Mem.head _)))), (fun _ h => absurd h List.not_mem_nil)⟩)⟩) ?_
                  have he28 : (wI (wA (wA H 6 (M)) 8 (f2)) 6 (16 + k) (1)) = (wA (wA H 6 (drd (H.1 2) (H.1 0 21) M)) 8 (f2)) := by first | ((repeat rw [w68]); exact congrArg (fun z => wA (wA H 6 z) 8 _) hD) | (exfalso; omega)
                  refine Ev_heq he28 ?_
                  have ok29 : okZ (wA (wA H 6 (drd (H.1 2) (H.1 0 21) M)) 8 (f2)) := by rw [← he28]; exact ok27
                  exact jn172 (f2) ok29 
              · skip
                refine x_iload_n (pc := 82) dX11_decides_82 (List.Mem.head _) ?_
                refine z_bipush (pc := 83) dX11_decides_83 bp_100 ?_
                refine z_icmp_ne (pc := 85) (tgt := 109) dX11_decides_85 (by decide) (by omega) (by omega) (by decide) (by decide) (fun hb30 => ?_) (fun hb30 => ?_)
                · skip
                  refine x_iload_n (pc := 109) dX11_decides_109 (List.Mem.tail _ (List.Mem.tail _ (List.Mem.tail _ (List.Mem.head _)))) ?_
                  refine z_if_ne (pc := 110) (tgt := 120) dX11_decides_110 (by decide) (by decide) (by decide) (fun _ => ?_) (fun h => absurd h (by decide))
                  refine x_aload_n (pc := 120) dX11_decides_120 (List.Mem.tail _ (List.Mem.tail _ (List.Mem.head _))) ?_
                  refine z_getR (pc := 121) (k := 18) (r := 6) dX11_decides_121 lf_X11_33 sh_0 rfl rf_0_18 ?_
                  refine z_bipush (pc := 124) dX11_decides_124 bp_40 ?_
                  refine z_ldc (pc := 126) 1103515245 dX11_decides_126 cn_X11_252 (by decide) ?_
                  refine x_aload_n (pc := 128) dX11_decides_128 (List.Mem.tail _ (List.Mem.tail _ (List.Mem.head _))) ?_
                  refine z_getR (pc := 129) (k := 18) (r := 6) dX11_decides_129 lf_X11_33 sh_0 rfl rf_0_18 ?_
                  refine z_bipush (pc := 132) dX11_decides_132 bp_40 ?_
                  refine z_iald (pc := 134) (j := 40) (v := (M) 40) dX11_decides_134 sh_6 rfl (Nat.le_of_ble_eq_true rfl) (by decide) (by rw [wA1c (by omega), wA1]) ?_
                  refine z_imul (pc := 135) dX11_decides_135 ?_
                  refine z_sipush (pc := 136) dX11_decides_136 sp_12345 ?_
                  have rd32 := bm32 ((1103515245 * ((M) 40)) + 12345)
                  refine z_iaddw (pc := 139) dX11_decides_139 ?_
                  refine z_iast (pc := 140) (j := 40) (v := (((1103515245 * ((M) 40)) + 12345).bmod 4294967296)) dX11_decides_140 sh_6 rfl (Nat.le_of_ble_eq_true rfl) (by decide) ?_
                  have ok33 := okI ok19 6 40 (v := (((1103515245 * ((M) 40)) + 12345).bmod 4294967296)) (by omega) (by omega)
                  refine x_aload_n (pc := 141) dX11_decides_141 (List.Mem.tail _ (List.Mem.tail _ (List.Mem.head _))) ?_
                  refine z_getR (pc := 142) (k := 18) (r := 6) dX11_decides_142 lf_X11_33 sh_0 rfl rf_0_18 ?_
                  refine z_bipush (pc := 145) dX11_decides_145 bp_16 ?_
                  refine x_iload_n (pc := 147) dX11_decides_147 (List.Mem.tail _ (List.Mem.head _)) ?_
                  refine z_iadd (pc := 148) dX11_decides_148 ?_
                  refine x_aload_n (pc := 149) dX11_decides_149 (List.Mem.tail _ (List.Mem.tail _ (List.Mem.head _))) ?_
                  refine z_getR (pc := 150) (k := 18) (r := 6) dX11_decides_150 lf_X11_33 sh_0 rfl rf_0_18 ?_
                  refine z_bipush (pc := 153) dX11_decides_153 bp_40 ?_
                  refine z_iald (pc := 155) (j := 40) (v := (((1103515245 * ((M) 40)) + 12345).bmod 4294967296)) dX11_decides_155 sh_6 rfl (Nat.le_of_ble_eq_true rfl) (by decide) (by rw [wI1]) ?_
                  refine z_bipush (pc := 156) dX11_decides_156 bp_16 ?_
                  refine z_iushr16 (pc := 158) dX11_decides_158 rfl ?_
                  refine z_bipush (pc := 159) dX11_decides_159 bp_100 ?_
                  refine z_iremP (pc := 161) dX11_decides_161 (by omega) (by omega) (by omega) (by omega) ?_
                  refine x_iload_n (pc := 162) dX11_decides_162 (List.Mem.head _) ?_
                  refine z_icmp_ge (pc := 163) (tgt := 170) dX11_decides_163 (by decide) (by omega) (by omega) (by omega) (by omega) (fun hb34 => ?_) (fun hb34 => ?_)
                  · skip
                    have hD := drd_d (v := 1) hM41 hA (by omega) (by omega) (if_neg (by rw [show lcg (M 40) = ((1103515245 * M 40) + 12345).bmod 4294967296 from rfl]; omega)).symm
                    refine z_iconst (pc := 170) dX11_decides_170 ?_
                    refine z_iast (pc := 171) (j := 16 + k) (v := 1) dX11_decides_171 sh_6 (by omega) (by omega) (by decide) ?_
                    have ok35 := okI ok33 6 (16 + k) (v := 1) (by decide) (by decide)
                    refine x_weaken (L1 := [(0, .ref 0), (1, .int (zN (1)))]) (List.forall_mem_cons.mpr ⟨(List.Mem.tail _ (List.Mem.tail _ (List.Mem.head _))), (List.forall_mem_cons.mpr ⟨(List.Mem.tail _ (List.Mem.tail _ (List.Mem.tail _ (List.Mem.head _)))), (fun _ h => absurd h List.not_mem_nil)⟩)⟩) ?_
                    have he36 : (wI (wI (wA (wA H 6 (M)) 8 (f2)) 6 40 ((((1103515245 * ((M) 40)) + 12345).bmod 4294967296))) 6 (16 + k) (1)) = (wA (wA H 6 (drd (H.1 2) (H.1 0 21) M)) 8 (f2)) := by first | ((repeat rw [w68]); exact congrArg (fun z => wA (wA H 6 z) 8 _) hD) | (exfalso; omega)
                    refine Ev_heq he36 ?_
                    have ok37 : okZ (wA (wA H 6 (drd (H.1 2) (H.1 0 21) M)) 8 (f2)) := by rw [← he36]; exact ok35
                    exact jn172 (f2) ok37 
                  · skip
                    have hD := drd_d (v := 2) hM41 hA (by omega) (by omega) (if_pos (by rw [show lcg (M 40) = ((1103515245 * M 40) + 12345).bmod 4294967296 from rfl]; omega)).symm
                    refine z_iconst (pc := 166) dX11_decides_166 ?_
                    refine x_goto (pc := 167) (tgt := 171) dX11_decides_167 (by decide) ?_
                    refine z_iast (pc := 171) (j := 16 + k) (v := 2) dX11_decides_171 sh_6 (by omega) (by omega) (by decide) ?_
                    have ok38 := okI ok33 6 (16 + k) (v := 2) (by decide) (by decide)
                    refine x_weaken (L1 := [(0, .ref 0), (1, .int (zN (1)))]) (List.forall_mem_cons.mpr ⟨(List.Mem.tail _ (List.Mem.tail _ (List.Mem.head _))), (List.forall_mem_cons.mpr ⟨(List.Mem.tail _ (List.Mem.tail _ (List.Mem.tail _ (List.Mem.head _)))), (fun _ h => absurd h List.not_mem_nil)⟩)⟩) ?_
                    have he39 : (wI (wI (wA (wA H 6 (M)) 8 (f2)) 6 40 ((((1103515245 * ((M) 40)) + 12345).bmod 4294967296))) 6 (16 + k) (2)) = (wA (wA H 6 (drd (H.1 2) (H.1 0 21) M)) 8 (f2)) := by first | ((repeat rw [w68]); exact congrArg (fun z => wA (wA H 6 z) 8 _) hD) | (exfalso; omega)
                    refine Ev_heq he39 ?_
                    have ok40 : okZ (wA (wA H 6 (drd (H.1 2) (H.1 0 21) M)) 8 (f2)) := by rw [← he39]; exact ok38
                    exact jn172 (f2) ok40 
                · skip
                  have hs1 : shr (H.1 2) M (H.1 0 21) k = 100 := by omega
                  have hD := drd_100 hM41 hA hs1
                  refine x_aload_n (pc := 88) dX11_decides_88 (List.Mem.tail _ (List.Mem.tail _ (List.Mem.head _))) ?_
                  refine z_getR (pc := 89) (k := 18) (r := 6) dX11_decides_89 lf_X11_33 sh_0 rfl rf_0_18 ?_
                  refine z_bipush (pc := 92) dX11_decides_92 bp_16 ?_
                  refine x_iload_n (pc := 94) dX11_decides_94 (List.Mem.tail _ (List.Mem.head _)) ?_
                  refine z_iadd (pc := 95) dX11_decides_95 ?_
                  refine x_iload_n (pc := 96) dX11_decides_96 (List.Mem.head _) ?_
                  refine z_if_ne (pc := 97) (tgt := 104) dX11_decides_97 (by decide) (by omega) (by omega) (fun hb41 => ?_) (fun hb41 => ?_)
                  · skip
                    refine z_iconst (pc := 104) dX11_decides_104 ?_
                    refine z_iast (pc := 105) (j := 16 + k) (v := 2) dX11_decides_105 sh_6 (by omega) (by omega) (by decide) ?_
                    have ok42 := okI ok19 6 (16 + k) (v := 2) (by decide) (by decide)
                    refine x_goto (pc := 106) (tgt := 172) dX11_decides_106 (by decide) ?_
                    refine x_weaken (L1 := [(0, .ref 0), (1, .int (zN (1)))]) (List.forall_mem_cons.mpr ⟨(List.Mem.tail _ (List.Mem.tail _ (List.Mem.head _))), (List.forall_mem_cons.mpr ⟨(List.Mem.tail _ (List.Mem.tail _ (List.Mem.tail _ (List.Mem.head _)))), (fun _ h => absurd h List.not_mem_nil)⟩)⟩) ?_
                    have he43 : (wI (wA (wA H 6 (M)) 8 (f2)) 6 (16 + k) (2)) = (wA (wA H 6 (drd (H.1 2) (H.1 0 21) M)) 8 (f2)) := by first | ((repeat rw [w68]); exact congrArg (fun z => wA (wA H 6 z) 8 _) hD) | (exfalso; omega)
                    refine Ev_heq he43 ?_
                    have ok44 : okZ (wA (wA H 6 (drd (H.1 2) (H.1 0 21) M)) 8 (f2)) := by rw [← he43]; exact ok42
                    exact jn172 (f2) ok44 
                  · skip
                    refine z_iconst (pc := 100) dX11_decides_100 ?_
                    refine x_goto (pc := 101) (tgt := 105) dX11_decides_101 (by decide) ?_
                    refine z_iast (pc := 105) (j := 16 + k) (v := 1) dX11_decides_105 sh_6 (by omega) (by omega) (by decide) ?_
                    have ok45 := okI ok19 6 (16 + k) (v := 1) (by decide) (by decide)
                    refine x_goto (pc := 106) (tgt := 172) dX11_decides_106 (by decide) ?_
                    refine x_weaken (L1 := [(0, .ref 0), (1, .int (zN (1)))]) (List.forall_mem_cons.mpr ⟨(List.Mem.tail _ (List.Mem.tail _ (List.Mem.head _))), (List.forall_mem_cons.mpr ⟨(List.Mem.tail _ (List.Mem.tail _ (List.Mem.tail _ (List.Mem.head _)))), (fun _ h => absurd h List.not_mem_nil)⟩)⟩) ?_
                    have he46 : (wI (wA (wA H 6 (M)) 8 (f2)) 6 (16 + k) (1)) = (wA (wA H 6 (drd (H.1 2) (H.1 0 21) M)) 8 (f2)) := by first | ((repeat rw [w68]); exact congrArg (fun z => wA (wA H 6 z) 8 _) hD) | (exfalso; omega)
                    refine Ev_heq he46 ?_
                    have ok47 : okZ (wA (wA H 6 (drd (H.1 2) (H.1 0 21) M)) 8 (f2)) := by rw [← he46]; exact ok45
                    exact jn172 (f2) ok47 
            · skip
              have hcs : ¬ M (8 + k) * (M (8 + k) - 1) / 2 ≤ M k - H.1 2 35 := hc16
              have hsh : shr (H.1 2) M (H.1 0 21) k = 0 := if_neg hcs
              have hD := drd_0 hM41 hA hsh
              refine z_if_eq (pc := 65) (tgt := 76) dX11_decides_65 (by decide) (by decide) (by decide) (fun _ => ?_) (fun h => absurd h (by decide))
              refine z_iconst (pc := 76) dX11_decides_76 ?_
              refine x_istore_n (pc := 77) dX11_decides_77 (Nat.le_of_ble_eq_true rfl) ?_
              show Ev _ _ _ _ _ [(3, .int (zN (0))), (2, .int (zN (((k : Int))))), (0, .ref 0), (1, .int (zN (1)))] _ _
              refine x_iload_n (pc := 78) dX11_decides_78 (List.Mem.head _) ?_
              refine z_if_eq (pc := 79) (tgt := 88) dX11_decides_79 (by decide) (by decide) (by decide) (fun _ => ?_) (fun h => absurd h (by decide))
              refine x_aload_n (pc := 88) dX11_decides_88 (List.Mem.tail _ (List.Mem.tail _ (List.Mem.head _))) ?_
              refine z_getR (pc := 89) (k := 18) (r := 6) dX11_decides_89 lf_X11_33 sh_0 rfl rf_0_18 ?_
              refine z_bipush (pc := 92) dX11_decides_92 bp_16 ?_
              refine x_iload_n (pc := 94) dX11_decides_94 (List.Mem.tail _ (List.Mem.head _)) ?_
              refine z_iadd (pc := 95) dX11_decides_95 ?_
              refine x_iload_n (pc := 96) dX11_decides_96 (List.Mem.head _) ?_
              refine z_if_ne (pc := 97) (tgt := 104) dX11_decides_97 (by decide) (by decide) (by decide) (fun h => absurd h (by decide)) (fun _ => ?_)
              refine z_iconst (pc := 100) dX11_decides_100 ?_
              refine x_goto (pc := 101) (tgt := 105) dX11_decides_101 (by decide) ?_
              refine z_iast (pc := 105) (j := 16 + k) (v := 1) dX11_decides_105 sh_6 (by omega) (by omega) (by decide) ?_
              have ok51 := okI ok15 6 (16 + k) (v := 1) (by decide) (by decide)
              refine x_goto (pc := 106) (tgt := 172) dX11_decides_106 (by decide) ?_
              refine x_weaken (L1 := [(0, .ref 0), (1, .int (zN (1)))]) (List.forall_mem_cons.mpr ⟨(List.Mem.tail _ (List.Mem.tail _ (List.Mem.head _))), (List.forall_mem_cons.mpr ⟨(List.Mem.tail _ (List.Mem.tail _ (List.Mem.tail _ (List.Mem.head _)))), (fun _ h => absurd h List.not_mem_nil)⟩)⟩) ?_
              have he52 : (wI (wA (wA H 6 (M)) 8 (f)) 6 (16 + k) (1)) = (wA (wA H 6 (drd (H.1 2) (H.1 0 21) M)) 8 (f)) := by first | ((repeat rw [w68]); exact congrArg (fun z => wA (wA H 6 z) 8 _) hD) | (exfalso; omega)
              refine Ev_heq he52 ?_
              have ok53 : okZ (wA (wA H 6 (drd (H.1 2) (H.1 0 21) M)) 8 (f)) := by rw [← he52]; exact ok51
              exact jn172 (f) ok53 
          · skip
            have hD := drd_n (A := H.1 2) (wo := H.1 0 21) hM41 (decide_eq_false (by omega))
            refine z_if_eq (pc := 57) (tgt := 172) dX11_decides_57 (by decide) (by decide) (by decide) (fun _ => ?_) (fun h => absurd h (by decide))
            refine x_weaken (L1 := [(0, .ref 0), (1, .int (zN (1)))]) (List.forall_mem_cons.mpr ⟨(List.Mem.tail _ (List.Mem.head _)), (List.forall_mem_cons.mpr ⟨(List.Mem.tail _ (List.Mem.tail _ (List.Mem.head _))), (fun _ h => absurd h List.not_mem_nil)⟩)⟩) ?_
            have he55 : (wA (wA H 6 (M)) 8 (f)) = (wA (wA H 6 (drd (H.1 2) (H.1 0 21) M)) 8 (f)) := by first | ((repeat rw [w68]); exact congrArg (fun z => wA (wA H 6 z) 8 _) hD) | (exfalso; omega)
            refine Ev_heq he55 ?_
            have ok56 : okZ (wA (wA H 6 (drd (H.1 2) (H.1 0 21) M)) 8 (f)) := by rw [← he55]; exact ok11
            exact jn172 (f) ok56 
  refine x_weaken (L1 := [(0, .ref 0), (1, .int (zN (1)))]) (List.forall_mem_cons.mpr ⟨(List.Mem.head _), (List.forall_mem_cons.mpr ⟨(List.Mem.tail _ (List.Mem.head _)), (fun _ h => absurd h List.not_mem_nil)⟩)⟩) ?_
  have he57 : H = (wA (wA H 6 (H.1 6)) 8 (H.1 8)) := by rw [wA_self, wA_self]
  refine Ev_heq he57 ?_
  have ok58 : okZ (wA (wA H 6 (H.1 6)) 8 (H.1 8)) := by rw [← he57]; exact ok
  exact lp0 ((H.1 2 1).toNat - 0 + 1) (0) (H.1 6) (H.1 8) ok58 (by omega) (rfl) (Nat.lt_succ_self _)
