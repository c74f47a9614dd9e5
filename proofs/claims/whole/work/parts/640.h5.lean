/-! GROUP H5: tokens taken one by one. -/
theorem run_bd (P : Int → Bool) (T : Nat → Int) (n : Nat) : ∀ f p, p ≤ n → p ≤ run P T n f p ∧ run P T n f p ≤ n := by
  intro f
  induction f with
  | zero => intro p h; exact ⟨Nat.le_refl _, h⟩
  | succ f ih =>
    intro p h
    show p ≤ (if p < n ∧ P (T p) = true then run P T n f (p + 1) else p) ∧ (if p < n ∧ P (T p) = true then run P T n f (p + 1) else p) ≤ n
    by_cases z : p < n ∧ P (T p) = true
    · rw [if_pos z]
      have y := ih (p + 1) (by omega)
      omega
    · rw [if_neg z]
      exact ⟨Nat.le_refl _, h⟩
theorem rn_bd (P : Int → Bool) (T : Nat → Int) {n p : Nat} (h : p ≤ n) : p ≤ rn P T n p ∧ rn P T n p ≤ n := run_bd P T n (n - p) p h
theorem rn_lt {P : Int → Bool} {T : Nat → Int} {n p : Nat} (h : p < n) (hp : P (T p) = true) : p < rn P T n p ∧ rn P T n p ≤ n := by
  rw [rn_s h hp]
  have z := rn_bd P T (n := n) (p := p + 1) (by omega)
  omega
theorem tk_bd (T : Nat → Int) {n b : Nat} (h : b ≤ n) : b ≤ tkA T n b ∧ tkA T n b ≤ tkE T n b ∧ tkE T n b ≤ n ∧ (0 ≤ tkK T n b ∧ tkK T n b ≤ 35) ∧ (tkK T n b ≠ 34 → tkA T n b < tkE T n b) := by
  have z : b ≤ tkA T n b ∧ tkA T n b ≤ n := rn_bd isW T h
  by_cases h1 : n ≤ tkA T n b
  · have eE : tkE T n b = tkA T n b := if_pos h1
    have eK : tkK T n b = 34 := if_pos h1
    exact ⟨by omega, by omega, by omega, by omega, fun y => absurd eK y⟩
  · by_cases h2 : isL (T (tkA T n b)) = true
    · have eE : tkE T n b = rn isL T n (tkA T n b) := (if_neg h1).trans (if_pos h2)
      have eK : tkK T n b = kwF T (tkA T n b) (tkE T n b) := (if_neg h1).trans (if_pos h2)
      have kb := kwF_bd T (tkA T n b) (tkE T n b)
      have rl := rn_lt (P := isL) (T := T) (n := n) (p := tkA T n b) (by omega) h2
      exact ⟨by omega, by omega, by omega, by omega, fun _ => by omega⟩
    · by_cases h3 : isN (T (tkA T n b)) = true
      · have eE : tkE T n b = rn isN T n (tkA T n b) := (if_neg h1).trans ((if_neg h2).trans (if_pos h3))
        have eK : tkK T n b = (if tkE T n b - tkA T n b ≤ 3 then 30 else 35) := (if_neg h1).trans ((if_neg h2).trans (if_pos h3))
        have rl := rn_lt (P := isN) (T := T) (n := n) (p := tkA T n b) (by omega) h3
        have eK2 : tkK T n b = 30 ∨ tkK T n b = 35 := by rw [eK]; split <;> omega
        exact ⟨by omega, by omega, by omega, by omega, fun _ => by omega⟩
      · have eE : tkE T n b = tkA T n b + 1 := (if_neg h1).trans ((if_neg h2).trans (if_neg h3))
        have eK : tkK T n b = (if T (tkA T n b) = 59 then 31 else if T (tkA T n b) = 40 then 32 else if T (tkA T n b) = 41 then 33 else 35) := (if_neg h1).trans ((if_neg h2).trans (if_neg h3))
        have eK2 : 31 ≤ tkK T n b ∧ tkK T n b ≤ 35 := by rw [eK]; (repeat' split) <;> omega
        exact ⟨by omega, by omega, by omega, by omega, fun _ => by omega⟩
/-- the number of the token from b on (where it is a number) -/
def tkN (T : Nat → Int) (n b : Nat) : Int := tkV T n b 0
theorem tkV_N {T : Nat → Int} {n b : Nat} (h : tkK T n b = 30) (o : Int) : tkV T n b o = tkN T n b := by
  by_cases h1 : n ≤ tkA T n b
  · have eK : tkK T n b = 34 := if_pos h1
    omega
  · by_cases h2 : isL (T (tkA T n b)) = true
    · have eK : tkK T n b = kwF T (tkA T n b) (tkE T n b) := (if_neg h1).trans (if_pos h2)
      have kb := kwF_bd T (tkA T n b) (tkE T n b)
      omega
    · by_cases h3 : isN (T (tkA T n b)) = true
      · exact ((if_neg h1).trans ((if_neg h2).trans (if_pos h3))).trans ((if_neg h1).trans ((if_neg h2).trans (if_pos h3))).symm
      · have eK : tkK T n b = (if T (tkA T n b) = 59 then 31 else if T (tkA T n b) = 40 then 32 else if T (tkA T n b) = 41 then 33 else 35) := (if_neg h1).trans ((if_neg h2).trans (if_neg h3))
        have eK2 : 31 ≤ tkK T n b ∧ tkK T n b ≤ 35 := by rw [eK]; (repeat' split) <;> omega
        omega
/-- the reference reads at p (w = 0), or has found the fault w at p -/
def TkS (H : ZH) (T : Nat → Int) (n : Nat) (w : Int) (p : Nat) : Prop := p ≤ n ∧ H.1 0 9 = (n : Int) ∧ H.1 4 = T ∧ (0 ≤ w ∧ w ≤ 5) ∧ H.1 0 12 = w ∧ (w = 0 → H.1 0 7 = (tkA T n p : Int) ∧ H.1 0 8 = (tkE T n p : Int) ∧ H.1 0 10 = tkK T n p ∧ (tkK T n p = 30 → H.1 0 11 = tkN T n p)) ∧ (w ≠ 0 → H.1 0 13 = (p : Int))
theorem TkS_eq {H : ZH} {T : Nat → Int} {n p p' : Nat} {w w' : Int} (h : TkS H T n w p) (e1 : w' = w) (e2 : p' = p) : TkS H T n w' p' := by rw [e1, e2]; exact h
/-- only the reading's own fields change -/
def FrT (H H1 : ZH) : Prop := (∀ cc k, ¬ (cc = 0 ∧ (k = 7 ∨ k = 8 ∨ (10 ≤ k ∧ k ≤ 13))) → H1.1 cc k = H.1 cc k) ∧ H1.2 = H.2
theorem FrT_rf (H : ZH) : FrT H H := ⟨fun _ _ _ => rfl, rfl⟩
theorem FrT_tr {H H1 H2 : ZH} (a : FrT H H1) (b : FrT H1 H2) : FrT H H2 := ⟨fun cc k h => (b.1 cc k h).trans (a.1 cc k h), b.2.trans a.2⟩
theorem nx2 {H H1 : ZH} {T : Nat → Int} {n p : Nat} {w : Int} (hS : TkS H T n w p) (hw : w = 0) (h : NxP H H1 (H.1 4) n (tkE T n p)) : TkS H1 T n 0 (tkE T n p) ∧ FrT H H1 := by
  obtain ⟨t1, t2, t3, t4, t5, t6, t7⟩ := hS
  rw [t3] at h
  obtain ⟨q1, q2, q3, q4, q5, q6⟩ := h
  exact ⟨⟨(tk_bd T t1).2.2.1, (q5 0 9 (by omega)).trans t2, (funext (fun k => q5 4 k (by omega))).trans t3, by omega, (q5 0 12 (by omega)).trans (t5.trans hw), fun _ => ⟨q1, q2, q3, fun e => q4.trans (tkV_N e _)⟩, fun z => absurd rfl z⟩, fun cc k hh => q5 cc k (by omega), q6⟩
def pfW (T : Nat → Int) (n : Nat) (a w : Int) (p : Nat) : Int := if w = 0 then (if tkK T n p = 35 then 1 else a) else w
def pfP (T : Nat → Int) (n : Nat) (w : Int) (p : Nat) : Nat := if w = 0 then tkA T n p else p
theorem fl_TkS {H H1 : ZH} {T : Nat → Int} {n p : Nat} {w a : Int} (ha : 1 ≤ a ∧ a ≤ 5) (hS : TkS H T n w p) (h : H1 = if H.1 0 12 = 0 then wI (wI H 0 12 (if H.1 0 10 = 35 then 1 else a)) 0 13 (H.1 0 7) else H) : TkS H1 T n (pfW T n a w p) (pfP T n w p) ∧ FrT H H1 ∧ H1.1 0 11 = H.1 0 11 := by
  have hS0 := hS
  obtain ⟨t1, t2, t3, t4, t5, t6, t7⟩ := hS
  by_cases z : w = 0
  · obtain ⟨u1, u2, u3, u4⟩ := t6 z
    rw [if_pos (t5.trans z), u3, u1] at h
    have tb := tk_bd T t1
    have e1 : pfW T n a w p = (if tkK T n p = 35 then 1 else a) := if_pos z
    have e2 : pfP T n w p = tkA T n p := if_pos z
    have e3 : 1 ≤ (if tkK T n p = 35 then 1 else a) ∧ (if tkK T n p = 35 then 1 else a) ≤ 5 := by split <;> omega
    rw [e1, e2, h]
    refine ⟨⟨by omega, ?_, ?_, ⟨by omega, e3.2⟩, ?_, fun q => absurd q (by omega), fun _ => ?_⟩, ⟨fun cc k hh => ?_, rfl⟩, ?_⟩
    · rw [wI1k (by omega), wI1k (by omega)]; exact t2
    · rw [wIf (by omega), wIf (by omega)]; exact t3
    · rw [wI1k (by omega), wI1]
    · rw [wI1]
    · rw [wIg, if_neg (by omega), wIg, if_neg (by omega)]
    · rw [wI1k (by omega), wI1k (by omega)]
  · rw [if_neg (by omega)] at h
    rw [h, show pfW T n a w p = w from if_neg z, show pfP T n w p = p from if_neg z]
    exact ⟨hS0, FrT_rf _, rfl⟩
def pnW (T : Nat → Int) (n : Nat) (a w : Int) (p : Nat) : Int := if w ≠ 0 then w else if tkK T n p = a then 0 else if tkK T n p = 35 then 1 else 2
def pnP (T : Nat → Int) (n : Nat) (a w : Int) (p : Nat) : Nat := if w ≠ 0 then p else if tkK T n p = a then tkE T n p else tkA T n p
theorem pn_t {T : Nat → Int} {n p : Nat} {a w : Int} (h : w = 0 ∧ tkK T n p = a) : pnW T n a w p = w ∧ pnP T n a w p = tkE T n p := by
  constructor
  · unfold pnW; rw [if_neg (by omega), if_pos h.2, h.1]
  · unfold pnP; rw [if_neg (by omega), if_pos h.2]
theorem pn_f {T : Nat → Int} {n p : Nat} {a w : Int} (h : ¬ (w = 0 ∧ tkK T n p = a)) : pnW T n a w p = pfW T n 2 w p ∧ pnP T n a w p = pfP T n w p := by
  by_cases z : w = 0
  · have k : ¬ tkK T n p = a := fun y => h ⟨z, y⟩
    exact ⟨((if_neg (by omega)).trans (if_neg k)).trans (if_pos z).symm, ((if_neg (by omega)).trans (if_neg k)).trans (if_pos z).symm⟩
  · exact ⟨(if_pos z).trans (if_neg z).symm, (if_pos z).trans (if_neg z).symm⟩
def ptW (T : Nat → Int) (n : Nat) (lo hi w : Int) (p : Nat) : Int := if w ≠ 0 then w else if tkK T n p ≠ 30 then (if tkK T n p = 35 then 1 else 2) else if tkN T n p < lo ∨ hi < tkN T n p then 3 else 0
def ptP (T : Nat → Int) (n : Nat) (lo hi w : Int) (p : Nat) : Nat := if w ≠ 0 then p else if ptW T n lo hi w p = 0 then tkE T n p else tkA T n p
def pmP (T : Nat → Int) (n : Nat) (lo hi w : Int) (p : Nat) : Nat := if w ≠ 0 then p else if ptW T n lo hi w p = 0 then p else tkA T n p
theorem pt_f {T : Nat → Int} {n p : Nat} {lo hi w : Int} (h : ¬ (w = 0 ∧ tkK T n p = 30)) : ptW T n lo hi w p = pfW T n 2 w p ∧ pmP T n lo hi w p = pfP T n w p := by
  by_cases z : w = 0
  · have e : ptW T n lo hi w p = (if tkK T n p = 35 then 1 else 2) := (if_neg (by omega)).trans (if_pos (by omega))
    have e0 : ptW T n lo hi w p ≠ 0 := by rw [e]; split <;> omega
    exact ⟨e.trans (if_pos z).symm, ((if_neg (by omega)).trans (if_neg e0)).trans (if_pos z).symm⟩
  · exact ⟨(if_pos z).trans (if_neg z).symm, (if_pos z).trans (if_neg z).symm⟩
theorem pt_b {T : Nat → Int} {n p : Nat} {lo hi w : Int} (h : w = 0 ∧ tkK T n p = 30) (h2 : tkN T n p < lo ∨ hi < tkN T n p) : ptW T n lo hi w p = pfW T n 3 w p ∧ pmP T n lo hi w p = pfP T n w p := by
  have e : ptW T n lo hi w p = 3 := (if_neg (by omega)).trans ((if_neg (by omega)).trans (if_pos h2))
  have e2 : pfW T n 3 w p = 3 := (if_pos h.1).trans (if_neg (by omega))
  exact ⟨e.trans e2.symm, ((if_neg (by omega)).trans (if_neg (by omega))).trans (if_pos h.1).symm⟩
theorem pt_o {T : Nat → Int} {n p : Nat} {lo hi w : Int} (h : w = 0 ∧ tkK T n p = 30) (h2 : ¬ (tkN T n p < lo ∨ hi < tkN T n p)) : ptW T n lo hi w p = w ∧ pmP T n lo hi w p = p := by
  have e : ptW T n lo hi w p = 0 := (if_neg (by omega)).trans ((if_neg (by omega)).trans (if_neg h2))
  exact ⟨by omega, (if_neg (by omega)).trans (if_pos e)⟩
theorem pt_n {T : Nat → Int} {n p : Nat} {lo hi w : Int} (h : ptW T n lo hi w p ≠ 0) : ptP T n lo hi w p = pmP T n lo hi w p := by
  unfold ptP pmP
  rw [if_neg h, if_neg h]
theorem pt_z {T : Nat → Int} {n p : Nat} {lo hi w : Int} (h : ptW T n lo hi w p = 0) : w = 0 ∧ tkK T n p = 30 ∧ (lo ≤ tkN T n p ∧ tkN T n p ≤ hi) ∧ pmP T n lo hi w p = p ∧ ptP T n lo hi w p = tkE T n p := by
  by_cases z : w = 0
  · by_cases k : tkK T n p = 30
    · by_cases y : tkN T n p < lo ∨ hi < tkN T n p
      · have e : ptW T n lo hi w p = 3 := (if_neg (by omega)).trans ((if_neg (by omega)).trans (if_pos y))
        omega
      · exact ⟨z, k, by omega, (if_neg (by omega)).trans (if_pos h), (if_neg (by omega)).trans (if_pos h)⟩
    · have e : ptW T n lo hi w p = (if tkK T n p = 35 then 1 else 2) := (if_neg (by omega)).trans (if_pos k)
      have e0 : ptW T n lo hi w p ≠ 0 := by rw [e]; split <;> omega
      exact absurd h e0
  · have e : ptW T n lo hi w p = w := if_pos z
    omega

theorem c_X11_eats {d : Nat} {H : ZH} (ok : okZ H) {T : Nat → Int} {n p : Nat} {w a : Int} (hn : n ≤ 400) (ha : 0 ≤ a ∧ a ≤ 33) (hT : ∀ k, 0 ≤ T k ∧ T k ≤ 255) (hS : TkS H T n w p) : EvC zX (d + 3) mX11_eats [.ref 0, .int (zN (a))] (eh H) (zPi (fun (r : Int) (H1 : ZH) => r = (if w = 0 ∧ tkK T n p = a then 1 else 0) ∧ TkS H1 T n w (if w = 0 ∧ tkK T n p = a then tkE T n p else p) ∧ FrT H H1)) := by
  show _ ∧ Ev zX mX11_eats (EvC zX (d + 2)) (zPi (fun (r : Int) (H1 : ZH) => r = (if w = 0 ∧ tkK T n p = a then 1 else 0) ∧ TkS H1 T n w (if w = 0 ∧ tkK T n p = a then tkE T n p else p) ∧ FrT H H1)) 0 [(0, .ref 0), (1, .int (zN (a)))] [] (eh H)
  refine ⟨Nat.le_of_ble_eq_true rfl, ?_⟩
  have t5 := hS.2.2.2.2.1
  have t6 := hS.2.2.2.2.2.1
  refine x_aload_n (pc := 0) dX11_eats_0 (List.Mem.head _) ?_
  refine x_iload_n (pc := 1) dX11_eats_1 (List.Mem.tail _ (List.Mem.head _)) ?_
  refine z_callVbp (pc := 2) (i := mX11_is) (S := []) [.int (zN (a))] dX11_eats_2 ml_X11_139 ok_X11_is rfl sh_0 rfl (Or.inr rfl) (Nat.le_of_ble_eq_true rfl) (c_X11_is (d := d + 1) (a := a) (a1 := (by omega)) (a2 := (by omega)) (ok := ok)) (fun hc3 ok2 => ?_) (fun hc3 ok2 => ?_)
  · skip
    have hct : w = 0 ∧ tkK T n p = a := ⟨by omega, by have y := (t6 (by omega)).2.2.1; omega⟩
    refine z_if_ne (pc := 5) (tgt := 10) dX11_eats_5 (by decide) (by decide) (by decide) (fun _ => ?_) (fun h => absurd h (by decide))
    refine x_aload_n (pc := 10) dX11_eats_10 (List.Mem.head _) ?_
    refine z_callVv (pc := 11) (i := mX11_next) (S := []) [] dX11_eats_11 ml_X11_142 ok_X11_next rfl sh_0 rfl rfl (Nat.le_of_ble_eq_true rfl) (c_X11_next (d := d) (n := n) (b := (tkE T n p)) (hn := hn) (hb := ((tk_bd T hS.1).2.2.1)) (ok := ok2) (h8 := ((hS.2.2.2.2.2.1 hct.1).2.1)) (h9 := (hS.2.1)) (ht := (fun k => by rw [hS.2.2.1]; exact hT k))) ?_
    intro H8 ok6 hp7
    have hnx := nx2 hS hct.1 hp7
    refine z_iconst (pc := 14) dX11_eats_14 ?_
    refine z_ireturn (pc := 15) dX11_eats_15 rfl (Or.inr ⟨rfl, by omega⟩) ok6 (by decide) (by decide) ?_
    exact ⟨(if_pos hct).symm, by rw [if_pos hct, hct.1]; exact hnx.1, hnx.2⟩
  · skip
    have hcf : ¬ (w = 0 ∧ tkK T n p = a) := fun z => hc3 ⟨by omega, by have y := (t6 z.1).2.2.1; omega⟩
    refine z_if_ne (pc := 5) (tgt := 10) dX11_eats_5 (by decide) (by decide) (by decide) (fun h => absurd h (by decide)) (fun _ => ?_)
    refine z_iconst (pc := 8) dX11_eats_8 ?_
    refine z_ireturn (pc := 9) dX11_eats_9 rfl (Or.inr ⟨rfl, by omega⟩) ok2 (by decide) (by decide) ?_
    exact ⟨(if_neg hcf).symm, by rw [if_neg hcf]; exact hS, FrT_rf _⟩

theorem c_X11_needs {d : Nat} {H : ZH} (ok : okZ H) {T : Nat → Int} {n p : Nat} {w a : Int} (hn : n ≤ 400) (ha : 0 ≤ a ∧ a ≤ 33) (hT : ∀ k, 0 ≤ T k ∧ T k ≤ 255) (hS : TkS H T n w p) : EvC zX (d + 4) mX11_needs [.ref 0, .int (zN (a))] (eh H) (zPv (fun (H1 : ZH) => TkS H1 T n (pnW T n a w p) (pnP T n a w p) ∧ FrT H H1)) := by
  show _ ∧ Ev zX mX11_needs (EvC zX (d + 3)) (zPv (fun (H1 : ZH) => TkS H1 T n (pnW T n a w p) (pnP T n a w p) ∧ FrT H H1)) 0 [(0, .ref 0), (1, .int (zN (a)))] [] (eh H)
  refine ⟨Nat.le_of_ble_eq_true rfl, ?_⟩
  refine x_aload_n (pc := 0) dX11_needs_0 (List.Mem.head _) ?_
  refine x_iload_n (pc := 1) dX11_needs_1 (List.Mem.tail _ (List.Mem.head _)) ?_
  refine z_callVi (pc := 2) (i := mX11_eats) (S := []) [.int (zN (a))] dX11_needs_2 ml_X11_145 ok_X11_eats rfl sh_0 rfl (Or.inr rfl) (Nat.le_of_ble_eq_true rfl) (c_X11_eats (d := d) (a := a) (hn := hn) (ha := (by omega)) (ok := ok) (hT := hT) (hS := hS)) ?_
  intro r1 H2 r1a r1b ok2 hp3
  obtain ⟨hr2, hS2, hF2⟩ := hp3
  refine z_if_ne (pc := 5) (tgt := 13) dX11_needs_5 (by decide) (by omega) (by omega) (fun hb4 => ?_) (fun hb4 => ?_)
  · skip
    have hct : w = 0 ∧ tkK T n p = a := if z : w = 0 ∧ tkK T n p = a then z else (by rw [if_neg z] at hr2; omega)
    rw [if_pos hct] at hS2
    have hfin : TkS H2 T n (pnW T n a w p) (pnP T n a w p) ∧ FrT H H2 := ⟨TkS_eq hS2 (pn_t hct).1 (pn_t hct).2, hF2⟩
    refine z_vreturn (pc := 13) dX11_needs_13 rfl ok2 ?_
    exact hfin
  · skip
    have hcf : ¬ (w = 0 ∧ tkK T n p = a) := fun z => by rw [if_pos z] at hr2; omega
    rw [if_neg hcf] at hS2
    refine x_aload_n (pc := 8) dX11_needs_8 (List.Mem.head _) ?_
    refine z_iconst (pc := 9) dX11_needs_9 ?_
    refine z_callVv (pc := 10) (i := mX11_fails) (S := []) [.int (zN (2))] dX11_needs_10 ml_X11_148 ok_X11_fails rfl sh_0 rfl rfl (Nat.le_of_ble_eq_true rfl) (c_X11_fails (d := d + 2) (a := 2) (a1 := (by omega)) (a2 := (by omega)) (ok := ok2)) ?_
    intro H3 ok6 hp7
    have hfl := fl_TkS (by omega) hS2 hp7
    have hfin : TkS H3 T n (pnW T n a w p) (pnP T n a w p) ∧ FrT H H3 := ⟨TkS_eq hfl.1 (pn_f hcf).1 (pn_f hcf).2, FrT_tr hF2 hfl.2.1⟩
    refine z_vreturn (pc := 13) dX11_needs_13 rfl ok6 ?_
    exact hfin

theorem c_X11_takes {d : Nat} {H : ZH} (ok : okZ H) {T : Nat → Int} {n p : Nat} {w lo hi : Int} (hn : n ≤ 400) (lo1 : -2147483648 ≤ lo) (lo2 : lo ≤ 2147483647) (hi1 : -2147483648 ≤ hi) (hi2 : hi ≤ 2147483647) (hT : ∀ k, 0 ≤ T k ∧ T k ≤ 255) (hS : TkS H T n w p) : EvC zX (d + 3) mX11_takes [.ref 0, .int (zN (lo)), .int (zN (hi))] (eh H) (zPi (fun (r : Int) (H1 : ZH) => ((ptW T n lo hi w p) = 0 → r = tkN T n p) ∧ TkS H1 T n (ptW T n lo hi w p) (ptP T n lo hi w p) ∧ FrT H H1)) := by
  show _ ∧ Ev zX mX11_takes (EvC zX (d + 2)) (zPi (fun (r : Int) (H1 : ZH) => ((ptW T n lo hi w p) = 0 → r = tkN T n p) ∧ TkS H1 T n (ptW T n lo hi w p) (ptP T n lo hi w p) ∧ FrT H H1)) 0 [(0, .ref 0), (1, .int (zN (lo))), (2, .int (zN (hi)))] [] (eh H)
  refine ⟨Nat.le_of_ble_eq_true rfl, ?_⟩
  have t5 := hS.2.2.2.2.1
  have t6 := hS.2.2.2.2.2.1
  have rdn := ok.1 0 11
  have jn37 : ∀  (Ha : ZH), okZ Ha → (TkS Ha T n (ptW T n lo hi w p) (pmP T n lo hi w p) ∧ FrT H Ha ∧ Ha.1 0 11 = H.1 0 11) → Ev zX mX11_takes (EvC zX (d + 2)) (zPi (fun (r : Int) (H1 : ZH) => ((ptW T n lo hi w p) = 0 → r = tkN T n p) ∧ TkS H1 T n (ptW T n lo hi w p) (ptP T n lo hi w p) ∧ FrT H H1)) 37 [(0, .ref 0), (1, .int (zN (lo))), (2, .int (zN (hi)))] [] (eh Ha) := by
    intro Ha okj37 ja
    obtain ⟨ja1, ja2, ja3⟩ := ja
    have jw := ja1.2.2.2.1
    refine x_aload_n (pc := 37) dX11_takes_37 (List.Mem.head _) ?_
    refine z_getI (pc := 38) (k := 11) (v := (H.1 0 11)) dX11_takes_38 lf_X11_130 sh_0 rfl ja3 ?_
    refine x_istore_n (pc := 41) dX11_takes_41 (Nat.le_of_ble_eq_true rfl) ?_
    show Ev _ _ _ _ _ [(3, .int (zN (((H.1 0 11))))), (0, .ref 0), (1, .int (zN (lo))), (2, .int (zN (hi)))] _ _
    refine x_aload_n (pc := 42) dX11_takes_42 (List.Mem.tail _ (List.Mem.head _)) ?_
    refine z_getI (pc := 43) (k := 12) (v := (ptW T n lo hi w p)) dX11_takes_43 lf_X11_133 sh_0 rfl ja1.2.2.2.2.1 ?_
    refine z_if_ne (pc := 46) (tgt := 53) dX11_takes_46 (by decide) (by omega) (by omega) (fun hb1 => ?_) (fun hb1 => ?_)
    · skip
      have hfin : ((ptW T n lo hi w p) = 0 → H.1 0 11 = tkN T n p) ∧ TkS Ha T n (ptW T n lo hi w p) (ptP T n lo hi w p) ∧ FrT H Ha := ⟨fun z => absurd z hb1, TkS_eq ja1 rfl (pt_n hb1), ja2⟩
      refine x_iload_n (pc := 53) dX11_takes_53 (List.Mem.head _) ?_
      refine z_ireturn (pc := 54) dX11_takes_54 rfl (Or.inl rfl) okj37 (by omega) (by omega) ?_
      exact hfin
    · skip
      obtain ⟨z1, z2, z3, z4, z5⟩ := pt_z hb1
      have jb : TkS Ha T n 0 p := TkS_eq ja1 hb1.symm z4.symm
      have hb_ := hb1
      refine x_aload_n (pc := 49) dX11_takes_49 (List.Mem.tail _ (List.Mem.head _)) ?_
      refine z_callVv (pc := 50) (i := mX11_next) (S := []) [] dX11_takes_50 ml_X11_142 ok_X11_next rfl sh_0 rfl rfl (Nat.le_of_ble_eq_true rfl) (c_X11_next (d := d) (n := n) (b := (tkE T n p)) (hn := hn) (hb := ((tk_bd T jb.1).2.2.1)) (ok := okj37) (h8 := ((jb.2.2.2.2.2.1 rfl).2.1)) (h9 := (jb.2.1)) (ht := (fun k => by rw [jb.2.2.1]; exact hT k))) ?_
      intro H5 ok3 hp4
      have hnx := nx2 jb rfl hp4
      have hfin : ((ptW T n lo hi w p) = 0 → H.1 0 11 = tkN T n p) ∧ TkS H5 T n (ptW T n lo hi w p) (ptP T n lo hi w p) ∧ FrT H H5 := ⟨fun _ => (t6 z1).2.2.2 z2, TkS_eq hnx.1 hb_ z5, FrT_tr ja2 hnx.2⟩
      refine x_iload_n (pc := 53) dX11_takes_53 (List.Mem.head _) ?_
      refine z_ireturn (pc := 54) dX11_takes_54 rfl (Or.inl rfl) ok3 (by omega) (by omega) ?_
      exact hfin
  refine x_aload_n (pc := 0) dX11_takes_0 (List.Mem.head _) ?_
  refine z_bipush (pc := 1) dX11_takes_1 bp_30 ?_
  refine z_callVbp (pc := 3) (i := mX11_is) (S := []) [.int (zN (30))] dX11_takes_3 ml_X11_139 ok_X11_is rfl sh_0 rfl (Or.inr rfl) (Nat.le_of_ble_eq_true rfl) (c_X11_is (d := d + 1) (a := 30) (a1 := (by omega)) (a2 := (by omega)) (ok := ok)) (fun hc8 ok7 => ?_) (fun hc8 ok7 => ?_)
  · skip
    have hct : w = 0 ∧ tkK T n p = 30 := ⟨by omega, by have y := (t6 (by omega)).2.2.1; omega⟩
    have hnm := (t6 hct.1).2.2.2 hct.2
    refine z_if_ne (pc := 6) (tgt := 17) dX11_takes_6 (by decide) (by decide) (by decide) (fun _ => ?_) (fun h => absurd h (by decide))
    refine x_aload_n (pc := 17) dX11_takes_17 (List.Mem.head _) ?_
    have rd10 := ok7.1 0 11
    refine z_getI (pc := 18) (k := 11) (v := H.1 0 11) dX11_takes_18 lf_X11_130 sh_0 rfl rfl ?_
    refine z_i2l (pc := 21) dX11_takes_21 (by omega) (by omega) ?_
    refine x_iload_n (pc := 22) dX11_takes_22 (List.Mem.tail _ (List.Mem.head _)) ?_
    refine z_i2l (pc := 23) dX11_takes_23 (by omega) (by omega) ?_
    refine x_iload_n (pc := 24) dX11_takes_24 (List.Mem.tail _ (List.Mem.tail _ (List.Mem.head _))) ?_
    refine z_i2l (pc := 25) dX11_takes_25 (by omega) (by omega) ?_
    refine z_callSbp (pc := 26) (i := mX11_within) (S := []) [.long (zL ((H.1 0 11))), .long (zL (lo)), .long (zL (hi))] dX11_takes_26 ml_X11_152 ok_X11_within rfl (Or.inr rfl) (Nat.le_of_ble_eq_true rfl) (c_X11_within (d := d + 1) (v := ((H.1 0 11))) (lo := lo) (hi := hi) (v1 := (by omega)) (v2 := (by omega)) (lo1 := (by omega)) (lo2 := (by omega)) (hi1 := (by omega)) (hi2 := (by omega)) (ok := ok7)) (fun hc13 ok12 => ?_) (fun hc13 ok12 => ?_)
    · skip
      have hco : ¬ (tkN T n p < lo ∨ hi < tkN T n p) := by omega
      have hj : TkS H T n (ptW T n lo hi w p) (pmP T n lo hi w p) ∧ FrT H H ∧ H.1 0 11 = H.1 0 11 := ⟨TkS_eq hS (pt_o hct hco).1 (pt_o hct hco).2, FrT_rf _, rfl⟩
      refine z_if_ne (pc := 29) (tgt := 37) dX11_takes_29 (by decide) (by decide) (by decide) (fun _ => ?_) (fun h => absurd h (by decide))
      refine x_weaken (L1 := [(0, .ref 0), (1, .int (zN (lo))), (2, .int (zN (hi)))]) (List.forall_mem_cons.mpr ⟨(List.Mem.head _), (List.forall_mem_cons.mpr ⟨(List.Mem.tail _ (List.Mem.head _)), (List.forall_mem_cons.mpr ⟨(List.Mem.tail _ (List.Mem.tail _ (List.Mem.head _))), (fun _ h => absurd h List.not_mem_nil)⟩)⟩)⟩) ?_
      exact jn37  H ok12 (hj)
    · skip
      have hco : tkN T n p < lo ∨ hi < tkN T n p := by omega
      refine z_if_ne (pc := 29) (tgt := 37) dX11_takes_29 (by decide) (by decide) (by decide) (fun h => absurd h (by decide)) (fun _ => ?_)
      refine x_aload_n (pc := 32) dX11_takes_32 (List.Mem.head _) ?_
      refine z_iconst (pc := 33) dX11_takes_33 ?_
      refine z_callVv (pc := 34) (i := mX11_fails) (S := []) [.int (zN (3))] dX11_takes_34 ml_X11_148 ok_X11_fails rfl sh_0 rfl rfl (Nat.le_of_ble_eq_true rfl) (c_X11_fails (d := d + 1) (a := 3) (a1 := (by omega)) (a2 := (by omega)) (ok := ok12)) ?_
      intro H2 ok17 hp18
      have hfl := fl_TkS (by omega) hS hp18
      have hj : TkS H2 T n (ptW T n lo hi w p) (pmP T n lo hi w p) ∧ FrT H H2 ∧ H2.1 0 11 = H.1 0 11 := ⟨TkS_eq hfl.1 (pt_b hct hco).1 (pt_b hct hco).2, hfl.2.1, hfl.2.2⟩
      refine x_weaken (L1 := [(0, .ref 0), (1, .int (zN (lo))), (2, .int (zN (hi)))]) (List.forall_mem_cons.mpr ⟨(List.Mem.head _), (List.forall_mem_cons.mpr ⟨(List.Mem.tail _ (List.Mem.head _)), (List.forall_mem_cons.mpr ⟨(List.Mem.tail _ (List.Mem.tail _ (List.Mem.head _))), (fun _ h => absurd h List.not_mem_nil)⟩)⟩)⟩) ?_
      exact jn37  H2 ok17 (hj)
  · skip
    have hcf : ¬ (w = 0 ∧ tkK T n p = 30) := fun z => hc8 ⟨by omega, by have y := (t6 z.1).2.2.1; omega⟩
    refine z_if_ne (pc := 6) (tgt := 17) dX11_takes_6 (by decide) (by decide) (by decide) (fun h => absurd h (by decide)) (fun _ => ?_)
    refine x_aload_n (pc := 9) dX11_takes_9 (List.Mem.head _) ?_
    refine z_iconst (pc := 10) dX11_takes_10 ?_
    refine z_callVv (pc := 11) (i := mX11_fails) (S := []) [.int (zN (2))] dX11_takes_11 ml_X11_148 ok_X11_fails rfl sh_0 rfl rfl (Nat.le_of_ble_eq_true rfl) (c_X11_fails (d := d + 1) (a := 2) (a1 := (by omega)) (a2 := (by omega)) (ok := ok7)) ?_
    intro H2 ok21 hp22
    have hfl := fl_TkS (by omega) hS hp22
    have hj : TkS H2 T n (ptW T n lo hi w p) (pmP T n lo hi w p) ∧ FrT H H2 ∧ H2.1 0 11 = H.1 0 11 := ⟨TkS_eq hfl.1 (pt_f hcf).1 (pt_f hcf).2, hfl.2.1, hfl.2.2⟩
    refine x_goto (pc := 14) (tgt := 37) dX11_takes_14 (by decide) ?_
    refine x_weaken (L1 := [(0, .ref 0), (1, .int (zN (lo))), (2, .int (zN (hi)))]) (List.forall_mem_cons.mpr ⟨(List.Mem.head _), (List.forall_mem_cons.mpr ⟨(List.Mem.tail _ (List.Mem.head _)), (List.forall_mem_cons.mpr ⟨(List.Mem.tail _ (List.Mem.tail _ (List.Mem.head _))), (fun _ h => absurd h List.not_mem_nil)⟩)⟩)⟩) ?_
    exact jn37  H2 ok21 (hj)
