/-! GROUP H17: begin, readScene, readLaw of the class. -/
def FrV (H H1 : ZH) : Prop := (∀ cc k, cc ≠ 28 → ¬ (30 ≤ cc ∧ cc ≤ 34) → ¬ (55 ≤ cc ∧ cc ≤ 58) → H1.1 cc k = H.1 cc k) ∧ H1.2 = H.2
theorem FrV_tr {H H1 H2 : ZH} (a : FrV H H1) (b : FrV H1 H2) : FrV H H2 := ⟨fun cc k g h i => (b.1 cc k g h i).trans (a.1 cc k g h i), b.2.trans a.2⟩
theorem FrV_S {H H1 : ZH} (a : FrS H H1) : FrV H H1 := ⟨fun cc k g h _ => a.1 cc k h (by omega), a.2⟩
theorem FrV_K {H H1 : ZH} (a : FcK H H1) : FrV H H1 := FrV_S (FrS_K a)
theorem FrV_Q {H H1 : ZH} (a : FrQ H H1) : FrV H H1 := ⟨fun cc k g h i => a.1 cc k (by omega) (by omega) (by omega), a.2⟩
theorem FrV_w {H H1 : ZH} (a : FrV H H1) {c k : Nat} {v : Int} (hc : (30 ≤ c ∧ c ≤ 34) ∨ (55 ≤ c ∧ c ≤ 58)) : FrV H (wI H1 c k v) := ⟨fun cc j g h i => by rw [wI1c (by omega)]; exact a.1 cc j g h i, a.2⟩
/-- THE SCENE was read by the class -/
def ScC (H H1 : ZH) (r : Int) (o : (Int × Nat) × (Nat → Int)) : Prop := (o.1.1 = 0 → r = 1 ∧ H1.1 28 2 = 0 ∧ H1.1 28 3 = -1 ∧ RepSc H1 30 o.2) ∧ (o.1.1 ≠ 0 → r = 0 ∧ H1.1 28 2 = o.1.1 ∧ H1.1 28 3 = (o.1.2 : Int)) ∧ FrV H H1
theorem ScC_f {H H1 : ZH} {o : (Int × Nat) × (Nat → Int)} {w : Int} {p : Nat} (h : w ≠ 0 ∧ H1.1 28 2 = w ∧ H1.1 28 3 = (p : Int)) (e1 : o.1.1 = w) (e2 : o.1.2 = p) (f : FrV H H1) : ScC H H1 0 o := ⟨fun z => absurd (e1.symm.trans z) h.1, fun _ => ⟨rfl, h.2.1.trans e1.symm, by rw [e2]; exact h.2.2⟩, f⟩
theorem clear_rep (H : ZH) (f : Nat → Int) : RepSc (wI (wI (wI (wI (wI (wI (wI (wI H 30 0 1) 30 1 0) 30 6 0) 30 7 0) 30 8 3) 30 9 20) 30 10 40) 30 11 0) 30 (plF f) := by
  have h1 : plF f 1 = 0 := rfl
  refine ⟨?_, ?_, fun c hc => by omega, ?_, ?_, ?_, ?_, ?_, ?_⟩ <;> (repeat first | rw [wI1] | rw [wI1k (by omega)]) <;> rfl
/-- the lines of the reader's law -/
def RepLn (H : ZH) (q : Nat → Int) : Prop := H.1 55 0 = q 40 ∧ ∀ l : Nat, (l : Int) < q 40 → H.1 56 l = q (41 + l) ∧ H.1 57 l = q (65 + l)
theorem RepLn_cg {H H1 : ZH} {q : Nat → Int} (h : ∀ cc k, (cc = 55 ∧ k = 0) ∨ cc = 56 ∨ cc = 57 → H1.1 cc k = H.1 cc k) (r : RepLn H q) : RepLn H1 q := ⟨(h 55 0 (by omega)).trans r.1, fun l hl => ⟨(h 56 l (by omega)).trans (r.2 l hl).1, (h 57 l (by omega)).trans (r.2 l hl).2⟩⟩
theorem RepLn_K {H H1 : ZH} {q : Nat → Int} (a : FcK H H1) (r : RepLn H q) : RepLn H1 q := RepLn_cg (fun cc k _ => a.1 cc k (by omega)) r
theorem RepLn_Q {H H1 : ZH} {q : Nat → Int} (a : FrQ H H1) (r : RepLn H q) : RepLn H1 q := RepLn_cg (fun cc k _ => a.1 cc k (by omega) (by omega) (by omega)) r
theorem RepOp_cg {H : ZH} {c : Nat} {q q2 : Nat → Int} (h : ∀ j, 77 ≤ j → q2 j = q j) (r : RepOp H c q) : RepOp H c q2 := ⟨r.1, fun i hi => by rw [h _ (by omega), h _ (by omega)]; exact r.2 i hi⟩
def LwC (H H1 : ZH) (r : Int) (o : Ox) : Prop := (o.1.1 = 0 → r = 1 ∧ H1.1 28 2 = 0 ∧ H1.1 28 3 = -1 ∧ RepOp H1 o.2.1 o.2.2 ∧ RepLn H1 o.2.2) ∧ (o.1.1 ≠ 0 → r = 0 ∧ H1.1 28 2 = o.1.1 ∧ H1.1 28 3 = (o.1.2 : Int)) ∧ FrV H H1
theorem LwC_f {H H1 : ZH} {o : Ox} {w : Int} {p : Nat} (h : w ≠ 0 ∧ H1.1 28 2 = w ∧ H1.1 28 3 = (p : Int)) (e : o.1 = (w, p)) (f : FrV H H1) : LwC H H1 0 o := by
  have e1 : o.1.1 = w := by rw [e]
  have e2 : o.1.2 = p := by rw [e]
  exact ⟨fun z => absurd (e1.symm.trans z) h.1, fun _ => ⟨rfl, h.2.1.trans e1.symm, by rw [e2]; exact h.2.2⟩, f⟩
theorem lwL_1 {T : Nat → Int} {n p : Nat} {s : Sx} (hk : tkK T n p = 17) (h2 : s.2 40 ≠ 12) : lwL T n p s = (pn T n 31 (lwT T n p s).1, ((lwT T n p s).2.1, upA (upA (lwT T n p s).2.2 (65 + (s.2 40).toNat) ((lwT T n p s).2.1 : Int)) 40 (s.2 40 + 1))) := (if_neg (fun z => z hk)).trans (if_neg h2)
theorem lwL_a {T : Nat → Int} {n p : Nat} {s : Sx} (hk : tkK T n p = 17) (h2 : s.2 40 ≠ 12) (ha : (pt T n 0 100 (0, tkE T n p)).1 ≠ 0) : (lwL T n p s).1 = pt T n 0 100 (0, tkE T n p) := by
  have eb : lwB T n p = pt T n 0 100 (0, tkE T n p) := pn_nz ha
  have et : (lwT T n p s).1 = pt T n 0 100 (0, tkE T n p) := by
    have e : lwT T n p s = (lwB T n p, (s.1, lwQ T n p s.1 s.2)) := if_neg (by rw [eb]; exact ha)
    rw [e, eb]
  rw [lwL_1 hk h2]
  show pn T n 31 (lwT T n p s).1 = _
  rw [et]
  exact pn_nz ha
theorem lwL_b {T : Nat → Int} {n p : Nat} {s : Sx} (hk : tkK T n p = 17) (h2 : s.2 40 ≠ 12) (ha : (lwB T n p).1 ≠ 0) : (lwL T n p s).1 = lwB T n p := by
  have et : (lwT T n p s).1 = lwB T n p := by
    have e : lwT T n p s = (lwB T n p, (s.1, lwQ T n p s.1 s.2)) := if_neg ha
    rw [e]
  rw [lwL_1 hk h2]
  show pn T n 31 (lwT T n p s).1 = _
  rw [et]
  exact pn_nz ha
theorem lwL_q {T : Nat → Int} {n p : Nat} {s : Sx} (hk : tkK T n p = 17) (h2 : s.2 40 ≠ 12) (h40 : 0 ≤ s.2 40 ∧ s.2 40 ≤ 12) (hb : (lwB T n p).1 = 0) (ht : (lwT T n p s).1.1 = 0) : (lwL T n p s).2.1 = (lwT T n p s).2.1 ∧ (lwL T n p s).2.2 40 = s.2 40 + 1 ∧ (lwL T n p s).2.2 (41 + (s.2 40).toNat) = tkN T n (tkE T n p) ∧ (lwL T n p s).2.2 (65 + (s.2 40).toNat) = ((lwT T n p s).2.1 : Int) ∧ (∀ l : Nat, (l : Int) < s.2 40 → (lwL T n p s).2.2 (41 + l) = s.2 (41 + l) ∧ (lwL T n p s).2.2 (65 + l) = s.2 (65 + l)) ∧ (∀ j, 77 ≤ j → (lwL T n p s).2.2 j = (lwT T n p s).2.2 j) := by
  have e : lwT T n p s = pX T n 1300 3 0 (lwB T n p).2 (s.1, lwQ T n p s.1 s.2) := if_pos hb
  have pb := (pX_b (show (pX T n 1300 3 0 (lwB T n p).2 (s.1, lwQ T n p s.1 s.2)).1.1 = 0 by rw [← e]; exact ht)).1.2
  rw [← e] at pb
  have pb : ∀ k, k < 77 + 2 * s.1 → (lwT T n p s).2.2 k = lwQ T n p s.1 s.2 k := pb
  rw [lwL_1 hk h2]
  generalize lwT T n p s = o at pb ⊢
  show o.2.1 = o.2.1 ∧ upA (upA o.2.2 (65 + (s.2 40).toNat) (o.2.1 : Int)) 40 (s.2 40 + 1) 40 = s.2 40 + 1 ∧ upA (upA o.2.2 (65 + (s.2 40).toNat) (o.2.1 : Int)) 40 (s.2 40 + 1) (41 + (s.2 40).toNat) = tkN T n (tkE T n p) ∧ upA (upA o.2.2 (65 + (s.2 40).toNat) (o.2.1 : Int)) 40 (s.2 40 + 1) (65 + (s.2 40).toNat) = (o.2.1 : Int) ∧ (∀ l : Nat, (l : Int) < s.2 40 → upA (upA o.2.2 (65 + (s.2 40).toNat) (o.2.1 : Int)) 40 (s.2 40 + 1) (41 + l) = s.2 (41 + l) ∧ upA (upA o.2.2 (65 + (s.2 40).toNat) (o.2.1 : Int)) 40 (s.2 40 + 1) (65 + l) = s.2 (65 + l)) ∧ (∀ j, 77 ≤ j → upA (upA o.2.2 (65 + (s.2 40).toNat) (o.2.1 : Int)) 40 (s.2 40 + 1) j = o.2.2 j)
  refine ⟨rfl, upA_at _ _ _, ?_, ?_, fun l hl => ⟨?_, ?_⟩, fun j hj => ?_⟩
  · rw [upA_ne (by omega), upA_ne (by omega), pb _ (by omega)]
    unfold lwQ
    rw [upA_ne (by omega), upA_at]
  · rw [upA_ne (by omega), upA_at]
  · rw [upA_ne (by omega), upA_ne (by omega), pb _ (by omega)]
    unfold lwQ
    rw [upA_ne (by omega), upA_ne (by omega)]
  · rw [upA_ne (by omega), upA_ne (by omega), pb _ (by omega)]
    unfold lwQ
    rw [upA_ne (by omega), upA_ne (by omega)]
  · rw [upA_ne (by omega), upA_ne (by omega)]

set_option maxHeartbeats 4000000 in
theorem c_X3_begin {d : Nat} {H : ZH} (ok : okZ H) {T : Nat → Int} {n : Nat} (hn : n ≤ 400) (htp : TpC H T n) : EvC zX (d + 3) mX3_begin [.ref 28, .ref 21, .int (zN ((n : Int)))] (eh H) (zPv (fun (H1 : ZH) => ClS H1 T n 0 ∧ FrV H H1)) := by
  show _ ∧ Ev zX mX3_begin (EvC zX (d + 2)) (zPv (fun (H1 : ZH) => ClS H1 T n 0 ∧ FrV H H1)) 0 [(0, .ref 28), (1, .ref 21), (2, .int (zN ((n : Int))))] [] (eh H)
  refine ⟨Nat.le_of_ble_eq_true rfl, ?_⟩
  have emn : (if (400 : Int) < (n : Int) then 400 else (n : Int)) = n := if_neg (by omega)
  refine x_aload_n (pc := 0) dX3_begin_0 (List.Mem.head _) ?_
  refine x_aload_n (pc := 1) dX3_begin_1 (List.Mem.tail _ (List.Mem.head _)) ?_
  refine z_putY (pc := 2) (k := 4) dX3_begin_2 lp_X3_29 sh_28 rfl (by omega) (fun _ => rfl) (fun _ => rfl) ?_
  have ok1 := okI ok 28 4 (v := (21 : Nat)) (by omega) (by omega)
  refine x_aload_n (pc := 5) dX3_begin_5 (List.Mem.head _) ?_
  refine x_iload_n (pc := 6) dX3_begin_6 (List.Mem.tail _ (List.Mem.tail _ (List.Mem.head _))) ?_
  refine x_aload_n (pc := 7) dX3_begin_7 (List.Mem.tail _ (List.Mem.head _)) ?_
  refine z_alen (pc := 8) dX3_begin_8 sh_21 (by decide) ?_
  refine z_mmin (pc := 9) dX3_begin_9 ml_X3_80 (Nat.le_of_ble_eq_true rfl) (by omega) (by omega) (by decide) (by decide) ?_
  refine z_putI (pc := 12) (k := 5) dX3_begin_12 lp_X3_86 sh_28 rfl ?_
  have ok2 := okI ok1 28 5 (v := (if 400 < (n : Int) then 400 else (n : Int))) (by omega) (by omega)
  refine x_aload_n (pc := 15) dX3_begin_15 (List.Mem.head _) ?_
  refine z_iconst (pc := 16) dX3_begin_16 ?_
  refine z_putI (pc := 17) (k := 6) dX3_begin_17 lp_X3_89 sh_28 rfl ?_
  have ok3 := okI ok2 28 6 (v := 0) (by decide) (by decide)
  refine x_aload_n (pc := 20) dX3_begin_20 (List.Mem.head _) ?_
  refine z_iconst (pc := 21) dX3_begin_21 ?_
  refine z_putI (pc := 22) (k := 2) dX3_begin_22 lp_X3_92 sh_28 rfl ?_
  have ok4 := okI ok3 28 2 (v := 0) (by decide) (by decide)
  refine x_aload_n (pc := 25) dX3_begin_25 (List.Mem.head _) ?_
  refine z_iconst (pc := 26) dX3_begin_26 ?_
  refine z_putI (pc := 27) (k := 3) dX3_begin_27 lp_X3_25 sh_28 rfl ?_
  have ok5 := okI ok4 28 3 (v := (-1)) (by decide) (by decide)
  refine x_aload_n (pc := 30) dX3_begin_30 (List.Mem.head _) ?_
  refine z_callVv (pc := 31) (i := mX3_advance) (S := []) [] dX3_begin_31 ml_X3_95 ok_X3_advance rfl sh_28 rfl rfl (Nat.le_of_ble_eq_true rfl) (c_X3_advance (d := d) (T := T) (n := n) (b := 0) (hn := hn) (hb := (Nat.zero_le n)) (ok := ok5) (y4 := (by first | ((repeat first | rw [wI1] | rw [wI1k (by omega)] | rw [wI1c (by omega)]); done) | ((repeat first | rw [wI1] | rw [wI1k (by omega)] | rw [wI1c (by omega)]); rfl) | ((repeat first | rw [wI1] | rw [wI1k (by omega)] | rw [wI1c (by omega)]); exact emn))) (h5 := (by first | ((repeat first | rw [wI1] | rw [wI1k (by omega)] | rw [wI1c (by omega)]); done) | ((repeat first | rw [wI1] | rw [wI1k (by omega)] | rw [wI1c (by omega)]); rfl) | ((repeat first | rw [wI1] | rw [wI1k (by omega)] | rw [wI1c (by omega)]); exact emn))) (h6 := (by first | ((repeat first | rw [wI1] | rw [wI1k (by omega)] | rw [wI1c (by omega)]); done) | ((repeat first | rw [wI1] | rw [wI1k (by omega)] | rw [wI1c (by omega)]); rfl) | ((repeat first | rw [wI1] | rw [wI1k (by omega)] | rw [wI1c (by omega)]); exact emn))) (htp := (TpC_c (by repeat rw [wIf (by omega)]) htp)) (g2 := (by first | ((repeat first | rw [wI1] | rw [wI1k (by omega)] | rw [wI1c (by omega)]); done) | ((repeat first | rw [wI1] | rw [wI1k (by omega)] | rw [wI1c (by omega)]); rfl) | ((repeat first | rw [wI1] | rw [wI1k (by omega)] | rw [wI1c (by omega)]); exact emn))) (g3 := (by first | ((repeat first | rw [wI1] | rw [wI1k (by omega)] | rw [wI1c (by omega)]); done) | ((repeat first | rw [wI1] | rw [wI1k (by omega)] | rw [wI1c (by omega)]); rfl) | ((repeat first | rw [wI1] | rw [wI1k (by omega)] | rw [wI1c (by omega)]); exact emn)))) ?_
  intro H9 ok7 hp8
  have hadv := hp8
  refine z_vreturn (pc := 34) dX3_begin_34 rfl ok7 ?_
  refine ⟨hadv.1, fun cc k g h i => ?_, hadv.2.2⟩
  rw [hadv.2.1 cc k (by omega)]
  (repeat rw [wIg, if_neg (by omega)])

set_option maxHeartbeats 4000000 in
theorem c_X3_readScene {d : Nat} {H : ZH} (ok : okZ H) {T f : Nat → Int} {n : Nat} (hn : n ≤ 400) (htp : TpC H T n) : EvC zX (d + 6) mX3_readScene [.ref 28, .ref 21, .int (zN ((n : Int)))] (eh H) (zPi (fun (r : Int) (H1 : ZH) => ScC H H1 r (scR T n 402 0 (plF f)))) := by
  show _ ∧ Ev zX mX3_readScene (EvC zX (d + 5)) (zPi (fun (r : Int) (H1 : ZH) => ScC H H1 r (scR T n 402 0 (plF f)))) 0 [(0, .ref 28), (1, .ref 21), (2, .int (zN ((n : Int))))] [] (eh H)
  refine ⟨Nat.le_of_ble_eq_true rfl, ?_⟩
  refine x_aload_n (pc := 0) dX3_readScene_0 (List.Mem.head _) ?_
  refine x_aload_n (pc := 1) dX3_readScene_1 (List.Mem.tail _ (List.Mem.head _)) ?_
  refine x_iload_n (pc := 2) dX3_readScene_2 (List.Mem.tail _ (List.Mem.tail _ (List.Mem.head _))) ?_
  refine z_callVv (pc := 3) (i := mX3_begin) (S := []) [.ref 21, .int (zN ((n : Int)))] dX3_readScene_3 ml_X3_33 ok_X3_begin rfl sh_28 rfl rfl (Nat.le_of_ble_eq_true rfl) (c_X3_begin (d := d + 2) (n := n) (hn := hn) (ok := ok) (htp := htp)) ?_
  intro Hb ok2 hp3
  obtain ⟨hcS, hfb⟩ := hp3
  refine x_aload_n (pc := 6) dX3_readScene_6 (List.Mem.head _) ?_
  refine z_getR (pc := 7) (k := 0) (r := 30) dX3_readScene_7 lf_X3_12 sh_28 rfl rf_28_0 ?_
  refine z_callVvp (pc := 10) (i := mX6_clear) (S := []) [] dX3_readScene_10 ml_X3_37 ok_X6_clear rfl sh_30 rfl rfl (Nat.le_of_ble_eq_true rfl) (c_X6_clear (d := d + 4) (ok := ok2)) (fun ok5 => ?_)
  refine z_iconst (pc := 13) dX3_readScene_13 ?_
  refine x_istore_n (pc := 14) dX3_readScene_14 (Nat.le_of_ble_eq_true rfl) ?_
  show Ev _ _ _ _ _ [(3, .int (zN (0))), (0, .ref 28), (1, .ref 21), (2, .int (zN ((n : Int))))] _ _
  obtain ⟨W, hW⟩ : ∃ W, W = (wI (wI (wI (wI (wI (wI (wI (wI Hb 30 0 (1)) 30 1 (0)) 30 6 (0)) 30 7 (0)) 30 8 (3)) 30 9 (20)) 30 10 (40)) 30 11 (0)) := ⟨_, rfl⟩
  have okW0 := ok5
  rw [← hW]
  have okW : okZ W := by rw [hW]; exact okW0
  have cSW : ClS W T n 0 := by rw [hW]; exact (ClS_w (ClS_w (ClS_w (ClS_w (ClS_w (ClS_w (ClS_w (ClS_w hcS (by omega)) (by omega)) (by omega)) (by omega)) (by omega)) (by omega)) (by omega)) (by omega))
  have rSW : RepSc W 30 (plF f) := by rw [hW]; exact clear_rep Hb f
  have fvW : FrV H W := by rw [hW]; exact (FrV_w (FrV_w (FrV_w (FrV_w (FrV_w (FrV_w (FrV_w (FrV_w hfb (by omega)) (by omega)) (by omega)) (by omega)) (by omega)) (by omega)) (by omega)) (by omega))
  have lp15 : ∀ (nF : Nat) (i : Nat) (p1 : Nat) (q1 : Nat → Int) (f1 : Nat) (Hl : ZH), okZ Hl → (ClS Hl T n p1) → (RepSc Hl 30 q1) → (WFS q1) → (q1 39 = (i : Int)) → (i ≤ p1) → (n - p1 < f1) → ((scR T n 402 0 (plF f)) = scR T n f1 p1 q1) → (FrV H Hl) → f1 < nF → Ev zX mX3_readScene (EvC zX (d + 5)) (zPi (fun (r : Int) (H1 : ZH) => ScC H H1 r (scR T n 402 0 (plF f)))) 15 [(0, .ref 28), (1, .ref 21), (2, .int (zN ((n : Int)))), (3, .int (zN ((i : Int))))] [] (eh Hl) := by
    intro nF
    induction nF with
    | zero => intro i p1 q1 f1 Hl okl15 hS1 rs1 ws1 hq39 hip hfu het hfv hm; exact absurd hm (Nat.not_lt_zero _)
    | succ nF ih15 =>
      intro i p1 q1 f1 Hl okl15 hS1 rs1 ws1 hq39 hip hfu het hfv hm
      have hK := ClS_K hS1
      have hK7 := (ctK_2 hK).2.2.2.2
      rw [← ClS_7 hS1] at hK7
      have hpn := hS1.1
      refine x_iload_n (pc := 15) dX3_readScene_15 (List.Mem.tail _ (List.Mem.tail _ (List.Mem.tail _ (List.Mem.head _)))) ?_
      refine x_iload_n (pc := 16) dX3_readScene_16 (List.Mem.tail _ (List.Mem.tail _ (List.Mem.head _))) ?_
      refine z_icmp_gt (pc := 17) (tgt := 64) dX3_readScene_17 (by decide) (by omega) (by omega) (by omega) (by omega) (fun hb6 => ?_) (fun hb6 => ?_)
      · skip
        exact absurd hb6 (by omega)
      · skip
        refine x_aload_n (pc := 20) dX3_readScene_20 (List.Mem.head _) ?_
        have rd7 := okl15.1 28 7
        refine z_getI (pc := 21) (k := 7) (v := Hl.1 28 7) dX3_readScene_21 lf_X3_40 sh_28 rfl rfl ?_
        refine z_if_eq (pc := 24) (tgt := 64) dX3_readScene_24 (by decide) (by omega) (by omega) (fun hb8 => ?_) (fun hb8 => ?_)
        · skip
          have hk34 : tkK T n p1 = 34 := hK7.1 (by omega)
          obtain ⟨f2, hf2e⟩ : ∃ f2, f1 = f2 + 1 := ⟨f1 - 1, by omega⟩
          have hfin : ScC H Hl 1 (scR T n 402 0 (plF f)) := by
            rw [het, hf2e, scR_e hk34]
            exact ⟨fun _ => ⟨rfl, hS1.2.2.2.2.2.2.2.2.1, hS1.2.2.2.2.2.2.2.2.2, rs1⟩, fun z => absurd rfl z, hfv⟩
          refine z_iconst (pc := 64) dX3_readScene_64 ?_
          refine z_ireturn (pc := 65) dX3_readScene_65 rfl (Or.inr ⟨rfl, by omega⟩) okl15 (by decide) (by decide) ?_
          exact hfin
        · skip
          have hkne : tkK T n p1 ≠ 34 := fun z => hb8 (hK7.2 z)
          obtain ⟨f2, hf2e⟩ : ∃ f2, f1 = f2 + 1 := ⟨f1 - 1, by omega⟩
          have tb1 := tk_bd T hpn
          have tl1 := tb1.2.2.2.2 hkne
          refine x_aload_n (pc := 27) dX3_readScene_27 (List.Mem.head _) ?_
          refine z_callVi (pc := 28) (i := mX3_readSceneLine) (S := []) [] dX3_readScene_28 ml_X3_43 ok_X3_readSceneLine rfl sh_28 rfl (Or.inr rfl) (Nat.le_of_ble_eq_true rfl) (c_X3_readSceneLine (d := d) (q := q1) (hn := hn) (ok := okl15) (hS := hS1) (rs := rs1) (ws := ws1)) ?_
          intro r9 H2 r9a r9b ok10 hp11
          obtain ⟨hc2, hr2, hf2⟩ := hp11
          have hf2 := FrV_tr hfv (FrV_S hf2)
          refine z_if_eq (pc := 31) (tgt := 43) dX3_readScene_31 (by decide) (by omega) (by omega) (fun hb12 => ?_) (fun hb12 => ?_)
          · skip
            have hz2 := ClO_f hc2 hb12
            have el : (lnL T n p1 q1).1 = (lnM T n p1 q1).1 := pn_nz hz2.1
            have hfin : ScC H H2 0 (scR T n 402 0 (plF f)) := by
              rw [het, hf2e, scR_b hkne (by rw [el]; exact hz2.1)]
              exact ScC_f hz2 (congrArg Prod.fst el) (congrArg Prod.snd el) hf2
            refine z_iconst (pc := 43) dX3_readScene_43 ?_
            refine z_ireturn (pc := 44) dX3_readScene_44 rfl (Or.inr ⟨rfl, by omega⟩) ok10 (by decide) (by decide) ?_
            exact hfin
          · skip
            have hz2 := ClO_t hc2 hb12
            refine x_aload_n (pc := 34) dX3_readScene_34 (List.Mem.head _) ?_
            refine z_bipush (pc := 35) dX3_readScene_35 bp_59 ?_
            refine z_callVi (pc := 37) (i := mX3_takeSign) (S := []) [.int (zN (59))] dX3_readScene_37 ml_X3_47 ok_X3_takeSign rfl sh_28 rfl (Or.inr rfl) (Nat.le_of_ble_eq_true rfl) (c_X3_takeSign (d := d + 2) (k := 31) (s := 59) (hn := hn) (hks := (by omega)) (ok := ok10) (hS := hz2.2)) ?_
            intro r13 H3 r13a r13b ok14 hp15
            obtain ⟨hc3, hk3⟩ := hp15
            have ec3 : pn T n 31 (lnM T n p1 q1).1 = _ := pn_of hz2.1
            have hf3 := FrV_tr hf2 (FrV_K hk3)
            refine z_if_ne (pc := 40) (tgt := 45) dX3_readScene_40 (by decide) (by omega) (by omega) (fun hb16 => ?_) (fun hb16 => ?_)
            · skip
              have hz3 := ClO_t hc3 hb16
              have el : (lnL T n p1 q1).1 = (pnW T n 31 0 (lnM T n p1 q1).1.2, pnP T n 31 0 (lnM T n p1 q1).1.2) := ec3
              have hl0 : (lnL T n p1 q1).1.1 = 0 := by rw [el]; exact hz3.1
              have hlk := lnL_ok ws1 hpn (by omega) hl0
              have rs3 := RepSc_K hk3 (hr2 hz2.1)
              have hm39 := (lnM_ok ws1 hpn hz2.1).2.1
              have het2 : (scR T n 402 0 (plF f)) = scR T n f2 (lnL T n p1 q1).1.2 (lnL T n p1 q1).2 := by rw [het, hf2e, scR_g hkne hl0]
              refine x_aload_n (pc := 45) dX3_readScene_45 (List.Mem.head _) ?_
              refine z_getR (pc := 46) (k := 0) (r := 30) dX3_readScene_46 lf_X3_12 sh_28 rfl rf_28_0 ?_
              refine x_dup (pc := 49) dX3_readScene_49 rfl ?_
              refine z_getI (pc := 50) (k := 11) (v := (i : Int)) dX3_readScene_50 lf_X3_51 sh_30 rfl (rs3.2.2.2.2.2.2.2.2.trans (hm39.trans hq39)) ?_
              refine z_iconst (pc := 53) dX3_readScene_53 ?_
              refine z_iadd (pc := 54) dX3_readScene_54 ?_
              refine z_putI (pc := 55) (k := 11) dX3_readScene_55 lp_X3_51 sh_30 rfl ?_
              have ok17 := okI ok14 30 11 (v := (((i : Int)) + 1)) (by omega) (by omega)
              have hb1 : ClS (wI H3 30 11 ((((i : Int)) + 1))) T n (lnL T n p1 q1).1.2 := by rw [el]; exact ClS_w hz3.2 (by omega)
              have hb2 : RepSc (wI H3 30 11 ((((i : Int)) + 1))) 30 (lnL T n p1 q1).2 := by
                have y := RepSc_i (k := 11) (v := q1 39 + 1) (by omega) (lnM_ok ws1 hpn hz2.1).1.2.1.2 rs3
                rw [hq39] at y
                show RepSc _ 30 (upA (lnM T n p1 q1).2 39 (q1 39 + 1))
                rw [hq39]
                exact y
              have hb3 : (lnL T n p1 q1).2 39 = ((i + 1 : Nat) : Int) := by have := hlk.2.2.1; omega
              have hb4 : FrV H (wI H3 30 11 ((((i : Int)) + 1))) := FrV_w hf3 (by omega)
              refine z_iinc (pc := 58) dX3_readScene_58 (List.Mem.tail _ (List.Mem.tail _ (List.Mem.tail _ (List.Mem.head _)))) (Nat.le_of_ble_eq_true rfl) ?_
              show Ev _ _ _ _ _ [(3, .int (zN ((i : Int) + 1))), (0, .ref 28), (1, .ref 21), (2, .int (zN ((n : Int))))] _ _
              refine x_goto (pc := 61) (tgt := 15) dX3_readScene_61 (by decide) ?_
              refine x_weaken (L1 := [(0, .ref 28), (1, .ref 21), (2, .int (zN ((n : Int)))), (3, .int (zN ((((i + 1) : Nat) : Int))))]) (List.forall_mem_cons.mpr ⟨(List.Mem.tail _ (List.Mem.head _)), (List.forall_mem_cons.mpr ⟨(List.Mem.tail _ (List.Mem.tail _ (List.Mem.head _))), (List.forall_mem_cons.mpr ⟨(List.Mem.tail _ (List.Mem.tail _ (List.Mem.tail _ (List.Mem.head _)))), (List.forall_mem_cons.mpr ⟨(mem_ci (by omega) (List.Mem.head _)), (fun _ h => absurd h List.not_mem_nil)⟩)⟩)⟩)⟩) ?_
              exact ih15 ((i + 1)) ((lnL T n p1 q1).1.2) ((lnL T n p1 q1).2) (f2) (wI H3 30 11 ((((i : Int)) + 1))) ok17 (hb1) (hb2) (hlk.2.1) (hb3) (by have := hlk.2.2.2.1; omega) (by have := hlk.2.2.2; omega) (het2) (hb4) (by omega)
            · skip
              have hz3 := ClO_f hc3 (by omega)
              have el : (lnL T n p1 q1).1 = (pnW T n 31 0 (lnM T n p1 q1).1.2, pnP T n 31 0 (lnM T n p1 q1).1.2) := ec3
              have hfin : ScC H H3 0 (scR T n 402 0 (plF f)) := by
                rw [het, hf2e, scR_b hkne (by rw [el]; exact hz3.1)]
                exact ScC_f hz3 (congrArg Prod.fst el) (congrArg Prod.snd el) hf3
              refine z_iconst (pc := 43) dX3_readScene_43 ?_
              refine z_ireturn (pc := 44) dX3_readScene_44 rfl (Or.inr ⟨rfl, by omega⟩) ok14 (by decide) (by decide) ?_
              exact hfin
  refine x_weaken (L1 := [(0, .ref 28), (1, .ref 21), (2, .int (zN ((n : Int)))), (3, .int (zN (((0 : Nat) : Int))))]) (List.forall_mem_cons.mpr ⟨(List.Mem.tail _ (List.Mem.head _)), (List.forall_mem_cons.mpr ⟨(List.Mem.tail _ (List.Mem.tail _ (List.Mem.head _))), (List.forall_mem_cons.mpr ⟨(List.Mem.tail _ (List.Mem.tail _ (List.Mem.tail _ (List.Mem.head _)))), (List.forall_mem_cons.mpr ⟨(mem_ci (by omega) (List.Mem.head _)), (fun _ h => absurd h List.not_mem_nil)⟩)⟩)⟩)⟩) ?_
  exact lp15 (402 + 1) (0) (0) ((plF f)) (402) W okW (cSW) (rSW) (plF_WFS f) (rfl) (Nat.le_refl _) (by omega) (rfl) (fvW) (Nat.lt_succ_self _)

set_option maxHeartbeats 4000000 in
theorem c_X3_readLaw {d : Nat} {H : ZH} (ok : okZ H) {T f : Nat → Int} {n : Nat} (hn : n ≤ 400) (htp : TpC H T n) : EvC zX (d + 22) mX3_readLaw [.ref 28, .ref 21, .int (zN ((n : Int)))] (eh H) (zPi (fun (r : Int) (H1 : ZH) => LwC H H1 r (lwR T n 402 0 (0, plF f)))) := by
  show _ ∧ Ev zX mX3_readLaw (EvC zX (d + 21)) (zPi (fun (r : Int) (H1 : ZH) => LwC H H1 r (lwR T n 402 0 (0, plF f)))) 0 [(0, .ref 28), (1, .ref 21), (2, .int (zN ((n : Int))))] [] (eh H)
  refine ⟨Nat.le_of_ble_eq_true rfl, ?_⟩
  refine x_aload_n (pc := 0) dX3_readLaw_0 (List.Mem.head _) ?_
  refine x_aload_n (pc := 1) dX3_readLaw_1 (List.Mem.tail _ (List.Mem.head _)) ?_
  refine x_iload_n (pc := 2) dX3_readLaw_2 (List.Mem.tail _ (List.Mem.tail _ (List.Mem.head _))) ?_
  refine z_callVv (pc := 3) (i := mX3_begin) (S := []) [.ref 21, .int (zN ((n : Int)))] dX3_readLaw_3 ml_X3_33 ok_X3_begin rfl sh_28 rfl rfl (Nat.le_of_ble_eq_true rfl) (c_X3_begin (d := d + 18) (n := n) (hn := hn) (ok := ok) (htp := htp)) ?_
  intro Hb ok2 hp3
  obtain ⟨hcS, hfb⟩ := hp3
  refine x_aload_n (pc := 6) dX3_readLaw_6 (List.Mem.head _) ?_
  refine z_getR (pc := 7) (k := 1) (r := 55) dX3_readLaw_7 lf_X3_21 sh_28 rfl rf_28_1 ?_
  refine z_callVvp (pc := 10) (i := mX1_clear) (S := []) [] dX3_readLaw_10 ml_X3_54 ok_X1_clear rfl sh_55 rfl rfl (Nat.le_of_ble_eq_true rfl) (c_X1_clear (d := d + 20) (ok := ok2)) (fun ok5 => ?_)
  refine z_iconst (pc := 13) dX3_readLaw_13 ?_
  refine x_istore_n (pc := 14) dX3_readLaw_14 (Nat.le_of_ble_eq_true rfl) ?_
  show Ev _ _ _ _ _ [(3, .int (zN (0))), (0, .ref 28), (1, .ref 21), (2, .int (zN ((n : Int))))] _ _
  obtain ⟨W, hW⟩ : ∃ W, W = (wI (wI Hb 55 0 (0)) 55 4 (0)) := ⟨_, rfl⟩
  have okW0 := ok5
  rw [← hW]
  have okW : okZ W := by rw [hW]; exact okW0
  have cSW : ClS W T n 0 := by rw [hW]; exact (ClS_w (ClS_w hcS (by omega)) (by omega))
  have roW : RepOp W 0 (plF f) := by rw [hW]; exact ⟨by rw [wI1]; rfl, fun i hi => absurd hi (Nat.not_lt_zero _)⟩
  have rlW : RepLn W (plF f) := by rw [hW]; exact ⟨by rw [wI1k (by omega), wI1]; rfl, fun l hl => by have h40 : plF f 40 = 0 := rfl; omega⟩
  have fvW : FrV H W := by rw [hW]; exact (FrV_w (FrV_w hfb (by omega)) (by omega))
  have lp15 : ∀ (nF : Nat) (i : Nat) (p1 : Nat) (c1 : Nat) (q1 : Nat → Int) (f1 : Nat) (Hl : ZH), okZ Hl → (ClS Hl T n p1) → (RepOp Hl c1 q1) → (RepLn Hl q1) → (LwI q1 c1) → (q1 40 = (i : Int)) → (2 * c1 ≤ p1) → (i ≤ p1) → (n - p1 < f1) → ((lwR T n 402 0 (0, plF f)) = lwR T n f1 p1 (c1, q1)) → (FrV H Hl) → f1 < nF → Ev zX mX3_readLaw (EvC zX (d + 21)) (zPi (fun (r : Int) (H1 : ZH) => LwC H H1 r (lwR T n 402 0 (0, plF f)))) 15 [(0, .ref 28), (1, .ref 21), (2, .int (zN ((n : Int)))), (3, .int (zN ((i : Int))))] [] (eh Hl) := by
    intro nF
    induction nF with
    | zero => intro i p1 c1 q1 f1 Hl okl15 hS1 ro1 rl1 li1 hq40 hc1 hip hfu het hfv hm; exact absurd hm (Nat.not_lt_zero _)
    | succ nF ih15 =>
      intro i p1 c1 q1 f1 Hl okl15 hS1 ro1 rl1 li1 hq40 hc1 hip hfu het hfv hm
      have hK := ClS_K hS1
      have hK7 := (ctK_2 hK).2.2.2.2
      rw [← ClS_7 hS1] at hK7
      have hpn := hS1.1
      have h40 := li1.1.1
      have rl10 := rl1.1
      refine x_iload_n (pc := 15) dX3_readLaw_15 (List.Mem.tail _ (List.Mem.tail _ (List.Mem.tail _ (List.Mem.head _)))) ?_
      refine x_iload_n (pc := 16) dX3_readLaw_16 (List.Mem.tail _ (List.Mem.tail _ (List.Mem.head _))) ?_
      refine z_icmp_gt (pc := 17) (tgt := 124) dX3_readLaw_17 (by decide) (by omega) (by omega) (by omega) (by omega) (fun hb6 => ?_) (fun hb6 => ?_)
      · skip
        exact absurd hb6 (by omega)
      · skip
        refine x_aload_n (pc := 20) dX3_readLaw_20 (List.Mem.head _) ?_
        have rd7 := okl15.1 28 7
        refine z_getI (pc := 21) (k := 7) (v := Hl.1 28 7) dX3_readLaw_21 lf_X3_40 sh_28 rfl rfl ?_
        refine z_if_eq (pc := 24) (tgt := 124) dX3_readLaw_24 (by decide) (by omega) (by omega) (fun hb8 => ?_) (fun hb8 => ?_)
        · skip
          have hk34 : tkK T n p1 = 34 := hK7.1 (by omega)
          obtain ⟨f2, hf2e⟩ : ∃ f2, f1 = f2 + 1 := ⟨f1 - 1, by omega⟩
          have hfin : LwC H Hl 1 (lwR T n 402 0 (0, plF f)) := by
            rw [het, hf2e, lwR_e hk34]
            exact ⟨fun _ => ⟨rfl, hS1.2.2.2.2.2.2.2.2.1, hS1.2.2.2.2.2.2.2.2.2, ro1, rl1⟩, fun z => absurd rfl z, hfv⟩
          refine z_iconst (pc := 124) dX3_readLaw_124 ?_
          refine z_ireturn (pc := 125) dX3_readLaw_125 rfl (Or.inr ⟨rfl, by omega⟩) okl15 (by decide) (by decide) ?_
          exact hfin
        · skip
          have hkne : tkK T n p1 ≠ 34 := fun z => hb8 (hK7.2 z)
          obtain ⟨f2, hf2e⟩ : ∃ f2, f1 = f2 + 1 := ⟨f1 - 1, by omega⟩
          have tb1 := tk_bd T hpn
          have tl1 := tb1.2.2.2.2 hkne
          have i17 := isw_k (k := 17) hS1 (by omega)
          rw [show cwd 17 = 27 by decide] at i17
          have jn54 : (¬ (tkK T n p1 = 17 ∧ q1 40 = 12)) → Ev zX mX3_readLaw (EvC zX (d + 21)) (zPi (fun (r : Int) (H1 : ZH) => LwC H H1 r (lwR T n 402 0 (0, plF f)))) 54 [(0, .ref 28), (1, .ref 21), (2, .int (zN ((n : Int)))), (3, .int (zN ((i : Int))))] [] (eh Hl) := by
            intro h54
            refine x_aload_n (pc := 54) dX3_readLaw_54 (List.Mem.head _) ?_
            refine z_bipush (pc := 55) dX3_readLaw_55 bp_27 ?_
            refine z_callVi (pc := 57) (i := mX3_takeWord) (S := []) [.int (zN (27))] dX3_readLaw_57 ml_X3_63 ok_X3_takeWord rfl sh_28 rfl (Or.inr rfl) (Nat.le_of_ble_eq_true rfl) (c_X3_takeWord (d := d + 18) (k := 17) (W := 27) (hn := hn) (hk := (by omega)) (hW := (by decide)) (W1 := (by omega)) (W2 := (by omega)) (ok := okl15) (hS := hS1)) ?_
            intro r9 H3 r9a r9b ok10 hp11
            obtain ⟨hc3, hk3⟩ := hp11
            refine z_if_eq (pc := 60) (tgt := 73) dX3_readLaw_60 (by decide) (by omega) (by omega) (fun hb12 => ?_) (fun hb12 => ?_)
            · skip
              have hz := ClO_f hc3 hb12
              have hk17 : tkK T n p1 ≠ 17 := fun z => hz.1 (pn_t (T := T) (n := n) (p := p1) (a := 17) (w := 0) ⟨rfl, z⟩).1
              have hpf := pn_f (T := T) (n := n) (p := p1) (a := 17) (w := 0) (fun z => hk17 z.2)
              rw [hpf.1, hpf.2] at hz
              have hfin : LwC H H3 0 (lwR T n 402 0 (0, plF f)) := by
                have el : (lwL T n p1 (c1, q1)).1 = _ := (congrArg Prod.fst (show (lwL T n p1 (c1, q1)) = ((pfW T n 2 0 p1, pfP T n 0 p1), (c1, q1)) from (if_pos hk17).trans (by rw [show pfP T n 0 p1 = tkA T n p1 from if_pos rfl])))
                rw [het, hf2e, lwR_b hkne (by rw [el]; exact hz.1)]
                exact LwC_f hz el (FrV_tr hfv (FrV_K hk3))
              refine z_iconst (pc := 73) dX3_readLaw_73 ?_
              refine z_ireturn (pc := 74) dX3_readLaw_74 rfl (Or.inr ⟨rfl, by omega⟩) ok10 (by decide) (by decide) ?_
              exact hfin
            · skip
              have hz3 := ClO_t hc3 hb12
              have hk17 : tkK T n p1 = 17 := (pnW_z hz3.1).2.1
              have hS3 : ClS H3 T n (tkE T n p1) := by rw [← (pnW_z hz3.1).2.2]; exact hz3.2
              have h12 : q1 40 ≠ 12 := fun z => h54 ⟨hk17, z⟩
              refine x_aload_n (pc := 63) dX3_readLaw_63 (List.Mem.head _) ?_
              refine z_iconst (pc := 64) dX3_readLaw_64 ?_
              refine z_bipush (pc := 65) dX3_readLaw_65 bp_100 ?_
              refine z_callVi (pc := 67) (i := mX3_takeNumber) (S := []) [.int (zN (0)), .int (zN (100))] dX3_readLaw_67 ml_X3_66 ok_X3_takeNumber rfl sh_28 rfl (Or.inr rfl) (Nat.le_of_ble_eq_true rfl) (c_X3_takeNumber (d := d + 18) (lo := 0) (hi := 100) (hn := hn) (lo1 := (by omega)) (lo2 := (by omega)) (hi1 := (by omega)) (hi2 := (by omega)) (ok := ok10) (hS := hS3)) ?_
              intro r13 H4 r13a r13b ok14 hp15
              obtain ⟨hc4, hv4, hk4⟩ := hp15
              have hf4 := FcK_tr hk3 hk4
              have hc4b : ClO H4 T n r13 (pt T n 0 100 (0, tkE T n p1)).1 (pt T n 0 100 (0, tkE T n p1)).2 := hc4
              have ok4_ := ok14
              refine z_if_ne (pc := 70) (tgt := 75) dX3_readLaw_70 (by decide) (by omega) (by omega) (fun hb16 => ?_) (fun hb16 => ?_)
              · skip
                have hz4 := ClO_t hc4b hb16
                have hv4z := hv4 hz4.1
                have hv9 := (pt_z (show ptW T n 0 100 0 (tkE T n p1) = 0 from hz4.1)).2.2.1
                refine x_aload_n (pc := 75) dX3_readLaw_75 (List.Mem.head _) ?_
                refine z_getI (pc := 76) (k := 10) (v := (tkN T n (tkE T n p1))) dX3_readLaw_76 lf_X3_70 sh_28 rfl hv4z ?_
                refine x_istore (pc := 79) dX3_readLaw_79 (Nat.le_of_ble_eq_true rfl) ?_
                show Ev _ _ _ _ _ [(4, .int (zN (((tkN T n (tkE T n p1)))))), (0, .ref 28), (1, .ref 21), (2, .int (zN ((n : Int)))), (3, .int (zN ((i : Int))))] _ _
                refine x_aload_n (pc := 81) dX3_readLaw_81 (List.Mem.tail _ (List.Mem.head _)) ?_
                refine z_bipush (pc := 82) dX3_readLaw_82 bp_28 ?_
                refine z_callVi (pc := 84) (i := mX3_takeWord) (S := []) [.int (zN (28))] dX3_readLaw_84 ml_X3_63 ok_X3_takeWord rfl sh_28 rfl (Or.inr rfl) (Nat.le_of_ble_eq_true rfl) (c_X3_takeWord (d := d + 18) (k := 18) (W := 28) (hn := hn) (hk := (by omega)) (hW := (by decide)) (W1 := (by omega)) (W2 := (by omega)) (ok := ok14) (hS := hz4.2)) ?_
                intro r17 H5 r17a r17b ok18 hp19
                obtain ⟨hc5, hk5⟩ := hp19
                have hf5 := FcK_tr hf4 hk5
                have hc5b : ClO H5 T n r17 (lwB T n p1).1 (lwB T n p1).2 := by have e : (lwB T n p1) = _ := pn_of hz4.1; rw [e]; exact hc5
                refine z_if_eq (pc := 87) (tgt := 107) dX3_readLaw_87 (by decide) (by omega) (by omega) (fun hb20 => ?_) (fun hb20 => ?_)
                · skip
                  have hz := ClO_f hc5b hb20
                  have hfin : LwC H H5 0 (lwR T n 402 0 (0, plF f)) := by
                    have el : (lwL T n p1 (c1, q1)).1 = _ := lwL_b (s := (c1, q1)) hk17 h12 hz.1
                    rw [het, hf2e, lwR_b hkne (by rw [el]; exact hz.1)]
                    exact LwC_f hz el (FrV_tr hfv (FrV_K hf5))
                  refine z_iconst (pc := 107) dX3_readLaw_107 ?_
                  refine z_ireturn (pc := 108) dX3_readLaw_108 rfl (Or.inr ⟨rfl, by omega⟩) ok18 (by decide) (by decide) ?_
                  exact hfin
                · skip
                  have hz5 := ClO_t hc5b hb20
                  have hpb : p1 ≤ (lwB T n p1).2 := by
                    have y1 := pn_pos (o := (pt T n 0 100 (0, tkE T n p1))) hz4.2.1 hz5.1
                    have y2 := pt_pos (o := (0, tkE T n p1)) tb1.2.2.1 hz4.1
                    have u1 : tkE T n p1 ≤ (pt T n 0 100 (0, tkE T n p1)).2 := y2.2.1
                    have u2 : (pt T n 0 100 (0, tkE T n p1)).2 ≤ (lwB T n p1).2 := y1.2.1
                    omega
                  refine x_aload_n (pc := 90) dX3_readLaw_90 (List.Mem.tail _ (List.Mem.head _)) ?_
                  refine z_iconst (pc := 91) dX3_readLaw_91 ?_
                  refine z_callVi (pc := 92) (i := mX3_readTest) (S := []) [.int (zN (0))] dX3_readLaw_92 ml_X3_73 ok_X3_readTest rfl sh_28 rfl (Or.inr rfl) (Nat.le_of_ble_eq_true rfl) (c_X3_readTest (d := d) (q := (lwQ T n p1 c1 q1)) (p := (lwB T n p1).2) (c := c1) (f := 1300) (hn := hn) (hcp := (by omega)) (hf := (by omega)) (ok := ok18) (hS := hz5.2) (ro := (RepOp_cg (q2 := lwQ T n p1 c1 q1) (fun j hj => by unfold lwQ; rw [upA_ne (by omega), upA_ne (by omega)]) (RepOp_K hf5 ro1)))) ?_
                  intro r21 H6 r21a r21b ok22 hp23
                  obtain ⟨hR1, hR2, hR3⟩ := hp23
                  have elt : (lwT T n p1 (c1, q1)) = pX T n 1300 3 0 (lwB T n p1).2 (c1, lwQ T n p1 c1 q1) := if_pos hz5.1
                  rw [← elt] at hR1 hR2
                  have hfv6 := FrV_tr (FrV_tr hfv (FrV_K hf5)) (FrV_Q hR3)
                  have rl6 := RepLn_Q hR3 (RepLn_K hf5 rl1)
                  refine z_if_eq (pc := 95) (tgt := 107) dX3_readLaw_95 (by decide) (by omega) (by omega) (fun hb24 => ?_) (fun hb24 => ?_)
                  · skip
                    have hz := ClO_f hR1 hb24
                    have hfin : LwC H H6 0 (lwR T n 402 0 (0, plF f)) := by
                      have el : (lwL T n p1 (c1, q1)).1 = _ := ((congrArg Prod.fst (lwL_1 (s := (c1, q1)) hk17 h12)).trans (pn_nz hz.1))
                      rw [het, hf2e, lwR_b hkne (by rw [el]; exact hz.1)]
                      exact LwC_f hz el hfv6
                    refine z_iconst (pc := 107) dX3_readLaw_107 ?_
                    refine z_ireturn (pc := 108) dX3_readLaw_108 rfl (Or.inr ⟨rfl, by omega⟩) ok22 (by decide) (by decide) ?_
                    exact hfin
                  · skip
                    have hz6 := ClO_t hR1 hb24
                    refine x_aload_n (pc := 98) dX3_readLaw_98 (List.Mem.tail _ (List.Mem.head _)) ?_
                    refine z_bipush (pc := 99) dX3_readLaw_99 bp_59 ?_
                    refine z_callVi (pc := 101) (i := mX3_takeSign) (S := []) [.int (zN (59))] dX3_readLaw_101 ml_X3_47 ok_X3_takeSign rfl sh_28 rfl (Or.inr rfl) (Nat.le_of_ble_eq_true rfl) (c_X3_takeSign (d := d + 18) (k := 31) (s := 59) (hn := hn) (hks := (by omega)) (ok := ok22) (hS := hz6.2)) ?_
                    intro r25 H7 r25a r25b ok26 hp27
                    obtain ⟨hc7, hk7⟩ := hp27
                    have ec7 : pn T n 31 (lwT T n p1 (c1, q1)).1 = _ := pn_of hz6.1
                    have hfv7 := FrV_tr hfv6 (FrV_K hk7)
                    have ro7 := RepOp_K hk7 (hR2 hz6.1)
                    have rl7 := RepLn_K hk7 rl6
                    refine z_if_ne (pc := 104) (tgt := 109) dX3_readLaw_104 (by decide) (by omega) (by omega) (fun hb28 => ?_) (fun hb28 => ?_)
                    · skip
                      have hz7 := ClO_t hc7 hb28
                      have el7 : (lwL T n p1 (c1, q1)).1 = _ := (congrArg Prod.fst (lwL_1 (s := (c1, q1)) hk17 h12)).trans ec7
                      have hl0 : (lwL T n p1 (c1, q1)).1.1 = 0 := by rw [el7]; exact hz7.1
                      have hlk := lwL_ok (s := (c1, q1)) li1 hn hpn hc1 hl0
                      have hlq := lwL_q (s := (c1, q1)) hk17 h12 h40 hz5.1 hz6.1
                      dsimp only at hlq
                      have het2 : (lwR T n 402 0 (0, plF f)) = lwR T n f2 (lwL T n p1 (c1, q1)).1.2 (lwL T n p1 (c1, q1)).2 := by rw [het, hf2e, lwR_g hkne hl0]
                      refine x_aload_n (pc := 109) dX3_readLaw_109 (List.Mem.tail _ (List.Mem.head _)) ?_
                      refine z_getR (pc := 110) (k := 1) (r := 55) dX3_readLaw_110 lf_X3_21 sh_28 rfl rf_28_1 ?_
                      refine x_iload (pc := 113) dX3_readLaw_113 (List.Mem.head _) ?_
                      refine z_callVv (pc := 115) (i := mX1_endLine) (S := []) [.int (zN (((tkN T n (tkE T n p1)))))] dX3_readLaw_115 ml_X3_76 ok_X1_endLine rfl sh_55 rfl rfl (Nat.le_of_ble_eq_true rfl) (c_X1_endLine (d := d + 20) (p := (((tkN T n (tkE T n p1))))) (hp := hv9) (ok := ok26) (hl := (by rw [rl7.1]; omega)) (hz := (by rw [ro7.1]; have := hlk.2.2.2.1.2.2; have := hlq.1; omega))) ?_
                      intro H8 ok30 hp31
                      have h8 := hp31
                      rw [show (H7.1 55 0).toNat = (q1 40).toNat by rw [rl7.1], ro7.1, rl7.1] at h8
                      have hb1 : ClS H8 T n (lwL T n p1 (c1, q1)).1.2 := by rw [el7, h8]; exact ClS_w (ClS_w (ClS_w hz7.2 (by omega)) (by omega)) (by omega)
                      have hb2 : RepOp H8 (lwL T n p1 (c1, q1)).2.1 (lwL T n p1 (c1, q1)).2.2 := by
                        rw [hlq.1]
                        refine RepOp_cg hlq.2.2.2.2.2 ⟨?_, fun i hi => ?_⟩
                        · rw [h8, wI1k (by omega), wI1c (by omega), wI1c (by omega)]; exact ro7.1
                        · rw [h8, wI1c (by omega), wI1c (by omega), wI1c (by omega)]; exact ro7.2 i hi
                      have r56 : ∀ l, H8.1 56 l = if l = (q1 40).toNat then tkN T n (tkE T n p1) else H7.1 56 l := fun l => by rw [h8, wI1c (by omega), wI1c (by omega), wIp]
                      have r57 : ∀ l, H8.1 57 l = if l = (q1 40).toNat then ((lwT T n p1 (c1, q1)).2.1 : Int) else H7.1 57 l := fun l => by rw [h8, wI1c (by omega), wIp, wI1c (by omega)]
                      have hb3 : RepLn H8 (lwL T n p1 (c1, q1)).2.2 := by
                        refine ⟨by rw [h8, wI1, hlq.2.1], fun l hl => ?_⟩
                        rw [hlq.2.1] at hl
                        rw [r56, r57]
                        by_cases e : l = (q1 40).toNat
                        · rw [if_pos e, if_pos e, e, hlq.2.2.1, hlq.2.2.2.1]; exact ⟨rfl, rfl⟩
                        · have ll : (l : Int) < q1 40 := by omega
                          rw [if_neg e, if_neg e, (hlq.2.2.2.2.1 l ll).1, (hlq.2.2.2.2.1 l ll).2]
                          exact rl7.2 l ll
                      have hb4 : FrV H H8 := by rw [h8]; exact FrV_w (FrV_w (FrV_w hfv7 (by omega)) (by omega)) (by omega)
                      have hb5 : (lwL T n p1 (c1, q1)).2.2 40 = ((i + 1 : Nat) : Int) := by rw [hlq.2.1]; omega
                      refine z_iinc (pc := 118) dX3_readLaw_118 (List.Mem.tail _ (List.Mem.tail _ (List.Mem.tail _ (List.Mem.tail _ (List.Mem.head _))))) (Nat.le_of_ble_eq_true rfl) ?_
                      show Ev _ _ _ _ _ [(3, .int (zN ((i : Int) + 1))), (4, .int (zN (((tkN T n (tkE T n p1)))))), (0, .ref 28), (1, .ref 21), (2, .int (zN ((n : Int))))] _ _
                      refine x_goto (pc := 121) (tgt := 15) dX3_readLaw_121 (by decide) ?_
                      refine x_weaken (L1 := [(0, .ref 28), (1, .ref 21), (2, .int (zN ((n : Int)))), (3, .int (zN ((((i + 1) : Nat) : Int))))]) (List.forall_mem_cons.mpr ⟨(List.Mem.tail _ (List.Mem.tail _ (List.Mem.head _))), (List.forall_mem_cons.mpr ⟨(List.Mem.tail _ (List.Mem.tail _ (List.Mem.tail _ (List.Mem.head _)))), (List.forall_mem_cons.mpr ⟨(List.Mem.tail _ (List.Mem.tail _ (List.Mem.tail _ (List.Mem.tail _ (List.Mem.head _))))), (List.forall_mem_cons.mpr ⟨(mem_ci (by omega) (List.Mem.head _)), (fun _ h => absurd h List.not_mem_nil)⟩)⟩)⟩)⟩) ?_
                      exact ih15 ((i + 1)) ((lwL T n p1 (c1, q1)).1.2) ((lwL T n p1 (c1, q1)).2.1) ((lwL T n p1 (c1, q1)).2.2) (f2) H8 ok30 (hb1) (hb2) (hb3) (hlk.2.2.2.1) (hb5) (hlk.2.2.2.2.2.2.2) (by have := hlk.2.2.2.2.2.1; omega) (by have := hlk.2.2.2.2.2.1; have := hlk.2.2.2.2.2.2.1; omega) (het2) (hb4) (by omega)
                    · skip
                      have hz := ClO_f hc7 (by omega)
                      have hfin : LwC H H7 0 (lwR T n 402 0 (0, plF f)) := by
                        have el : (lwL T n p1 (c1, q1)).1 = _ := ((congrArg Prod.fst (lwL_1 (s := (c1, q1)) hk17 h12)).trans ec7)
                        rw [het, hf2e, lwR_b hkne (by rw [el]; exact hz.1)]
                        exact LwC_f hz el hfv7
                      refine z_iconst (pc := 107) dX3_readLaw_107 ?_
                      refine z_ireturn (pc := 108) dX3_readLaw_108 rfl (Or.inr ⟨rfl, by omega⟩) ok26 (by decide) (by decide) ?_
                      exact hfin
              · skip
                have hz := ClO_f hc4b (by omega)
                have hfin : LwC H H4 0 (lwR T n 402 0 (0, plF f)) := by
                  have el : (lwL T n p1 (c1, q1)).1 = _ := lwL_a (s := (c1, q1)) hk17 h12 hz.1
                  rw [het, hf2e, lwR_b hkne (by rw [el]; exact hz.1)]
                  exact LwC_f hz el (FrV_tr hfv (FrV_K hf4))
                refine z_iconst (pc := 73) dX3_readLaw_73 ?_
                refine z_ireturn (pc := 74) dX3_readLaw_74 rfl (Or.inr ⟨rfl, by omega⟩) ok14 (by decide) (by decide) ?_
                exact hfin
          refine x_aload_n (pc := 27) dX3_readLaw_27 (List.Mem.head _) ?_
          refine z_bipush (pc := 28) dX3_readLaw_28 bp_27 ?_
          refine z_callVbp (pc := 30) (i := mX3_isWord) (S := []) [.int (zN (27))] dX3_readLaw_30 ml_X3_55 ok_X3_isWord rfl sh_28 rfl (Or.inr rfl) (Nat.le_of_ble_eq_true rfl) (c_X3_isWord (d := d + 20) (w := 27) (w1 := (by omega)) (w2 := (by omega)) (ok := okl15)) (fun hc34 ok33 => ?_) (fun hc34 ok33 => ?_)
          · skip
            have hk17 := i17.1 hc34
            refine z_if_eq (pc := 33) (tgt := 54) dX3_readLaw_33 (by decide) (by decide) (by decide) (fun h => absurd h (by decide)) (fun _ => ?_)
            refine x_aload_n (pc := 36) dX3_readLaw_36 (List.Mem.head _) ?_
            refine z_getR (pc := 37) (k := 1) (r := 55) dX3_readLaw_37 lf_X3_21 sh_28 rfl rf_28_1 ?_
            refine z_getI (pc := 40) (k := 0) (v := (q1 40)) dX3_readLaw_40 lf_X3_59 sh_55 rfl rl1.1 ?_
            refine z_bipush (pc := 43) dX3_readLaw_43 bp_12 ?_
            refine z_icmp_lt (pc := 45) (tgt := 54) dX3_readLaw_45 (by decide) (by omega) (by omega) (by decide) (by decide) (fun hb36 => ?_) (fun hb36 => ?_)
            · skip
              refine x_weaken (L1 := [(0, .ref 28), (1, .ref 21), (2, .int (zN ((n : Int)))), (3, .int (zN ((i : Int))))]) (List.forall_mem_cons.mpr ⟨(List.Mem.head _), (List.forall_mem_cons.mpr ⟨(List.Mem.tail _ (List.Mem.head _)), (List.forall_mem_cons.mpr ⟨(List.Mem.tail _ (List.Mem.tail _ (List.Mem.head _))), (List.forall_mem_cons.mpr ⟨(List.Mem.tail _ (List.Mem.tail _ (List.Mem.tail _ (List.Mem.head _)))), (fun _ h => absurd h List.not_mem_nil)⟩)⟩)⟩)⟩) ?_
              exact jn54  (by omega)
            · skip
              refine x_aload_n (pc := 48) dX3_readLaw_48 (List.Mem.head _) ?_
              refine z_iconst (pc := 49) dX3_readLaw_49 ?_
              refine z_callVi (pc := 50) (i := mX3_wrong) (S := []) [.int (zN (4))] dX3_readLaw_50 ml_X3_60 ok_X3_wrong rfl sh_28 rfl (Or.inr rfl) (Nat.le_of_ble_eq_true rfl) (c_X3_wrong (d := d + 20) (k := 4) (k1 := (by omega)) (k2 := (by omega)) (ok := ok33)) ?_
              intro r37 H2 r37a r37b ok38 hp39
              have hw := wr_ClO (by omega) hS1 (by omega) hp39
              have e1 : pfW T n 4 0 p1 = 4 := (if_pos rfl).trans (if_neg (by omega))
              have e2 : pfP T n 0 p1 = tkA T n p1 := if_pos rfl
              rw [e1, e2] at hw
              have hz : (4 : Int) ≠ 0 ∧ H2.1 28 2 = 4 ∧ H2.1 28 3 = (tkA T n p1 : Int) := ⟨by decide, (hw.1.2 (by decide)).2⟩
              have hfin : LwC H H2 0 (lwR T n 402 0 (0, plF f)) := by
                have el : (lwL T n p1 (c1, q1)).1 = _ := (congrArg Prod.fst (show (lwL T n p1 (c1, q1)) = ((4, tkA T n p1), (c1, q1)) from (if_neg (fun z => z hk17)).trans (if_pos (show q1 40 = 12 by omega))))
                rw [het, hf2e, lwR_b hkne (by rw [el]; exact hz.1)]
                exact LwC_f hz el (FrV_tr hfv (FrV_K hw.2))
              have r0 := hp39.1
              refine z_ireturn (pc := 53) dX3_readLaw_53 rfl (Or.inr ⟨rfl, by omega⟩) ok38 (by omega) (by omega) ?_
              have e0 := r0
              rw [e0]
              exact hfin
          · skip
            have hk17 : tkK T n p1 ≠ 17 := fun z => hc34 (i17.2 z)
            refine z_if_eq (pc := 33) (tgt := 54) dX3_readLaw_33 (by decide) (by decide) (by decide) (fun _ => ?_) (fun h => absurd h (by decide))
            refine x_weaken (L1 := [(0, .ref 28), (1, .ref 21), (2, .int (zN ((n : Int)))), (3, .int (zN ((i : Int))))]) (List.forall_mem_cons.mpr ⟨(List.Mem.head _), (List.forall_mem_cons.mpr ⟨(List.Mem.tail _ (List.Mem.head _)), (List.forall_mem_cons.mpr ⟨(List.Mem.tail _ (List.Mem.tail _ (List.Mem.head _))), (List.forall_mem_cons.mpr ⟨(List.Mem.tail _ (List.Mem.tail _ (List.Mem.tail _ (List.Mem.head _)))), (fun _ h => absurd h List.not_mem_nil)⟩)⟩)⟩)⟩) ?_
            exact jn54  (by omega)
  refine x_weaken (L1 := [(0, .ref 28), (1, .ref 21), (2, .int (zN ((n : Int)))), (3, .int (zN (((0 : Nat) : Int))))]) (List.forall_mem_cons.mpr ⟨(List.Mem.tail _ (List.Mem.head _)), (List.forall_mem_cons.mpr ⟨(List.Mem.tail _ (List.Mem.tail _ (List.Mem.head _))), (List.forall_mem_cons.mpr ⟨(List.Mem.tail _ (List.Mem.tail _ (List.Mem.tail _ (List.Mem.head _)))), (List.forall_mem_cons.mpr ⟨(mem_ci (by omega) (List.Mem.head _)), (fun _ h => absurd h List.not_mem_nil)⟩)⟩)⟩)⟩) ?_
  exact lp15 (402 + 1) (0) (0) (0) ((plF f)) (402) W okW (cSW) (roW) (rlW) (plF_LwI f) (rfl) (Nat.le_refl _) (Nat.le_refl _) (by omega) (rfl) (fvW) (Nat.lt_succ_self _)
