/-! GROUP H14: the lines of both texts, and what they make. -/
def lnL (T : Nat → Int) (n p : Nat) (q : Nat → Int) : (Int × Nat) × (Nat → Int) := (pn T n 31 (lnM T n p q).1, upA (lnM T n p q).2 39 (q 39 + 1))
def scR (T : Nat → Int) (n : Nat) : Nat → Nat → (Nat → Int) → (Int × Nat) × (Nat → Int)
  | 0, p, q => ((0, p), q)
  | f + 1, p, q => if tkK T n p = 34 then ((0, p), q) else if (lnL T n p q).1.1 ≠ 0 then lnL T n p q else scR T n f (lnL T n p q).1.2 (lnL T n p q).2
theorem scR_e {T : Nat → Int} {n f p : Nat} {q : Nat → Int} (h : tkK T n p = 34) : scR T n (f + 1) p q = ((0, p), q) := if_pos h
theorem scR_b {T : Nat → Int} {n f p : Nat} {q : Nat → Int} (h : tkK T n p ≠ 34) (hb : (lnL T n p q).1.1 ≠ 0) : scR T n (f + 1) p q = lnL T n p q := (if_neg h).trans (if_pos hb)
theorem scR_g {T : Nat → Int} {n f p : Nat} {q : Nat → Int} (h : tkK T n p ≠ 34) (hb : (lnL T n p q).1.1 = 0) : scR T n (f + 1) p q = scR T n f (lnL T n p q).1.2 (lnL T n p q).2 := (if_neg h).trans (if_neg (fun z => z hb))
theorem lnd_ge {f : Nat → Int} {j : Nat} : ∀ k, j < k → f j + 1 ≤ lnd f k := by
  intro k
  induction k with
  | zero => intro h; exact absurd h (Nat.not_lt_zero _)
  | succ k ih =>
    intro h
    show f j + 1 ≤ (if lnd f k < f k + 1 then f k + 1 else lnd f k)
    by_cases z : j = k
    · rw [z]; split <;> omega
    · have y := ih (by omega)
      split <;> omega
theorem WFS_i {q : Nat → Int} {i : Nat} {v : Int} (ws : WFS q) (hi : i = 34 ∨ i = 35 ∨ i = 36 ∨ i = 37 ∨ i = 38 ∨ i = 39) (hv : 0 ≤ v ∧ (i = 34 → v ≤ 255) ∧ (i = 35 → v ≤ 30) ∧ (i = 36 → v ≤ 20) ∧ (i = 37 → v ≤ 60) ∧ (i = 38 → 1 ≤ v ∧ v ≤ 200) ∧ (i = 39 → v ≤ 400)) : WFS (upA q i v) := by
  obtain ⟨w0, w1, wc, w34, w35, w36, w37, w38, w39⟩ := ws
  have e : ∀ j, j ≠ i → upA q i v j = q j := fun j h => upA_ne h
  have hc' : ∀ c : Nat, (c : Int) < upA q i v 1 → (0 ≤ upA q i v (2 + c) ∧ upA q i v (2 + c) < upA q i v 0) ∧ (1 ≤ upA q i v (10 + c) ∧ upA q i v (10 + c) ≤ 200) ∧ (1 ≤ upA q i v (18 + c) ∧ upA q i v (18 + c) ≤ 9) ∧ (0 ≤ upA q i v (26 + c) ∧ upA q i v (26 + c) ≤ 3) := fun c hc => by
    rw [e 1 (by omega)] at hc
    rw [e 0 (by omega), e (2 + c) (by omega), e (10 + c) (by omega), e (18 + c) (by omega), e (26 + c) (by omega)]
    exact wc c hc
  have a0 : upA q i v 0 = q 0 := e 0 (by omega)
  have a1 : upA q i v 1 = q 1 := e 1 (by omega)
  have g : ∀ j, upA q i v j = if j = i then v else q j := fun j => rfl
  have g34 := g 34
  have g35 := g 35
  have g36 := g 36
  have g37 := g 37
  have g38 := g 38
  have g39 := g 39
  refine ⟨by omega, by omega, hc', ?_, ?_, ?_, ?_, ?_, ?_⟩ <;> rcases hi with z | z | z | z | z | z <;> subst z <;> simp at g34 g35 g36 g37 g38 g39 <;> omega
theorem WFS_0 {q : Nat → Int} {v : Int} (ws : WFS q) (hv : lnd (fun j => q (2 + j)) (q 1).toNat ≤ v ∧ v ≤ 4) : WFS (upA q 0 v) := by
  obtain ⟨w0, w1, wc, w34, w35, w36, w37, w38, w39⟩ := ws
  have e : ∀ j, j ≠ 0 → upA q 0 v j = q j := fun j h => upA_ne h
  have lb := lnd_bd (f := fun j => q (2 + j)) (q 1).toNat (fun j hj => by have y := wc j (by omega); show q (2 + j) ≤ 3; omega)
  refine ⟨by rw [upA_at]; omega, by rw [e 1 (by omega)]; exact w1, fun c hc => ?_, by rw [e 34 (by omega)]; exact w34, by rw [e 35 (by omega)]; exact w35, by rw [e 36 (by omega)]; exact w36, by rw [e 37 (by omega)]; exact w37, by rw [e 38 (by omega)]; exact w38, by rw [e 39 (by omega)]; exact w39⟩
  rw [e 1 (by omega)] at hc
  rw [upA_at, e (2 + c) (by omega), e (10 + c) (by omega), e (18 + c) (by omega), e (26 + c) (by omega)]
  have y := wc c hc
  have z : q (2 + c) + 1 ≤ lnd (fun j => q (2 + j)) (q 1).toNat := lnd_ge (f := fun j => q (2 + j)) (j := c) (q 1).toNat (by omega)
  exact ⟨⟨y.1.1, by omega⟩, y.2⟩
theorem WFS_c {q : Nat → Int} {m : Nat} {v1 v2 v3 v4 : Int} (ws : WFS q) (hm : q 1 = (m : Int)) (h7 : m ≤ 7) (h1 : 0 ≤ v1 ∧ v1 ≤ q 0 - 1) (h2 : 1 ≤ v2 ∧ v2 ≤ 200) (h3 : 1 ≤ v3 ∧ v3 ≤ 9) (h4 : 0 ≤ v4 ∧ v4 ≤ 3) : WFS (crU q m v1 v2 v3 v4) := by
  obtain ⟨w0, w1, wc, w34, w35, w36, w37, w38, w39⟩ := ws
  have u1 : crU q m v1 v2 v3 v4 1 = q 1 + 1 := upA_at _ _ _
  have ux : ∀ j, (j = 0 ∨ 34 ≤ j) → crU q m v1 v2 v3 v4 j = q j := fun j hj => by
    unfold crU
    rw [upA_ne (by omega), upA_ne (by omega), upA_ne (by omega), upA_ne (by omega), upA_ne (by omega)]
  refine ⟨by rw [ux 0 (by omega)]; exact w0, by rw [u1]; omega, fun c hc => ?_, by rw [ux 34 (by omega)]; exact w34, by rw [ux 35 (by omega)]; exact w35, by rw [ux 36 (by omega)]; exact w36, by rw [ux 37 (by omega)]; exact w37, by rw [ux 38 (by omega)]; exact w38, by rw [ux 39 (by omega)]; exact w39⟩
  rw [u1] at hc
  rw [ux 0 (by omega)]
  by_cases z : c = m
  · have a1 : crU q m v1 v2 v3 v4 (2 + m) = v1 := by unfold crU; rw [upA_ne (by omega), upA_ne (by omega), upA_ne (by omega), upA_ne (by omega), upA_at]
    have a2 : crU q m v1 v2 v3 v4 (10 + m) = v2 := by unfold crU; rw [upA_ne (by omega), upA_ne (by omega), upA_ne (by omega), upA_at]
    have a3 : crU q m v1 v2 v3 v4 (18 + m) = v3 := by unfold crU; rw [upA_ne (by omega), upA_ne (by omega), upA_at]
    have a4 : crU q m v1 v2 v3 v4 (26 + m) = v4 := by unfold crU; rw [upA_ne (by omega), upA_at]
    rw [z, a1, a2, a3, a4]
    omega
  · have hcm := wc c (by omega)
    have uc : ∀ j, (j = 2 + c ∨ j = 10 + c ∨ j = 18 + c ∨ j = 26 + c) → crU q m v1 v2 v3 v4 j = q j := fun j hj => by
      unfold crU
      rw [upA_ne (by omega), upA_ne (by omega), upA_ne (by omega), upA_ne (by omega), upA_ne (by omega)]
    rw [uc (2 + c) (by omega), uc (10 + c) (by omega), uc (18 + c) (by omega), uc (26 + c) (by omega)]
    exact hcm
theorem pn_pos {T : Nat → Int} {n : Nat} {a : Int} {o : Int × Nat} (hp : o.2 ≤ n) (h : (pn T n a o).1 = 0) : o.1 = 0 ∧ o.2 ≤ (pn T n a o).2 ∧ (pn T n a o).2 ≤ n := by
  have z := pnW_z (show pnW T n a o.1 o.2 = 0 from h)
  have tb := tk_bd T hp
  have e : (pn T n a o).2 = tkE T n o.2 := z.2.2
  exact ⟨z.1, by omega, by omega⟩
theorem pt_pos {T : Nat → Int} {n : Nat} {lo hi : Int} {o : Int × Nat} (hp : o.2 ≤ n) (h : (pt T n lo hi o).1 = 0) : o.1 = 0 ∧ o.2 ≤ (pt T n lo hi o).2 ∧ (pt T n lo hi o).2 ≤ n ∧ (lo ≤ tkN T n o.2 ∧ tkN T n o.2 ≤ hi) := by
  have z := pt_z (show ptW T n lo hi o.1 o.2 = 0 from h)
  have tb := tk_bd T hp
  have e : (pt T n lo hi o).2 = tkE T n o.2 := z.2.2.2.2
  exact ⟨z.1, by omega, by omega, z.2.2.1⟩
theorem cr_pos {T : Nat → Int} {n p : Nat} {L : Int} (hp : tkE T n p ≤ n) (h : (crG T n L p).1 = 0) : tkE T n p ≤ (crG T n L p).2 ∧ (crG T n L p).2 ≤ n ∧ (0 ≤ tkN T n (tkE T n p) ∧ tkN T n (tkE T n p) ≤ L) ∧ (1 ≤ tkN T n (crB T n L p).2 ∧ tkN T n (crB T n L p).2 ≤ 200) ∧ (1 ≤ tkN T n (crD T n L p).2 ∧ tkN T n (crD T n L p).2 ≤ 9) ∧ (0 ≤ tkN T n (crF T n L p).2 ∧ tkN T n (crF T n L p).2 ≤ 3) := by
  obtain ⟨z6, z5, z4, z3, z2, z1⟩ := crG_z h
  have a := pt_pos (o := (0, tkE T n p)) hp z1
  have b := pn_pos (o := crA T n L p) a.2.2.1 z2
  have c := pt_pos (o := crB T n L p) b.2.2 z3
  have d := pn_pos (o := crC T n L p) c.2.2.1 z4
  have e := pt_pos (o := crD T n L p) d.2.2 z5
  have f := pn_pos (o := crE T n L p) e.2.2.1 z6
  have g := pt_pos (o := crF T n L p) f.2.2 h
  exact ⟨Nat.le_trans a.2.1 (Nat.le_trans b.2.1 (Nat.le_trans c.2.1 (Nat.le_trans d.2.1 (Nat.le_trans e.2.1 (Nat.le_trans f.2.1 g.2.1))))), g.2.2.1, a.2.2.2, c.2.2.2, e.2.2.2, g.2.2.2⟩
theorem lnM_ok {T : Nat → Int} {n p : Nat} {q : Nat → Int} (ws : WFS q) (hp : p ≤ n) (h : (lnM T n p q).1.1 = 0) : WFS (lnM T n p q).2 ∧ (lnM T n p q).2 39 = q 39 ∧ p + 1 ≤ (lnM T n p q).1.2 ∧ (lnM T n p q).1.2 ≤ n := by
  have tb := tk_bd T hp
  have ws0 := ws
  obtain ⟨w0, w1, wc, w34, w35, w36, w37, w38, w39⟩ := ws
  have step : ∀ (lo hi v : Int) (i : Nat), lnM T n p q = (pt T n lo hi (0, tkE T n p), upA q i (tkN T n (tkE T n p))) → (lo ≤ tkN T n (tkE T n p) ∧ tkN T n (tkE T n p) ≤ hi → WFS (upA q i (tkN T n (tkE T n p)))) → i ≠ 39 → tkK T n p ≠ 34 → WFS (lnM T n p q).2 ∧ (lnM T n p q).2 39 = q 39 ∧ p + 1 ≤ (lnM T n p q).1.2 ∧ (lnM T n p q).1.2 ≤ n := by
    intro lo hi v i e hw hi9 hk
    rw [e] at h ⊢
    have z := pt_pos (o := (0, tkE T n p)) tb.2.2.1 h
    have y := tb.2.2.2.2 hk
    have u1 : tkE T n p ≤ (pt T n lo hi (0, tkE T n p)).2 := z.2.1
    have u2 : (pt T n lo hi (0, tkE T n p)).2 ≤ n := z.2.2.1
    exact ⟨hw z.2.2.2, upA_ne (by omega), by show p + 1 ≤ (pt T n lo hi (0, tkE T n p)).2; omega, u2⟩
  by_cases k0 : tkK T n p = 0
  · exact step _ _ 0 0 (if_pos k0) (fun z => WFS_0 ws0 z) (by omega) (by omega)
  · by_cases k1 : tkK T n p = 1
    · by_cases z8 : q 1 = 8
      · have e : lnM T n p q = ((4, tkA T n p), q) := (if_neg k0).trans ((if_pos k1).trans (if_pos z8))
        rw [e] at h
        exact absurd h (show (4 : Int) ≠ 0 by decide)
      · have e : lnM T n p q = (crG T n (q 0 - 1) p, crQ T n q p) := (if_neg k0).trans ((if_pos k1).trans (if_neg z8))
        rw [e] at h ⊢
        have z := cr_pos tb.2.2.1 h
        have y := tb.2.2.2.2 (by omega)
        refine ⟨WFS_c ws0 (by omega) (by omega) z.2.2.1 z.2.2.2.1 z.2.2.2.2.1 z.2.2.2.2.2, ?_, ?_, z.2.1⟩
        · show crU q (q 1).toNat _ _ _ _ 39 = q 39
          unfold crU
          rw [upA_ne (by omega), upA_ne (by omega), upA_ne (by omega), upA_ne (by omega), upA_ne (by omega)]
        · have u := z.1
          show p + 1 ≤ (crG T n (q 0 - 1) p).2
          omega
    · by_cases k13 : tkK T n p = 13
      · exact step _ _ 0 35 ((if_neg k0).trans ((if_neg k1).trans (if_pos k13))) (fun z => WFS_i ws0 (by omega) (by omega)) (by omega) (by omega)
      · by_cases k14 : tkK T n p = 14
        · exact step _ _ 0 36 ((if_neg k0).trans ((if_neg k1).trans ((if_neg k13).trans (if_pos k14)))) (fun z => WFS_i ws0 (by omega) (by omega)) (by omega) (by omega)
        · by_cases k15 : tkK T n p = 15
          · exact step _ _ 0 37 ((if_neg k0).trans ((if_neg k1).trans ((if_neg k13).trans ((if_neg k14).trans (if_pos k15))))) (fun z => WFS_i ws0 (by omega) (by omega)) (by omega) (by omega)
          · by_cases k16 : tkK T n p = 16
            · exact step _ _ 0 38 ((if_neg k0).trans ((if_neg k1).trans ((if_neg k13).trans ((if_neg k14).trans ((if_neg k15).trans (if_pos k16)))))) (fun z => WFS_i ws0 (by omega) (by omega)) (by omega) (by omega)
            · by_cases kt : 5 ≤ tkK T n p ∧ tkK T n p ≤ 12
              · have e : lnM T n p q = ((0, tkE T n p), upA q 34 (((q 34).toNat ||| 2 ^ (tkK T n p - 5).toNat : Nat))) := (if_neg k0).trans ((if_neg k1).trans ((if_neg k13).trans ((if_neg k14).trans ((if_neg k15).trans ((if_neg k16).trans (if_pos kt))))))
                rw [e]
                have xb : (q 34).toNat ||| 2 ^ (tkK T n p - 5).toNat < 2 ^ 8 := Nat.or_lt_two_pow (by omega) (Nat.pow_lt_pow_right (by decide) (by omega))
                have y := tb.2.2.2.2 (by omega)
                exact ⟨WFS_i ws0 (by omega) (by omega), (show upA q 34 (((q 34).toNat ||| 2 ^ (tkK T n p - 5).toNat : Nat)) 39 = q 39 from upA_ne (by omega)), by show p + 1 ≤ tkE T n p; omega, tb.2.2.1⟩
              · have e : lnM T n p q = ((pfW T n 2 0 p, tkA T n p), q) := (if_neg k0).trans ((if_neg k1).trans ((if_neg k13).trans ((if_neg k14).trans ((if_neg k15).trans ((if_neg k16).trans (if_neg kt))))))
                rw [e] at h
                have e2 : pfW T n 2 0 p = if tkK T n p = 35 then 1 else 2 := if_pos rfl
                have h3 : pfW T n 2 0 p = 0 := h
                rw [e2] at h3
                revert h3
                split <;> omega
theorem lnL_ok {T : Nat → Int} {n p : Nat} {q : Nat → Int} (ws : WFS q) (hp : p ≤ n) (h39 : q 39 ≤ 399) (h : (lnL T n p q).1.1 = 0) : (lnM T n p q).1.1 = 0 ∧ WFS (lnL T n p q).2 ∧ (lnL T n p q).2 39 = q 39 + 1 ∧ p + 2 ≤ (lnL T n p q).1.2 ∧ (lnL T n p q).1.2 ≤ n := by
  have z := pnW_z (show pnW T n 31 (lnM T n p q).1.1 (lnM T n p q).1.2 = 0 from h)
  have y := lnM_ok ws hp z.1
  have tb := tk_bd T y.2.2.2
  have e : (lnL T n p q).1.2 = tkE T n (lnM T n p q).1.2 := z.2.2
  have w39 := ws.2.2.2.2.2.2.2.2
  have tl := tb.2.2.2.2 (by rw [z.2.1]; decide)
  exact ⟨z.1, WFS_i y.1 (by omega) (by omega), (show upA (lnM T n p q).2 39 (q 39 + 1) 39 = q 39 + 1 from upA_at _ _ _), by omega, by omega⟩
/-- one line of THE LAW -/
def lwQ (T : Nat → Int) (n p c : Nat) (q : Nat → Int) : Nat → Int := upA (upA q (41 + (q 40).toNat) (tkN T n (tkE T n p))) (53 + (q 40).toNat) (c : Int)
def lwB (T : Nat → Int) (n p : Nat) : Int × Nat := pn T n 18 (pt T n 0 100 (0, tkE T n p))
def lwT (T : Nat → Int) (n p : Nat) (s : Sx) : Ox := if (lwB T n p).1 = 0 then pX T n 1300 3 0 (lwB T n p).2 (s.1, lwQ T n p s.1 s.2) else (lwB T n p, (s.1, lwQ T n p s.1 s.2))
def lwL (T : Nat → Int) (n p : Nat) (s : Sx) : Ox :=
  if tkK T n p ≠ 17 then ((pfW T n 2 0 p, tkA T n p), s)
  else if s.2 40 = 12 then ((4, tkA T n p), s)
  else (pn T n 31 (lwT T n p s).1, ((lwT T n p s).2.1, upA (upA (lwT T n p s).2.2 (65 + (s.2 40).toNat) ((lwT T n p s).2.1 : Int)) 40 (s.2 40 + 1)))
def lwR (T : Nat → Int) (n : Nat) : Nat → Nat → Sx → Ox
  | 0, p, s => ((0, p), s)
  | f + 1, p, s => if tkK T n p = 34 then ((0, p), s) else if (lwL T n p s).1.1 ≠ 0 then lwL T n p s else lwR T n f (lwL T n p s).1.2 (lwL T n p s).2
theorem lwR_e {T : Nat → Int} {n f p : Nat} {s : Sx} (h : tkK T n p = 34) : lwR T n (f + 1) p s = ((0, p), s) := if_pos h
theorem lwR_b {T : Nat → Int} {n f p : Nat} {s : Sx} (h : tkK T n p ≠ 34) (hb : (lwL T n p s).1.1 ≠ 0) : lwR T n (f + 1) p s = lwL T n p s := (if_neg h).trans (if_pos hb)
theorem lwR_g {T : Nat → Int} {n f p : Nat} {s : Sx} (h : tkK T n p ≠ 34) (hb : (lwL T n p s).1.1 = 0) : lwR T n (f + 1) p s = lwR T n f (lwL T n p s).1.2 (lwL T n p s).2 := (if_neg h).trans (if_neg (fun z => z hb))
/-- the law so far, c steps long -/
def LwI (q : Nat → Int) (c : Nat) : Prop := WFL q ∧ (c : Int) = (if q 40 = 0 then 0 else q (65 + ((q 40).toNat - 1))) ∧ c ≤ 199
theorem WFL_mono {q : Nat → Int} {c : Nat} (h : LwI q c) : ∀ k l : Nat, l + k + 1 = (q 40).toNat → q (65 + l) ≤ (c : Int) := by
  intro k
  induction k with
  | zero =>
    intro l hl
    have z := h.2.1
    rw [if_neg (by omega), show (q 40).toNat - 1 = l by omega] at z
    omega
  | succ k ih =>
    intro l hl
    have y := ih (l + 1) (by omega)
    have z := h.1.2 (l + 1) (by omega)
    have z3 := z.2.2.1
    rw [if_neg (by omega), show l + 1 - 1 = l by omega] at z3
    have z2 := z.2.1
    omega
theorem lwT_z {T : Nat → Int} {n p : Nat} {s : Sx} (hp : p ≤ n) (hk : tkK T n p = 17) (h : (lwT T n p s).1.1 = 0) : lwT T n p s = pX T n 1300 3 0 (lwB T n p).2 (s.1, lwQ T n p s.1 s.2) ∧ (lwB T n p).1 = 0 ∧ (0 ≤ tkN T n (tkE T n p) ∧ tkN T n (tkE T n p) ≤ 100) ∧ p + 4 ≤ (lwB T n p).2 ∧ (lwB T n p).2 ≤ n := by
  by_cases z : (lwB T n p).1 = 0
  · have e : lwT T n p s = pX T n 1300 3 0 (lwB T n p).2 (s.1, lwQ T n p s.1 s.2) := if_pos z
    have tb := tk_bd T hp
    have tw := tk_w T hp (by omega)
    have b := pnW_z (show pnW T n 18 (pt T n 0 100 (0, tkE T n p)).1 (pt T n 0 100 (0, tkE T n p)).2 = 0 from z)
    have a := pt_pos (o := (0, tkE T n p)) tb.2.2.1 b.1
    have tb2 := tk_bd T a.2.2.1
    have tw2 := tk_w T a.2.2.1 (by rw [b.2.1]; decide)
    have e2 : (lwB T n p).2 = tkE T n (pt T n 0 100 (0, tkE T n p)).2 := b.2.2
    have u : tkE T n p ≤ (pt T n 0 100 (0, tkE T n p)).2 := a.2.1
    exact ⟨e, z, a.2.2.2, by omega, by omega⟩
  · have e : lwT T n p s = (lwB T n p, (s.1, lwQ T n p s.1 s.2)) := if_neg z
    rw [e] at h
    exact absurd h z
theorem lwL_ok {T : Nat → Int} {n p : Nat} {s : Sx} (hi : LwI s.2 s.1) (hn : n ≤ 400) (hp : p ≤ n) (hc : 2 * s.1 ≤ p) (h : (lwL T n p s).1.1 = 0) : tkK T n p = 17 ∧ s.2 40 ≠ 12 ∧ (lwT T n p s).1.1 = 0 ∧ LwI (lwL T n p s).2.2 (lwL T n p s).2.1 ∧ (lwL T n p s).2.2 40 = s.2 40 + 1 ∧ p + 2 ≤ (lwL T n p s).1.2 ∧ (lwL T n p s).1.2 ≤ n ∧ 2 * (lwL T n p s).2.1 ≤ (lwL T n p s).1.2 := by
  by_cases k : tkK T n p = 17
  · by_cases k2 : s.2 40 = 12
    · have e : lwL T n p s = ((4, tkA T n p), s) := (if_neg (fun z => z k)).trans (if_pos k2)
      rw [e] at h
      exact absurd h (show (4 : Int) ≠ 0 by decide)
    · have e : lwL T n p s = (pn T n 31 (lwT T n p s).1, ((lwT T n p s).2.1, upA (upA (lwT T n p s).2.2 (65 + (s.2 40).toNat) ((lwT T n p s).2.1 : Int)) 40 (s.2 40 + 1))) := (if_neg (fun z => z k)).trans (if_neg k2)
      rw [e] at h ⊢
      have z := pnW_z (show pnW T n 31 (lwT T n p s).1.1 (lwT T n p s).1.2 = 0 from h)
      obtain ⟨t1, t2, t3, t4, t5⟩ := lwT_z hp k z.1
      have hx : (pX T n 1300 3 0 (lwB T n p).2 (s.1, lwQ T n p s.1 s.2)).1.1 = 0 := by rw [← t1]; exact z.1
      have pl := pX_l t5 (by omega) hx
      have pb := pX_b hx
      rw [← t1] at pl pb
      generalize lwT T n p s = o at z pl pb ⊢
      have pl3 : 2 * o.2.1 + (lwB T n p).2 ≤ o.1.2 + 2 * s.1 := pl.2.2.1
      have pl1 := pl.1
      have pl2 := pl.2.1
      have pl4 : s.1 ≤ o.2.1 := pl.2.2.2
      obtain ⟨⟨_, x2⟩, bk⟩ := pb
      have x2 : ∀ k, k < 77 + 2 * s.1 → o.2.2 k = lwQ T n p s.1 s.2 k := x2
      have bk : Blk o.2.2 s.1 o.2.1 19 := bk
      have tb := tk_bd T pl2
      have tl := tb.2.2.2.2 (by rw [z.2.1]; decide)
      have e2 : (pn T n 31 o.1).2 = tkE T n o.1.2 := z.2.2
      obtain ⟨⟨h40a, h40b⟩, hl⟩ := hi.1
      have hc9 := hi.2.2
      -- the new law
      generalize hQ : upA (upA o.2.2 (65 + (s.2 40).toNat) (o.2.1 : Int)) 40 (s.2 40 + 1) = Q
      have m0 : s.2 40 = ((s.2 40).toNat : Int) := by omega
      have Qo : ∀ j, j ≠ 40 → j ≠ 65 + (s.2 40).toNat → Q j = o.2.2 j := fun j h1 h2 => by rw [← hQ, upA_ne h1, upA_ne h2]
      have Q40 : Q 40 = s.2 40 + 1 := by rw [← hQ, upA_at]
      have Qt : Q (65 + (s.2 40).toNat) = (o.2.1 : Int) := by rw [← hQ, upA_ne (by omega), upA_at]
      have Ql : ∀ j, j < 77 + 2 * s.1 → j ≠ 40 → j ≠ 41 + (s.2 40).toNat → j ≠ 53 + (s.2 40).toNat → j ≠ 65 + (s.2 40).toNat → Q j = s.2 j := fun j h1 h2 h3 h4 h5 => by
        rw [Qo j h2 h5, x2 j h1]
        unfold lwQ
        rw [upA_ne h4, upA_ne h3]
      have Qf : Q (53 + (s.2 40).toNat) = (s.1 : Int) := by
        rw [Qo _ (by omega) (by omega), x2 _ (by omega)]
        unfold lwQ
        rw [upA_at]
      have Qp : Q (41 + (s.2 40).toNat) = tkN T n (tkE T n p) := by
        rw [Qo _ (by omega) (by omega), x2 _ (by omega)]
        unfold lwQ
        rw [upA_ne (by omega), upA_at]
      have bQ : Blk Q s.1 o.2.1 19 := Blk_cg (fun k h1 _ => Qo k (by omega) (by omega)) bk
      have hmono := WFL_mono hi
      have hLw : LwI Q o.2.1 := by
        refine ⟨⟨⟨by omega, by omega⟩, fun l hl1 => ?_⟩, ?_, ?_⟩
        · rw [Q40] at hl1
          by_cases el : l = (s.2 40).toNat
          · rw [el, Qp, Qf, Qt]
            have et : ((s.1 : Int)).toNat = s.1 := by omega
            have ed : ((o.2.1 : Int) - (s.1 : Int)).toNat = o.2.1 - s.1 := by omega
            rw [et, ed]
            refine ⟨t3, ⟨by omega, by omega, by omega⟩, ?_, bQ.2.1, fun x hx => ?_⟩
            · have y := hi.2.1
              by_cases e0 : s.2 40 = 0
              · rw [if_pos e0] at y
                rw [if_pos (by omega)]; exact y
              · rw [if_neg e0] at y
                rw [if_neg (by omega), Ql _ (by omega) (by omega) (by omega) (by omega) (by omega)]
                exact y
            · have y := bQ.2.2 x (by omega)
              exact ⟨by have := y.1.2; omega, y.2⟩
          · have ll : (l : Int) < s.2 40 := by omega
            have y := hl l ll
            have mo := hmono ((s.2 40).toNat - 1 - l) l (by omega)
            have e53 : Q (53 + l) = s.2 (53 + l) := Ql _ (by omega) (by omega) (by omega) (by omega) (by omega)
            have e65 : Q (65 + l) = s.2 (65 + l) := Ql _ (by omega) (by omega) (by omega) (by omega) (by omega)
            have e41 : Q (41 + l) = s.2 (41 + l) := Ql _ (by omega) (by omega) (by omega) (by omega) (by omega)
            rw [e53, e65, e41]
            obtain ⟨y1, y2, y3, y4, y5⟩ := y
            have hr : ∀ x : Nat, (x : Int) ≤ s.2 (65 + l) - s.2 (53 + l) → rdep Q (s.2 (53 + l)).toNat x = rdep s.2 (s.2 (53 + l)).toNat x := fun x hx => rdep_cg2 x (fun j h1 h2 => Ql j (by omega) (by omega) (by omega) (by omega) (by omega))
            refine ⟨y1, y2, ?_, by rw [hr _ (by omega)]; exact y4, fun x hx => ?_⟩
            · by_cases e0 : l = 0
              · rw [if_pos e0] at y3 ⊢; exact y3
              · rw [if_neg e0] at y3 ⊢
                rw [Ql _ (by omega) (by omega) (by omega) (by omega) (by omega)]; exact y3
            · rw [hr x (by omega), Ql (77 + 2 * ((s.2 (53 + l)).toNat + x)) (by omega) (by omega) (by omega) (by omega) (by omega), Ql (78 + 2 * ((s.2 (53 + l)).toNat + x)) (by omega) (by omega) (by omega) (by omega) (by omega)]
              exact y5 x hx
        · show (o.2.1 : Int) = _
          rw [Q40, if_neg (by omega), show (s.2 40 + 1).toNat - 1 = (s.2 40).toNat by omega, Qt]
        · show o.2.1 ≤ 199
          omega
      refine ⟨k, k2, z.1, hLw, Q40, ?_, ?_, ?_⟩
      · show p + 2 ≤ (pn T n 31 o.1).2
        omega
      · show (pn T n 31 o.1).2 ≤ n
        omega
      · show 2 * o.2.1 ≤ (pn T n 31 o.1).2
        omega
  · have e : lwL T n p s = ((pfW T n 2 0 p, tkA T n p), s) := if_pos k
    rw [e] at h
    have e2 : pfW T n 2 0 p = if tkK T n p = 35 then 1 else 2 := if_pos rfl
    have h3 : pfW T n 2 0 p = 0 := h
    rw [e2] at h3
    revert h3
    split <;> omega
