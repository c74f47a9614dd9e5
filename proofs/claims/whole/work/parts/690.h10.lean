/-! GROUP H10: a TEST of THE LAW, as it is read. -/
abbrev Sx := Nat × (Nat → Int)
abbrev Ox := (Int × Nat) × (Nat × (Nat → Int))
/-- one step more -/
def em (k v : Int) (s : Sx) : Sx := (s.1 + 1, upA (upA s.2 (77 + 2 * s.1) k) (78 + 2 * s.1) v)
/-- a plain FACT -/
def fcS (T : Nat → Int) (n p : Nat) (s : Sx) : Ox :=
  if tkK T n p = 4 ∨ (22 ≤ tkK T n p ∧ tkK T n p ≤ 24) then (pt T n 0 999 (0, tkE T n p), em (tkK T n p) (tkN T n (tkE T n p)) s)
  else if (5 ≤ tkK T n p ∧ tkK T n p ≤ 12) ∨ (25 ≤ tkK T n p ∧ tkK T n p ≤ 28) then ((0, tkE T n p), em (tkK T n p) 0 s)
  else ((pfW T n 2 0 p, tkA T n p), s)
/-- what comes behind a piece: one more of its sort behind the word op -/
def cnt (T : Nat → Int) (n : Nat) (op : Int) (b : Bool) (o : Ox) (go : Nat → Sx → Ox) : Ox := if o.1.1 ≠ 0 then o else if tkK T n o.1.2 = op then go (tkE T n o.1.2) (if b then em op 0 o.2 else o.2) else (o.1, if b then em op 0 o.2 else o.2)
/-- mode 0: a FACT, 1: a PART, 2: one behind and, 3: a TEST, 4: one behind or -/
def pX (T : Nat → Int) (n : Nat) : Nat → Nat → Nat → Nat → Sx → Ox
  | 0, _, _, p, s => ((2, p), s)
  | f + 1, m, dd, p, s =>
    if m = 0 then
      (if tkK T n p = 21 ∨ tkK T n p = 32 then
        (if dd = 8 then ((5, tkA T n p), s)
         else if tkK T n p = 21 then ((pX T n f 0 (dd + 1) (tkE T n p) s).1, em 21 0 (pX T n f 0 (dd + 1) (tkE T n p) s).2)
         else (pn T n 33 (pX T n f 3 (dd + 1) (tkE T n p) s).1, (pX T n f 3 (dd + 1) (tkE T n p) s).2))
       else fcS T n p s)
    else if m = 1 then cnt T n 20 false (pX T n f 0 dd p s) (pX T n f 2 dd)
    else if m = 2 then cnt T n 20 true (pX T n f 0 dd p s) (pX T n f 2 dd)
    else if m = 3 then cnt T n 19 false (pX T n f 1 dd p s) (pX T n f 4 dd)
    else cnt T n 19 true (pX T n f 1 dd p s) (pX T n f 4 dd)
theorem pX_0d {T : Nat → Int} {n f p : Nat} {s : Sx} (h : tkK T n p = 21 ∨ tkK T n p = 32) : pX T n (f + 1) 0 8 p s = ((5, tkA T n p), s) := (if_pos rfl).trans ((if_pos h).trans (if_pos rfl))
theorem pX_0n {T : Nat → Int} {n f p dd : Nat} {s : Sx} (h : tkK T n p = 21) (hd : dd ≠ 8) : pX T n (f + 1) 0 dd p s = ((pX T n f 0 (dd + 1) (tkE T n p) s).1, em 21 0 (pX T n f 0 (dd + 1) (tkE T n p) s).2) := (if_pos rfl).trans ((if_pos (Or.inl h)).trans ((if_neg hd).trans (if_pos h)))
theorem pX_0o {T : Nat → Int} {n f p dd : Nat} {s : Sx} (h : tkK T n p = 32) (hd : dd ≠ 8) : pX T n (f + 1) 0 dd p s = (pn T n 33 (pX T n f 3 (dd + 1) (tkE T n p) s).1, (pX T n f 3 (dd + 1) (tkE T n p) s).2) := (if_pos rfl).trans ((if_pos (Or.inr h)).trans ((if_neg hd).trans (if_neg (by omega))))
theorem pX_0s {T : Nat → Int} {n f p dd : Nat} {s : Sx} (h : ¬ (tkK T n p = 21 ∨ tkK T n p = 32)) : pX T n (f + 1) 0 dd p s = fcS T n p s := (if_pos rfl).trans (if_neg h)
theorem pX_1 {T : Nat → Int} {n f p dd : Nat} {s : Sx} : pX T n (f + 1) 1 dd p s = cnt T n 20 false (pX T n f 0 dd p s) (pX T n f 2 dd) := (if_neg (by decide)).trans (if_pos rfl)
theorem pX_2 {T : Nat → Int} {n f p dd : Nat} {s : Sx} : pX T n (f + 1) 2 dd p s = cnt T n 20 true (pX T n f 0 dd p s) (pX T n f 2 dd) := (if_neg (by decide)).trans ((if_neg (by decide)).trans (if_pos rfl))
theorem pX_3 {T : Nat → Int} {n f p dd : Nat} {s : Sx} : pX T n (f + 1) 3 dd p s = cnt T n 19 false (pX T n f 1 dd p s) (pX T n f 4 dd) := (if_neg (by decide)).trans ((if_neg (by decide)).trans ((if_neg (by decide)).trans (if_pos rfl)))
theorem pX_4 {T : Nat → Int} {n f p dd : Nat} {s : Sx} : pX T n (f + 1) 4 dd p s = cnt T n 19 true (pX T n f 1 dd p s) (pX T n f 4 dd) := (if_neg (by decide)).trans ((if_neg (by decide)).trans ((if_neg (by decide)).trans (if_neg (by decide))))
theorem cnt_bad {T : Nat → Int} {n : Nat} {op : Int} {b : Bool} {o : Ox} {go : Nat → Sx → Ox} (h : o.1.1 ≠ 0) : cnt T n op b o go = o := if_pos h
theorem cnt_go {T : Nat → Int} {n : Nat} {op : Int} {b : Bool} {o : Ox} {go : Nat → Sx → Ox} (h : o.1.1 = 0) (hk : tkK T n o.1.2 = op) : cnt T n op b o go = go (tkE T n o.1.2) (if b then em op 0 o.2 else o.2) := (if_neg (fun z => z h)).trans (if_pos hk)
theorem cnt_end {T : Nat → Int} {n : Nat} {op : Int} {b : Bool} {o : Ox} {go : Nat → Sx → Ox} (h : o.1.1 = 0) (hk : tkK T n o.1.2 ≠ op) : cnt T n op b o go = (o.1, if b then em op 0 o.2 else o.2) := (if_neg (fun z => z h)).trans (if_neg hk)
theorem cnt_tr {T : Nat → Int} {n : Nat} {op : Int} {o : Ox} {go : Nat → Sx → Ox} (h : o.1.1 = 0) : cnt T n op true o go = cnt T n op false (o.1, em op 0 o.2) go := by
  by_cases hk : tkK T n o.1.2 = op
  · rw [cnt_go h hk, cnt_go (o := (o.1, em op 0 o.2)) h hk]; rfl
  · rw [cnt_end h hk, cnt_end (o := (o.1, em op 0 o.2)) h hk]; rfl
/-- a word has two letters at least -/
theorem kln_2 : ∀ k : Fin 29, 2 ≤ kln k := by decide
theorem tk_w (T : Nat → Int) {n p : Nat} (hp : p ≤ n) (h : tkK T n p ≤ 28) : tkA T n p + 2 ≤ tkE T n p := by
  have tb := tk_bd T hp
  by_cases h1 : n ≤ tkA T n p
  · have eK : tkK T n p = 34 := if_pos h1
    omega
  · by_cases h2 : isL (T (tkA T n p)) = true
    · have eK : tkK T n p = kwF T (tkA T n p) (tkE T n p) := (if_neg h1).trans (if_pos h2)
      rcases lea_cases (kmB T (tkA T n p) (tkE T n p)) 29 with ⟨z, _⟩ | ⟨k, hk, z, hk1, _⟩
      · have e : kwF T (tkA T n p) (tkE T n p) = 29 := if_pos z
        omega
      · have y := (of_decide_eq_true hk1).1
        have y2 := kln_2 ⟨k, hk⟩
        have y3 : 2 ≤ kln k := y2
        omega
    · by_cases h3 : isN (T (tkA T n p)) = true
      · have eK : tkK T n p = (if tkE T n p - tkA T n p ≤ 3 then 30 else 35) := (if_neg h1).trans ((if_neg h2).trans (if_pos h3))
        have eK2 : tkK T n p = 30 ∨ tkK T n p = 35 := by rw [eK]; split <;> omega
        omega
      · have eK : tkK T n p = (if T (tkA T n p) = 59 then 31 else if T (tkA T n p) = 40 then 32 else if T (tkA T n p) = 41 then 33 else 35) := (if_neg h1).trans ((if_neg h2).trans (if_neg h3))
        have eK2 : 31 ≤ tkK T n p ∧ tkK T n p ≤ 35 := by rw [eK]; (repeat' split) <;> omega
        omega
/-- how long a piece is: further on, two bytes a step at least -/
def lnO (n p c : Nat) (o : Ox) : Prop := o.1.1 = 0 → p + 2 ≤ o.1.2 ∧ o.1.2 ≤ n ∧ 2 * o.2.1 + p ≤ o.1.2 + 2 * c ∧ c ≤ o.2.1
theorem fcS_ln {T : Nat → Int} {n p : Nat} {s : Sx} (hp : p ≤ n) : lnO n p s.1 (fcS T n p s) := by
  have tb := tk_bd T hp
  intro h
  by_cases h1 : tkK T n p = 4 ∨ (22 ≤ tkK T n p ∧ tkK T n p ≤ 24)
  · have e : fcS T n p s = (pt T n 0 999 (0, tkE T n p), em (tkK T n p) (tkN T n (tkE T n p)) s) := if_pos h1
    rw [e] at h ⊢
    have tw := tk_w T hp (by omega)
    have z := pt_z (show ptW T n 0 999 0 (tkE T n p) = 0 from h)
    have tb2 := tk_bd T tb.2.2.1
    have e2 : (pt T n 0 999 (0, tkE T n p)).2 = tkE T n (tkE T n p) := z.2.2.2.2
    have e3 : (em (tkK T n p) (tkN T n (tkE T n p)) s).1 = s.1 + 1 := rfl
    show p + 2 ≤ (pt T n 0 999 (0, tkE T n p)).2 ∧ (pt T n 0 999 (0, tkE T n p)).2 ≤ n ∧ 2 * (em (tkK T n p) (tkN T n (tkE T n p)) s).1 + p ≤ (pt T n 0 999 (0, tkE T n p)).2 + 2 * s.1 ∧ s.1 ≤ (em (tkK T n p) (tkN T n (tkE T n p)) s).1
    rw [e2, e3]
    omega
  · by_cases h2 : (5 ≤ tkK T n p ∧ tkK T n p ≤ 12) ∨ (25 ≤ tkK T n p ∧ tkK T n p ≤ 28)
    · have e : fcS T n p s = ((0, tkE T n p), em (tkK T n p) 0 s) := (if_neg h1).trans (if_pos h2)
      rw [e]
      have tw := tk_w T hp (by omega)
      show p + 2 ≤ tkE T n p ∧ tkE T n p ≤ n ∧ 2 * (s.1 + 1) + p ≤ tkE T n p + 2 * s.1 ∧ s.1 ≤ s.1 + 1
      omega
    · have e : fcS T n p s = ((pfW T n 2 0 p, tkA T n p), s) := (if_neg h1).trans (if_neg h2)
      rw [e] at h
      have e2 : pfW T n 2 0 p = if tkK T n p = 35 then 1 else 2 := if_pos rfl
      have h3 : pfW T n 2 0 p = 0 := h
      rw [e2] at h3
      revert h3
      split <;> omega
theorem cnt_ln {T : Nat → Int} {n p c : Nat} {op : Int} {b : Bool} {o : Ox} {go : Nat → Sx → Ox} (hop : 0 ≤ op ∧ op ≤ 28) (pp c0 : Nat) (h0 : b = true → pp + 2 ≤ p) (h1 : b = false → pp ≤ p) (ho : lnO n p c o) (hc0 : c0 = c) (hg : ∀ p1 s1, p1 ≤ n → pp + 2 ≤ p1 → (o.1.1 = 0 → lnO n (p1 - 2) s1.1 (go p1 s1))) : lnO n pp c0 (cnt T n op b o go) := by
  intro h
  subst hc0
  by_cases hb : o.1.1 = 0
  · have hl := ho hb
    have tb := tk_bd T hl.2.1
    have e1 : (if b then em op 0 o.2 else o.2).1 ≤ o.2.1 + 1 ∧ o.2.1 ≤ (if b then em op 0 o.2 else o.2).1 ∧ (b = false → (if b then em op 0 o.2 else o.2).1 = o.2.1) := by
      cases b with
      | false => exact ⟨Nat.le_succ _, Nat.le_refl _, fun _ => rfl⟩
      | true => exact ⟨Nat.le_refl _, Nat.le_succ _, fun z => absurd z (by decide)⟩
    have e2 : 2 * (if b then em op 0 o.2 else o.2).1 + pp ≤ o.1.2 + 2 * c0 ∧ pp + 2 ≤ o.1.2 := by
      cases hbb : b with
      | false =>
        have y := h1 hbb
        have y2 := e1.2.2 hbb
        rw [hbb] at y2
        omega
      | true =>
        have y := h0 hbb
        have y2 := e1.1
        rw [hbb] at y2
        omega
    by_cases hk : tkK T n o.1.2 = op
    · rw [cnt_go hb hk] at h ⊢
      have tw := tk_w T hl.2.1 (by omega)
      have g := hg (tkE T n o.1.2) (if b then em op 0 o.2 else o.2) tb.2.2.1 (by omega) hb h
      omega
    · rw [cnt_end hb hk]
      show pp + 2 ≤ o.1.2 ∧ o.1.2 ≤ n ∧ 2 * (if b then em op 0 o.2 else o.2).1 + pp ≤ o.1.2 + 2 * c0 ∧ c0 ≤ (if b then em op 0 o.2 else o.2).1
      omega
  · rw [cnt_bad hb] at h
    exact absurd h hb
/-- behind and, or: the word itself counts -/
theorem pX_ln (T : Nat → Int) (n : Nat) : ∀ (f m dd p : Nat) (s : Sx), p ≤ n → ((m = 2 ∨ m = 4) → 2 ≤ p) → m ≤ 4 → lnO n (if m = 2 ∨ m = 4 then p - 2 else p) s.1 (pX T n f m dd p s) := by
  intro f
  induction f with
  | zero => intro m dd p s _ _ _ h; exact absurd h (show (2 : Int) ≠ 0 by decide)
  | succ f ih =>
    intro m dd p s hp h2 hm
    rcases (show m = 0 ∨ m = 1 ∨ m = 2 ∨ m = 3 ∨ m = 4 by omega) with e | e | e | e | e
    · subst e
      rw [if_neg (by omega)]
      by_cases hk : tkK T n p = 21 ∨ tkK T n p = 32
      · have tb := tk_bd T hp
        by_cases hd : dd = 8
        · subst hd
          rw [pX_0d hk]
          intro h; exact absurd h (show (5 : Int) ≠ 0 by decide)
        · rcases hk with hk | hk
          · rw [pX_0n hk hd]
            have tw := tk_w T hp (by omega)
            have y := ih 0 (dd + 1) (tkE T n p) s tb.2.2.1 (by omega) (by omega)
            rw [if_neg (by omega)] at y
            intro h
            have y2 := y h
            show p + 2 ≤ (pX T n f 0 (dd + 1) (tkE T n p) s).1.2 ∧ (pX T n f 0 (dd + 1) (tkE T n p) s).1.2 ≤ n ∧ 2 * ((pX T n f 0 (dd + 1) (tkE T n p) s).2.1 + 1) + p ≤ (pX T n f 0 (dd + 1) (tkE T n p) s).1.2 + 2 * s.1 ∧ s.1 ≤ (pX T n f 0 (dd + 1) (tkE T n p) s).2.1 + 1
            omega
          · rw [pX_0o hk hd]
            have y := ih 3 (dd + 1) (tkE T n p) s tb.2.2.1 (by omega) (by omega)
            rw [if_neg (by omega)] at y
            intro h
            have z := pnW_z (show pnW T n 33 (pX T n f 3 (dd + 1) (tkE T n p) s).1.1 (pX T n f 3 (dd + 1) (tkE T n p) s).1.2 = 0 from h)
            have y2 := y z.1
            have tb2 := tk_bd T y2.2.1
            have e2 : (pn T n 33 (pX T n f 3 (dd + 1) (tkE T n p) s).1).2 = tkE T n (pX T n f 3 (dd + 1) (tkE T n p) s).1.2 := z.2.2
            show p + 2 ≤ (pn T n 33 (pX T n f 3 (dd + 1) (tkE T n p) s).1).2 ∧ (pn T n 33 (pX T n f 3 (dd + 1) (tkE T n p) s).1).2 ≤ n ∧ 2 * (pX T n f 3 (dd + 1) (tkE T n p) s).2.1 + p ≤ (pn T n 33 (pX T n f 3 (dd + 1) (tkE T n p) s).1).2 + 2 * s.1 ∧ s.1 ≤ (pX T n f 3 (dd + 1) (tkE T n p) s).2.1
            rw [e2]
            omega
      · rw [pX_0s hk]
        exact fcS_ln hp
    · subst e
      rw [if_neg (by omega), pX_1]
      have y := ih 0 dd p s hp (by omega) (by omega)
      rw [if_neg (by omega)] at y
      exact cnt_ln (by omega) p s.1 (fun z => absurd z (by decide)) (fun _ => Nat.le_refl _) y rfl (fun p1 s1 h1 h3 _ => by
        have g := ih 2 dd p1 s1 h1 (by omega) (by omega)
        rw [if_pos (by omega)] at g
        exact g)
    · subst e
      have h22 := h2 (by omega)
      rw [if_pos (by omega), pX_2]
      have y := ih 0 dd p s hp (by omega) (by omega)
      rw [if_neg (by omega)] at y
      exact cnt_ln (by omega) (p - 2) s.1 (fun _ => by omega) (fun _ => by omega) y rfl (fun p1 s1 h1 h3 _ => by
        have g := ih 2 dd p1 s1 h1 (by omega) (by omega)
        rw [if_pos (by omega)] at g
        exact g)
    · subst e
      rw [if_neg (by omega), pX_3]
      have y := ih 1 dd p s hp (by omega) (by omega)
      rw [if_neg (by omega)] at y
      exact cnt_ln (by omega) p s.1 (fun z => absurd z (by decide)) (fun _ => Nat.le_refl _) y rfl (fun p1 s1 h1 h3 _ => by
        have g := ih 4 dd p1 s1 h1 (by omega) (by omega)
        rw [if_pos (by omega)] at g
        exact g)
    · subst e
      have h22 := h2 (by omega)
      rw [if_pos (by omega), pX_4]
      have y := ih 1 dd p s hp (by omega) (by omega)
      rw [if_neg (by omega)] at y
      exact cnt_ln (by omega) (p - 2) s.1 (fun _ => by omega) (fun _ => by omega) y rfl (fun p1 s1 h1 h3 _ => by
        have g := ih 4 dd p1 s1 h1 (by omega) (by omega)
        rw [if_pos (by omega)] at g
        exact g)
/-- a FACT, a PART, a TEST from their first byte on -/
theorem pX_l {T : Nat → Int} {n f m dd p : Nat} {s : Sx} (hp : p ≤ n) (hm : m = 0 ∨ m = 1 ∨ m = 3) (h : (pX T n f m dd p s).1.1 = 0) : p + 2 ≤ (pX T n f m dd p s).1.2 ∧ (pX T n f m dd p s).1.2 ≤ n ∧ 2 * (pX T n f m dd p s).2.1 + p ≤ (pX T n f m dd p s).1.2 + 2 * s.1 ∧ s.1 ≤ (pX T n f m dd p s).2.1 := by
  have y := pX_ln T n f m dd p s hp (by omega) (by omega)
  rw [if_neg (by omega)] at y
  exact y h
