/-! GROUP H13: the steps of a TEST are a block on the stack; one line of THE LAW. -/
theorem rdep_add (q : Nat → Int) (i a : Nat) : ∀ b, rdep q i (a + b) = rdep q i a + rdep q (i + a) b := by
  intro b
  induction b with
  | zero => show rdep q i a = rdep q i a + 0; omega
  | succ b ih =>
    show rdep q i (a + b) + (if q (77 + 2 * (i + (a + b))) = 21 then 0 else if q (77 + 2 * (i + (a + b))) = 20 ∨ q (77 + 2 * (i + (a + b))) = 19 then -1 else 1) = rdep q i a + (rdep q (i + a) b + (if q (77 + 2 * (i + a + b)) = 21 then 0 else if q (77 + 2 * (i + a + b)) = 20 ∨ q (77 + 2 * (i + a + b)) = 19 then -1 else 1))
    rw [ih, Nat.add_assoc i a b, Int.add_assoc]
theorem rdep_cg2 {A B : Nat → Int} {fr : Nat} : ∀ n, (∀ j, 77 + 2 * fr ≤ j → j < 77 + 2 * (fr + n) → B j = A j) → rdep B fr n = rdep A fr n := by
  intro n
  induction n with
  | zero => intro _; rfl
  | succ n ih =>
    intro h
    show rdep B fr n + (if B (77 + 2 * (fr + n)) = 21 then 0 else if B (77 + 2 * (fr + n)) = 20 ∨ B (77 + 2 * (fr + n)) = 19 then -1 else 1) = rdep A fr n + (if A (77 + 2 * (fr + n)) = 21 then 0 else if A (77 + 2 * (fr + n)) = 20 ∨ A (77 + 2 * (fr + n)) = 19 then -1 else 1)
    rw [ih (fun j h1 h2 => h j h1 (by omega)), h (77 + 2 * (fr + n)) (by omega) (by omega)]
/-- the steps from i to j push one value, M values high at most on the way -/
def Blk (q : Nat → Int) (i j : Nat) (M : Int) : Prop := i < j ∧ rdep q i (j - i) = 1 ∧ ∀ n, n < j - i → (0 ≤ rdep q i n ∧ rdep q i n ≤ M) ∧ (q (77 + 2 * (i + n)) = 21 → 1 ≤ rdep q i n) ∧ (q (77 + 2 * (i + n)) = 20 ∨ q (77 + 2 * (i + n)) = 19 → 2 ≤ rdep q i n) ∧ ((4 ≤ q (77 + 2 * (i + n)) ∧ q (77 + 2 * (i + n)) ≤ 12) ∨ (19 ≤ q (77 + 2 * (i + n)) ∧ q (77 + 2 * (i + n)) ≤ 28)) ∧ (0 ≤ q (78 + 2 * (i + n)) ∧ q (78 + 2 * (i + n)) ≤ 999)
theorem Blk_mo {q : Nat → Int} {i j : Nat} {M N : Int} (h : Blk q i j M) (hm : M ≤ N) : Blk q i j N := ⟨h.1, h.2.1, fun n hn => ⟨⟨(h.2.2 n hn).1.1, Int.le_trans (h.2.2 n hn).1.2 hm⟩, (h.2.2 n hn).2⟩⟩
theorem Blk_cg {A B : Nat → Int} {i j : Nat} {M : Int} (h : ∀ k, 77 ≤ k → k < 77 + 2 * j → B k = A k) (b : Blk A i j M) : Blk B i j M := by
  obtain ⟨b1, b2, b3⟩ := b
  have hr : ∀ n, n ≤ j - i → rdep B i n = rdep A i n := fun n hn => rdep_cg2 n (fun k h1 h2 => h k (by omega) (by omega))
  refine ⟨b1, by rw [hr _ (Nat.le_refl _)]; exact b2, fun n hn => ?_⟩
  rw [hr n (by omega), h (77 + 2 * (i + n)) (by omega) (by omega), h (78 + 2 * (i + n)) (by omega) (by omega)]
  exact b3 n hn
theorem em_at (k v : Int) (c : Nat) (q : Nat → Int) : (em k v (c, q)).2 (77 + 2 * c) = k ∧ (em k v (c, q)).2 (78 + 2 * c) = v ∧ ∀ j, j < 77 + 2 * c → (em k v (c, q)).2 j = q j := by
  refine ⟨?_, upA_at _ _ _, fun j hj => ?_⟩
  · show upA (upA q (77 + 2 * c) k) (78 + 2 * c) v (77 + 2 * c) = k
    rw [upA_ne (by omega), upA_at]
  · show upA (upA q (77 + 2 * c) k) (78 + 2 * c) v j = q j
    rw [upA_ne (by omega), upA_ne (by omega)]
theorem rdep_1 (q : Nat → Int) (i : Nat) : rdep q i 1 = (if q (77 + 2 * i) = 21 then 0 else if q (77 + 2 * i) = 20 ∨ q (77 + 2 * i) = 19 then -1 else 1) := by
  show (0 : Int) + (if q (77 + 2 * (i + 0)) = 21 then 0 else if q (77 + 2 * (i + 0)) = 20 ∨ q (77 + 2 * (i + 0)) = 19 then -1 else 1) = _
  rw [Nat.add_zero, Int.zero_add]
theorem Blk_one {q : Nat → Int} {c : Nat} {k v M : Int} (hM : 0 ≤ M) (hk : (4 ≤ k ∧ k ≤ 12) ∨ (22 ≤ k ∧ k ≤ 28)) (hv : 0 ≤ v ∧ v ≤ 999) : Blk (em k v (c, q)).2 c (c + 1) M := by
  obtain ⟨e1, e2, e3⟩ := em_at k v c q
  refine ⟨Nat.lt_succ_self _, ?_, fun n hn => ?_⟩
  · rw [show c + 1 - c = 1 by omega, rdep_1, e1, if_neg (by omega), if_neg (by omega)]
  · have hn0 : n = 0 := by omega
    rw [hn0, Nat.add_zero, e1, e2]
    exact ⟨⟨Int.le_refl _, hM⟩, fun z => by omega, fun z => by omega, by omega, hv⟩
theorem Blk_not {q : Nat → Int} {i j : Nat} {M : Int} (h : Blk q i j M) (hM : 1 ≤ M) : Blk (em 21 0 (j, q)).2 i (j + 1) M := by
  obtain ⟨e1, e2, e3⟩ := em_at 21 0 j q
  obtain ⟨b1, b2, b3⟩ := Blk_cg (fun k _ hk => e3 k hk) h
  refine ⟨by omega, ?_, fun n hn => ?_⟩
  · rw [show j + 1 - i = (j - i) + 1 by omega, rdep_add, b2, show i + (j - i) = j by omega, rdep_1, e1, if_pos rfl]; rfl
  · by_cases z : n = j - i
    · rw [z, b2, show i + (j - i) = j by omega, e1, e2]
      exact ⟨⟨by decide, hM⟩, fun _ => by decide, fun z => by omega, by omega, by omega⟩
    · exact b3 n (by omega)
theorem Blk_bin {q : Nat → Int} {i j k : Nat} {M1 M2 M op : Int} (h1 : Blk q i j M1) (h2 : Blk q j k M2) (ho : op = 19 ∨ op = 20) (m1 : M1 ≤ M) (m2 : M2 + 1 ≤ M) (m3 : 2 ≤ M) : Blk (em op 0 (k, q)).2 i (k + 1) M := by
  obtain ⟨e1, e2, e3⟩ := em_at op 0 k q
  have hjk := h2.1
  obtain ⟨b1, b2, b3⟩ := Blk_cg (B := (em op 0 (k, q)).2) (fun x _ hx => e3 x (by omega)) h1
  obtain ⟨c1, c2, c3⟩ := Blk_cg (B := (em op 0 (k, q)).2) (fun x _ hx => e3 x (by omega)) h2
  have dk : rdep (em op 0 (k, q)).2 i (k - i) = 2 := by
    rw [show k - i = (j - i) + (k - j) by omega, rdep_add, b2, show i + (j - i) = j by omega, c2]; rfl
  refine ⟨by omega, ?_, fun n hn => ?_⟩
  · rw [show k + 1 - i = (k - i) + 1 by omega, rdep_add, dk, show i + (k - i) = k by omega, rdep_1, e1, if_neg (by omega), if_pos (by omega)]; rfl
  · rcases (show n < j - i ∨ (j - i ≤ n ∧ n < k - i) ∨ n = k - i by omega) with z | z | z
    · have y := b3 n z
      exact ⟨⟨y.1.1, Int.le_trans y.1.2 m1⟩, y.2⟩
    · have y := c3 (n - (j - i)) (by omega)
      have en : rdep (em op 0 (k, q)).2 i n = 1 + rdep (em op 0 (k, q)).2 j (n - (j - i)) := by
        have r := rdep_add (em op 0 (k, q)).2 i (j - i) (n - (j - i))
        rw [b2, show i + (j - i) = j by omega, show j - i + (n - (j - i)) = n by omega] at r
        exact r
      rw [show j + (n - (j - i)) = i + n by omega] at y
      rw [en]
      obtain ⟨y1, y2, y3, y4, y5⟩ := y
      exact ⟨⟨by omega, by omega⟩, fun u => by have := y2 u; omega, fun u => by have := y3 u; omega, y4, y5⟩
    · rw [z, dk, show i + (k - i) = k by omega, e1, e2]
      exact ⟨⟨by decide, m3⟩, fun u => by omega, fun u => by decide, by omega, by omega⟩
/-- further on, what is there stays -/
def Ext (s : Sx) (o : Ox) : Prop := s.1 ≤ o.2.1 ∧ ∀ k, k < 77 + 2 * s.1 → o.2.2 k = s.2 k
/-- what a piece makes: from its own start a block, behind and, or one with what is ahead -/
def BkP (m : Nat) (M : Int) (s : Sx) (o : Ox) : Prop := o.1.1 = 0 → Ext s o ∧ (m = 0 ∨ m = 1 ∨ m = 3 → Blk o.2.2 s.1 o.2.1 M) ∧ (m = 2 ∨ m = 4 → ∀ i, Blk s.2 i s.1 M → Blk o.2.2 i o.2.1 M)
theorem cnt_bk {T : Nat → Int} {n : Nat} {op : Int} {b : Bool} {o : Ox} {go : Nat → Sx → Ox} {s : Sx} {m mi : Nat} {M Mi : Int} (hop : op = 19 ∨ op = 20) (hmi : mi = 0 ∨ mi = 1 ∨ mi = 3) (hm : (b = false ∧ (m = 1 ∨ m = 3)) ∨ (b = true ∧ (m = 2 ∨ m = 4))) (hM : Mi + 1 ≤ M) (hM2 : 2 ≤ M) (ho : BkP mi Mi s o) (hg : ∀ p1 s1, BkP 2 M s1 (go p1 s1)) : BkP m M s (cnt T n op b o go) := by
  intro h
  by_cases hb : o.1.1 = 0
  · obtain ⟨⟨x1, x2⟩, ob, _⟩ := ho hb
    have ob := ob hmi
    have hs2 : Ext s (o.1, if b then em op 0 o.2 else o.2) ∧ (b = false → Blk (if b then em op 0 o.2 else o.2).2 s.1 (if b then em op 0 o.2 else o.2).1 M) ∧ (b = true → ∀ i, Blk s.2 i s.1 M → Blk (if b then em op 0 o.2 else o.2).2 i (if b then em op 0 o.2 else o.2).1 M) := by
      cases hbb : b with
      | false => exact ⟨⟨x1, x2⟩, fun _ => Blk_mo ob (by omega), fun z => absurd z (by decide)⟩
      | true =>
        refine ⟨⟨Nat.le_succ_of_le x1, fun k hk => ?_⟩, fun z => absurd z (by decide), fun _ i hi => ?_⟩
        · exact ((em_at op 0 o.2.1 o.2.2).2.2 k (by omega)).trans (x2 k hk)
        · exact Blk_bin (Blk_cg (fun k _ hk => x2 k hk) hi) ob hop (Int.le_refl _) hM hM2
    by_cases hk : tkK T n o.1.2 = op
    · rw [cnt_go hb hk] at h ⊢
      obtain ⟨⟨g1, g2⟩, _, g3⟩ := hg (tkE T n o.1.2) (if b then em op 0 o.2 else o.2) h
      have g3 := g3 (Or.inl rfl)
      have y1 := hs2.1.1
      have y2 := hs2.1.2
      refine ⟨⟨Nat.le_trans y1 g1, fun k hk => (g2 k (Nat.lt_of_lt_of_le hk (by have z : s.1 ≤ (if b then em op 0 o.2 else o.2).1 := y1; omega))).trans (y2 k hk)⟩, fun z => ?_, fun z i hi => ?_⟩
      · exact g3 s.1 (hs2.2.1 (by rcases hm with u | u; · exact u.1
                                  · have := u.2; omega))
      · exact g3 i (hs2.2.2 (by rcases hm with u | u; · have := u.2; omega
                                · exact u.1) i hi)
    · rw [cnt_end hb hk]
      refine ⟨hs2.1, fun z => ?_, fun z i hi => ?_⟩
      · exact hs2.2.1 (by rcases hm with u | u; · exact u.1
                          · have := u.2; omega)
      · exact hs2.2.2 (by rcases hm with u | u; · have := u.2; omega
                          · exact u.1) i hi
  · rw [cnt_bad hb] at h
    exact absurd h hb
theorem BkP_24 {M : Int} {s : Sx} {o : Ox} (h : BkP 4 M s o) : BkP 2 M s o := fun z => ⟨(h z).1, fun y => by omega, fun _ => (h z).2.2 (Or.inr rfl)⟩
def mxM (m dd : Nat) : Int := 17 - 2 * (dd : Int) + (if m = 0 then 0 else if m = 1 ∨ m = 2 then 1 else 2)
theorem fcS_bk {T : Nat → Int} {n p : Nat} {s : Sx} {M : Int} (hM : 0 ≤ M) : BkP 0 M s (fcS T n p s) := by
  intro h
  by_cases h1 : tkK T n p = 4 ∨ (22 ≤ tkK T n p ∧ tkK T n p ≤ 24)
  · have e : fcS T n p s = (pt T n 0 999 (0, tkE T n p), em (tkK T n p) (tkN T n (tkE T n p)) s) := if_pos h1
    rw [e] at h ⊢
    have z := (pt_z (show ptW T n 0 999 0 (tkE T n p) = 0 from h)).2.2.1
    exact ⟨⟨Nat.le_succ _, fun k hk => (em_at (tkK T n p) (tkN T n (tkE T n p)) s.1 s.2).2.2 k hk⟩, fun _ => Blk_one hM (by omega) z, fun y => by omega⟩
  · by_cases h2 : (5 ≤ tkK T n p ∧ tkK T n p ≤ 12) ∨ (25 ≤ tkK T n p ∧ tkK T n p ≤ 28)
    · have e : fcS T n p s = ((0, tkE T n p), em (tkK T n p) 0 s) := (if_neg h1).trans (if_pos h2)
      rw [e]
      exact ⟨⟨Nat.le_succ _, fun k hk => (em_at (tkK T n p) 0 s.1 s.2).2.2 k hk⟩, fun _ => Blk_one hM (by omega) (by omega), fun y => by omega⟩
    · have e : fcS T n p s = ((pfW T n 2 0 p, tkA T n p), s) := (if_neg h1).trans (if_neg h2)
      rw [e] at h
      have e2 : pfW T n 2 0 p = if tkK T n p = 35 then 1 else 2 := if_pos rfl
      have h3 : pfW T n 2 0 p = 0 := h
      rw [e2] at h3
      revert h3
      split <;> omega
theorem pX_bk (T : Nat → Int) (n : Nat) : ∀ (f m dd p : Nat) (s : Sx), dd ≤ 8 → m ≤ 4 → BkP m (mxM m dd) s (pX T n f m dd p s) := by
  intro f
  induction f with
  | zero => intro m dd p s _ _ h; exact absurd h (show (2 : Int) ≠ 0 by decide)
  | succ f ih =>
    intro m dd p s hd hm
    have m0 : mxM 0 dd = 17 - 2 * (dd : Int) := by unfold mxM; rw [if_pos rfl]; omega
    have m1 : mxM 1 dd = 18 - 2 * (dd : Int) := by unfold mxM; rw [if_neg (by omega), if_pos (by omega)]; omega
    have m2 : mxM 2 dd = 18 - 2 * (dd : Int) := by unfold mxM; rw [if_neg (by omega), if_pos (by omega)]; omega
    have m3 : mxM 3 dd = 19 - 2 * (dd : Int) := by unfold mxM; rw [if_neg (by omega), if_neg (by omega)]; omega
    have m4 : mxM 4 dd = 19 - 2 * (dd : Int) := by unfold mxM; rw [if_neg (by omega), if_neg (by omega)]; omega
    rcases (show m = 0 ∨ m = 1 ∨ m = 2 ∨ m = 3 ∨ m = 4 by omega) with e | e | e | e | e
    · subst e
      by_cases hk : tkK T n p = 21 ∨ tkK T n p = 32
      · by_cases hd8 : dd = 8
        · subst hd8
          rw [pX_0d hk]
          intro h; exact absurd h (show (5 : Int) ≠ 0 by decide)
        · have n0 : mxM 0 (dd + 1) = 15 - 2 * (dd : Int) := by unfold mxM; rw [if_pos rfl]; omega
          have n3 : mxM 3 (dd + 1) = 17 - 2 * (dd : Int) := by unfold mxM; rw [if_neg (by omega), if_neg (by omega)]; omega
          rcases hk with hk | hk
          · rw [pX_0n hk hd8]
            intro h
            obtain ⟨⟨x1, x2⟩, xb, _⟩ := ih 0 (dd + 1) (tkE T n p) s (by omega) (by omega) h
            exact ⟨⟨Nat.le_succ_of_le x1, fun k hk => ((em_at 21 0 _ _).2.2 k (Nat.lt_of_lt_of_le hk (Nat.add_le_add_left (Nat.mul_le_mul_left 2 x1) 77))).trans (x2 k hk)⟩, fun _ => Blk_not (Blk_mo (xb (Or.inl rfl)) (show mxM 0 (dd + 1) ≤ mxM 0 dd by omega)) (by omega), fun y => by omega⟩
          · rw [pX_0o hk hd8]
            intro h
            have z := pnW_z (show pnW T n 33 (pX T n f 3 (dd + 1) (tkE T n p) s).1.1 (pX T n f 3 (dd + 1) (tkE T n p) s).1.2 = 0 from h)
            obtain ⟨x, xb, _⟩ := ih 3 (dd + 1) (tkE T n p) s (by omega) (by omega) z.1
            exact ⟨x, fun _ => Blk_mo (xb (by omega)) (by omega), fun y => by omega⟩
      · rw [pX_0s hk]
        exact fcS_bk (by omega)
    · subst e
      rw [pX_1]
      exact cnt_bk (by omega) (by omega) (mi := 0) (Or.inl ⟨rfl, by omega⟩) (Mi := mxM 0 dd) (by omega) (by omega) (ih 0 dd p s hd (by omega)) (fun p1 s1 => by rw [m1, ← m2]; exact ih 2 dd p1 s1 hd (by omega))
    · subst e
      rw [pX_2]
      exact cnt_bk (by omega) (by omega) (mi := 0) (Or.inr ⟨rfl, by omega⟩) (Mi := mxM 0 dd) (by omega) (by omega) (ih 0 dd p s hd (by omega)) (fun p1 s1 => ih 2 dd p1 s1 hd (by omega))
    · subst e
      rw [pX_3]
      exact cnt_bk (by omega) (by omega) (mi := 1) (Or.inl ⟨rfl, by omega⟩) (Mi := mxM 1 dd) (by omega) (by omega) (ih 1 dd p s hd (by omega)) (fun p1 s1 => by rw [m3, ← m4]; exact BkP_24 (ih 4 dd p1 s1 hd (by omega)))
    · subst e
      rw [pX_4]
      exact cnt_bk (by omega) (by omega) (mi := 1) (Or.inr ⟨rfl, by omega⟩) (Mi := mxM 1 dd) (by omega) (by omega) (ih 1 dd p s hd (by omega)) (fun p1 s1 => BkP_24 (ih 4 dd p1 s1 hd (by omega)))
/-- a whole TEST -/
theorem pX_b {T : Nat → Int} {n f p : Nat} {s : Sx} (h : (pX T n f 3 0 p s).1.1 = 0) : Ext s (pX T n f 3 0 p s) ∧ Blk (pX T n f 3 0 p s).2.2 s.1 (pX T n f 3 0 p s).2.1 19 := by
  have y := pX_bk T n f 3 0 p s (by omega) (by omega) h
  exact ⟨y.1, Blk_mo (y.2.1 (by omega)) (by unfold mxM; rw [if_neg (by omega), if_neg (by omega)]; omega)⟩
