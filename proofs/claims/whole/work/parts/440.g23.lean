/-! GROUP G23: the reference's calls of odds. -/
theorem c_X11_branches {d m : Nat} : ∀ {H : ZH} (ok : okZ H) {lv f : Nat} {w : Int} (ws : WFS (H.1 2)) (wl : WFL (H.1 2)) (wt : WFT (H.1 2) (H.1 6)) (hu : und (H.1 2) (H.1 6) < m) (hlv : lv + und (H.1 2) (H.1 6) ≤ 8) (hw : 0 ≤ w ∧ w ≤ 10000000000000000) (hf : rkN (H.1 2) (H.1 6) < f) (ha : AccB H w), EvC zX (d + m + 5) mX11_branches [.ref 0, .int (zN ((lv : Int))), .long (zL (w))] (eh H) (zPv (fun (H1 : ZH) => BrP H H1 lv f w)) := by
  induction m with
  | zero => intro H ok lv f w ws wl wt hu; exact absurd hu (Nat.not_lt_zero _)
  | succ m ih =>
    intro H ok lv f w ws wl wt hu hlv hw hf ha
    have z := c_X11_branches_s (d := d + m) (m := m) ok ws wl wt hu hlv hw hf ha (fun {H} ok {lv f} {w} ws wl wt hu hlv hw hf ha => ih ok ws wl wt hu hlv hw hf ha)
    rw [show d + (m + 1) + 5 = d + m + 6 by omega]
    exact z
/-- the whole tree's sum -/
def TS (A : Nat → Int) (wo wc : Int) (g : (Nat → Int) → Int → Int) : Int := tsf A wo g 5000 (bgn A Z0 wc 0) (100 ^ (A 1).toNat)
theorem p100_bd {n : Nat} (h : n ≤ 8) : 1 ≤ (100 : Int) ^ n ∧ (100 : Int) ^ n ≤ 10000000000000000 := by
  rcases (show n = 0 ∨ n = 1 ∨ n = 2 ∨ n = 3 ∨ n = 4 ∨ n = 5 ∨ n = 6 ∨ n = 7 ∨ n = 8 by omega) with e | e | e | e | e | e | e | e | e <;> subst e <;> decide
theorem rk_bgn {A : Nat → Int} {wc : Int} (ws : WFS A) : rkN A (bgn A Z0 wc 0) < 5000 := by
  have ws1 := ws.2.1
  have e := (bgn_f (A := A) (o := Z0) (wc := wc) (sd := 0) ws1).2.2
  have u := und_le A (bgn A Z0 wc 0)
  unfold rkN
  rw [e 36 (by omega) (by omega), (bgn_rn (o := Z0) (wc := wc) (sd := 0) ws).2.2.1]
  split <;> omega
theorem TS_bd {A : Nat → Int} {wo wc : Int} {g : (Nat → Int) → Int → Int} (ws : WFS A) (hg : Gok A g) : 0 ≤ TS A wo wc g ∧ TS A wo wc g ≤ 162 * 100 ^ (A 1).toNat := by
  have ws1 := ws.2.1
  have p := p100_bd (n := (A 1).toNat) (by omega)
  exact tsf_bd ws1 ws.1 hg 5000 _ _ (WFT_rn (bgn_rn ws) ws1.1) (by omega)
/-- what the working out leaves as it is, what it gives -/
def WoF (H H1 : ZH) : Prop := (∀ cc k, ¬ (cc = 6 ∨ cc = 7 ∨ cc = 8 ∨ cc = 9 ∨ cc = 10 ∨ (cc = 0 ∧ (k = 26 ∨ k = 23))) → H1.1 cc k = H.1 cc k) ∧ (∀ j, 42 ≤ j → H1.1 6 j = 0) ∧ ∀ cc k, ¬ (cc = 11 ∨ cc = 12 ∨ cc = 13) → H1.2 cc k = H.2 cc k
def WoS (H1 : ZH) (A : Nat → Int) (wo wc : Int) : Prop := (∀ k, k < 5 → H1.2 11 k = TS A wo wc (gK k)) ∧ (∀ c, c < 8 → H1.2 12 c = TS A wo wc (gB c)) ∧ ∀ c : Nat, (c : Int) < A 1 → H1.2 13 c = TS A wo wc (gS c)
theorem WoF_2 {H H1 : ZH} (h : WoF H H1) : H1.1 2 = H.1 2 := funext (fun k => h.1 2 k (by omega))
theorem WoF_tr {a b c : ZH} (h1 : WoF a b) (h2 : WoF b c) : WoF a c := ⟨fun x y h => (h2.1 x y h).trans (h1.1 x y h), h2.2.1, fun x y h => (h2.2.2 x y h).trans (h1.2.2 x y h)⟩
def upA (A : Nat → Int) (i : Nat) (v : Int) (j : Nat) : Int := if j = i then v else A j
theorem upA_ne {A : Nat → Int} {i : Nat} {v : Int} {j : Nat} (h : j ≠ i) : upA A i v j = A j := if_neg h
theorem upA_at (A : Nat → Int) (i : Nat) (v : Int) : upA A i v i = v := if_pos rfl
theorem upA_self (A : Nat → Int) (i : Nat) : upA A i (A i) = A := by
  funext j
  unfold upA
  split
  · next q => rw [q]
  · rfl
theorem wI_up (H : ZH) (c i : Nat) (v : Int) : (wI H c i v).1 c = upA (H.1 c) i v := by
  funext j
  exact wIp j
theorem rdep_cg {A B : Nat → Int} (h : ∀ j, 77 ≤ j → B j = A j) (fr : Nat) : ∀ n, rdep B fr n = rdep A fr n
  | 0 => rfl
  | n + 1 => by
    show rdep B fr n + _ = rdep A fr n + _
    rw [rdep_cg h fr n, h _ (by omega)]
theorem WFL_up {A : Nat → Int} {i : Nat} {v : Int} (h : WFL A) (hi : i < 40) : WFL (upA A i v) := by
  have e : ∀ j, 40 ≤ j → upA A i v j = A j := fun j hj => upA_ne (by omega)
  have er := rdep_cg (A := A) (B := upA A i v) (fun j hj => e j (by omega))
  unfold WFL at h ⊢
  rw [e 40 (by omega)]
  refine ⟨h.1, fun l hl => ?_⟩
  obtain ⟨h1, h2, h3, h4, h5⟩ := h.2 l hl
  rw [e (41 + l) (by omega), e (53 + l) (by omega), e (65 + l) (by omega), er, e (65 + (l - 1)) (by omega)]
  refine ⟨h1, h2, h3, h4, fun n hn => ?_⟩
  rw [er, e (77 + 2 * ((A (53 + l)).toNat + n)) (by omega), e (78 + 2 * ((A (53 + l)).toNat + n)) (by omega)]
  exact h5 n hn
theorem WFS_up {A : Nat → Int} {i : Nat} {v : Int} (h : WFS A) (hi : 34 ≤ i ∧ i ≤ 37) (hv : 0 ≤ v ∧ (i = 34 → v ≤ 255) ∧ (i = 35 → v ≤ 30) ∧ (i = 36 → v ≤ 20) ∧ (i = 37 → v ≤ 60)) : WFS (upA A i v) := by
  obtain ⟨h0, h1, hC, h34, h35, h36, h37, h38, h39⟩ := h
  have e : ∀ j, j ≠ i → upA A i v j = A j := fun j hj => upA_ne hj
  have n := fun j (hj : j < 34) => e j (by omega)
  refine ⟨by rw [n 0 (by omega)]; exact h0, by rw [n 1 (by omega)]; exact h1, fun c hc => ?_, ?_, ?_, ?_, ?_, by rw [e 38 (by omega)]; exact h38, by rw [e 39 (by omega)]; exact h39⟩
  · rw [n 1 (by omega)] at hc
    rw [n (2 + c) (by omega), n (10 + c) (by omega), n (18 + c) (by omega), n (26 + c) (by omega), n 0 (by omega)]
    exact hC c hc
  · by_cases q : i = 34
    · subst q; rw [upA_at]; exact ⟨hv.1, hv.2.1 rfl⟩
    · rw [e 34 (by omega)]; exact h34
  · by_cases q : i = 35
    · subst q; rw [upA_at]; exact ⟨hv.1, hv.2.2.1 rfl⟩
    · rw [e 35 (by omega)]; exact h35
  · by_cases q : i = 36
    · subst q; rw [upA_at]; exact ⟨hv.1, hv.2.2.2.1 rfl⟩
    · rw [e 36 (by omega)]; exact h36
  · by_cases q : i = 37
    · subst q; rw [upA_at]; exact ⟨hv.1, hv.2.2.2.2 rfl⟩
    · rw [e 37 (by omega)]; exact h37
def tr2 (A : Nat → Int) (t : Nat) : Nat → Int := upA A 34 ((((A 34).toNat ^^^ t : Nat)) : Int)
theorem tr2_0 {A : Nat → Int} (h : 0 ≤ A 34) : tr2 A 0 = A := by
  unfold tr2
  rw [Nat.xor_zero, Int.toNat_of_nonneg h, upA_self]
theorem tr2_ws {A : Nat → Int} {t : Nat} (h : WFS A) (ht : t < 256) : WFS (tr2 A t) := by
  have z : (A 34).toNat ^^^ t < 2 ^ 8 := Nat.xor_lt_two_pow (by have := h.2.2.2.1; omega) (by omega)
  exact WFS_up h (by omega) ⟨by omega, fun _ => by omega, by omega, by omega, by omega⟩
/-- how many bits -/
def bcn (s : Nat) : Nat → Nat
  | 0 => 0
  | k + 1 => bcn s k + s / 2 ^ k % 2
theorem bcn_le (s k : Nat) : bcn s k ≤ k := by
  induction k with
  | zero => exact Nat.le_refl _
  | succ k ih => show bcn s k + s / 2 ^ k % 2 ≤ k + 1; omega
/-- the best set -/
def bsF (V : Nat → Int) (k : Int) : Nat → Int × Int
  | 0 => (-1, 0)
  | s + 1 => if (bcn s 8 : Int) = k ∧ ((bsF V k s).1 = -1 ∨ (bsF V k s).2 < V s) then ((s : Int), V s) else bsF V k s
theorem bsF_bd {V : Nat → Int} {k B : Int} (h : ∀ s, s < 256 → 0 ≤ V s ∧ V s ≤ B) (hB : 0 ≤ B) (n : Nat) (hn : n ≤ 256) : -1 ≤ (bsF V k n).1 ∧ (bsF V k n).1 ≤ 255 ∧ 0 ≤ (bsF V k n).2 ∧ (bsF V k n).2 ≤ B := by
  induction n with
  | zero => exact ⟨by show (-1 : Int) ≤ -1; decide, by show (-1 : Int) ≤ 255; decide, Int.le_refl _, hB⟩
  | succ n ih =>
    have z := h n (by omega)
    show -1 ≤ (if (bcn n 8 : Int) = k ∧ ((bsF V k n).1 = -1 ∨ (bsF V k n).2 < V n) then ((n : Int), V n) else bsF V k n).1 ∧ (if (bcn n 8 : Int) = k ∧ ((bsF V k n).1 = -1 ∨ (bsF V k n).2 < V n) then ((n : Int), V n) else bsF V k n).1 ≤ 255 ∧ 0 ≤ (if (bcn n 8 : Int) = k ∧ ((bsF V k n).1 = -1 ∨ (bsF V k n).2 < V n) then ((n : Int), V n) else bsF V k n).2 ∧ (if (bcn n 8 : Int) = k ∧ ((bsF V k n).1 = -1 ∨ (bsF V k n).2 < V n) then ((n : Int), V n) else bsF V k n).2 ≤ B
    by_cases q : (bcn n 8 : Int) = k ∧ ((bsF V k n).1 = -1 ∨ (bsF V k n).2 < V n)
    · rw [if_pos q]
      refine ⟨?_, ?_, z.1, z.2⟩
      · show (-1 : Int) ≤ (n : Int); omega
      · show (n : Int) ≤ 255; omega
    · rw [if_neg q]
      exact ih (by omega)
/-- the first greatest -/
def wsF (V : Nat → Int) : Nat → Int × Int
  | 0 => (0, -1)
  | v + 1 => if (wsF V v).2 < V v then ((v : Int), V v) else wsF V v
theorem wsF_bd {V : Nat → Int} {B : Int} (h : ∀ s, s < 61 → 0 ≤ V s ∧ V s ≤ B) (hB : 0 ≤ B) (n : Nat) (hn : n ≤ 61) : 0 ≤ (wsF V n).1 ∧ (wsF V n).1 ≤ 60 ∧ -1 ≤ (wsF V n).2 ∧ (wsF V n).2 ≤ B := by
  induction n with
  | zero => exact ⟨Int.le_refl _, by show (0 : Int) ≤ 60; decide, Int.le_refl _, by show (-1 : Int) ≤ B; omega⟩
  | succ n ih =>
    have z := h n (by omega)
    have i := ih (by omega)
    show 0 ≤ (if (wsF V n).2 < V n then ((n : Int), V n) else wsF V n).1 ∧ (if (wsF V n).2 < V n then ((n : Int), V n) else wsF V n).1 ≤ 60 ∧ -1 ≤ (if (wsF V n).2 < V n then ((n : Int), V n) else wsF V n).2 ∧ (if (wsF V n).2 < V n then ((n : Int), V n) else wsF V n).2 ≤ B
    by_cases q : (wsF V n).2 < V n
    · rw [if_pos q]
      refine ⟨?_, ?_, ?_, z.2⟩
      · show 0 ≤ (n : Int); omega
      · show (n : Int) ≤ 60; omega
      · show -1 ≤ V n; omega
    · rw [if_neg q]
      exact i
/-- this line is far enough back -/
def bkB (A : Nat → Int) (wo wc most : Int) (l : Nat) : Bool := if (100 : Int) ^ (A 1).toNat < 1000 then decide (TS (upA A 35 (l : Int)) wo wc (gK 1) * 1000 ≤ most * 100 ^ (A 1).toNat) else decide (TS (upA A 35 (l : Int)) wo wc (gK 1) ≤ most * (100 ^ (A 1).toNat / 1000))
