/-! GROUP G23: the reference's calls of odds. -/
theorem c_X11_branches {d m : Nat} : ∀ {H : ZH} (ok : okZ H) {lv f : Nat} {w : Int} (ws : WFS (H.1 2)) (wl : WFL (H.1 2)) (wt : WFT (H.1 2) (H.1 6)) (hu : und (H.1 2) (H.1 6) < m) (hlv : lv + und (H.1 2) (H.1 6) ≤ 8) (hw : 0 ≤ w ∧ w ≤ 10000000000000000) (hf : rkN (H.1 2) (H.1 6) < f) (ha : AccB H w), EvC zX (d + m + 5) mX11_branches [.ref 0, .int (zN ((lv : Int))), .long (zL (w))] (eh H) (zPv (fun (H1 : ZH) => BrP H H1 lv f w)) := by
  induction m with
  | zero => intro H ok lv f w ws wl wt hu; exact absurd hu (Nat.not_lt_zero _)
  | succ m ih =>
    intro H ok lv f w ws wl wt hu hlv hw hf ha
    have z := c_X11_branches_s (d := d + m) (m := m) ok ws wl wt hu hlv hw hf ha (fun {H} ok {lv f} {w} ws wl wt hu hlv hw hf ha => ih ok ws wl wt hu hlv hw hf ha)
    rw [show d + (m + 1) + 5 = d + m + 6 by omega]
    exact z
/-- the whole tree's sum -/
def TS (A : Nat → Int) (wo wc : Int) (g : (Nat → Int) → Int → Int) : Int := tsf A wo g 5000 (bgn A Z0 wc 0) (100 ^ (A 1).toNat)
theorem p100_bd {n : Nat} (h : n ≤ 8) : 1 ≤ (100 : Int) ^ n ∧ (100 : Int) ^ n ≤ 10000000000000000 := by
  rcases (show n = 0 ∨ n = 1 ∨ n = 2 ∨ n = 3 ∨ n = 4 ∨ n = 5 ∨ n = 6 ∨ n = 7 ∨ n = 8 by omega) with e | e | e | e | e | e | e | e | e <;> subst e <;> decide
theorem rk_bgn {A : Nat → Int} {wc : Int} (ws : WFS A) : rkN A (bgn A Z0 wc 0) < 5000 := by
  have ws1 := ws.2.1
  have e := (bgn_f (A := A) (o := Z0) (wc := wc) (sd := 0) ws1).2.2
  have u := und_le A (bgn A Z0 wc 0)
  unfold rkN
  rw [e 36 (by omega) (by omega), (bgn_rn (o := Z0) (wc := wc) (sd := 0) ws).2.2.1]
  split <;> omega
theorem TS_bd {A : Nat → Int} {wo wc : Int} {g : (Nat → Int) → Int → Int} (ws : WFS A) (hg : Gok A g) : 0 ≤ TS A wo wc g ∧ TS A wo wc g ≤ 162 * 100 ^ (A 1).toNat := by
  have ws1 := ws.2.1
  have p := p100_bd (n := (A 1).toNat) (by omega)
  exact tsf_bd ws1 ws.1 hg 5000 _ _ (WFT_rn (bgn_rn ws) ws1.1) (by omega)
/-- what the working out leaves as it is, what it gives -/
def WoF (H H1 : ZH) : Prop := (∀ cc k, ¬ (cc = 6 ∨ cc = 7 ∨ cc = 8 ∨ cc = 9 ∨ cc = 10 ∨ (cc = 0 ∧ (k = 26 ∨ k = 23))) → H1.1 cc k = H.1 cc k) ∧ (∀ j, 42 ≤ j → H1.1 6 j = 0) ∧ ∀ cc k, ¬ (cc = 11 ∨ cc = 12 ∨ cc = 13) → H1.2 cc k = H.2 cc k
def WoS (H1 : ZH) (A : Nat → Int) (wo wc : Int) : Prop := (∀ k, k < 5 → H1.2 11 k = TS A wo wc (gK k)) ∧ (∀ c, c < 8 → H1.2 12 c = TS A wo wc (gB c)) ∧ ∀ c : Nat, (c : Int) < A 1 → H1.2 13 c = TS A wo wc (gS c)
theorem WoF_2 {H H1 : ZH} (h : WoF H H1) : H1.1 2 = H.1 2 := funext (fun k => h.1 2 k (by omega))
theorem WoF_tr {a b c : ZH} (h1 : WoF a b) (h2 : WoF b c) : WoF a c := ⟨fun x y h => (h2.1 x y h).trans (h1.1 x y h), h2.2.1, fun x y h => (h2.2.2 x y h).trans (h1.2.2 x y h)⟩
def upA (A : Nat → Int) (i : Nat) (v : Int) (j : Nat) : Int := if j = i then v else A j
theorem upA_ne {A : Nat → Int} {i : Nat} {v : Int} {j : Nat} (h : j ≠ i) : upA A i v j = A j := if_neg h
theorem upA_at (A : Nat → Int) (i : Nat) (v : Int) : upA A i v i = v := if_pos rfl
theorem upA_self (A : Nat → Int) (i : Nat) : upA A i (A i) = A := by
  funext j
  unfold upA
  split
  · next q => rw [q]
  · rfl
theorem wI_up (H : ZH) (c i : Nat) (v : Int) : (wI H c i v).1 c = upA (H.1 c) i v := by
  funext j
  exact wIp j
theorem rdep_cg {A B : Nat → Int} (h : ∀ j, 77 ≤ j → B j = A j) (fr : Nat) : ∀ n, rdep B fr n = rdep A fr n
  | 0 => rfl
  | n + 1 => by
    show rdep B fr n + _ = rdep A fr n + _
    rw [rdep_cg h fr n, h _ (by omega)]
theorem WFL_up {A : Nat → Int} {i : Nat} {v : Int} (h : WFL A) (hi : i < 40) : WFL (upA A i v) := by
  have e : ∀ j, 40 ≤ j → upA A i v j = A j := fun j hj => upA_ne (by omega)
  have er := rdep_cg (A := A) (B := upA A i v) (fun j hj => e j (by omega))
  unfold WFL at h ⊢
  rw [e 40 (by omega)]
  refine ⟨h.1, fun l hl => ?_⟩
  obtain ⟨h1, h2, h3, h4, h5⟩ := h.2 l hl
  rw [e (41 + l) (by omega), e (53 + l) (by omega), e (65 + l) (by omega), er, e (65 + (l - 1)) (by omega)]
  refine ⟨h1, h2, h3, h4, fun n hn => ?_⟩
  rw [er, e (77 + 2 * ((A (53 + l)).toNat + n)) (by omega), e (78 + 2 * ((A (53 + l)).toNat + n)) (by omega)]
  exact h5 n hn
theorem WFS_up {A : Nat → Int} {i : Nat} {v : Int} (h : WFS A) (hi : 34 ≤ i ∧ i ≤ 37) (hv : 0 ≤ v ∧ (i = 34 → v ≤ 255) ∧ (i = 35 → v ≤ 30) ∧ (i = 36 → v ≤ 20) ∧ (i = 37 → v ≤ 60)) : WFS (upA A i v) := by
  obtain ⟨h0, h1, hC, h34, h35, h36, h37, h38, h39⟩ := h
  have e : ∀ j, j ≠ i → upA A i v j = A j := fun j hj => upA_ne hj
  have n := fun j (hj : j < 34) => e j (by omega)
  refine ⟨by rw [n 0 (by omega)]; exact h0, by rw [n 1 (by omega)]; exact h1, fun c hc => ?_, ?_, ?_, ?_, ?_, by rw [e 38 (by omega)]; exact h38, by rw [e 39 (by omega)]; exact h39⟩
  · rw [n 1 (by omega)] at hc
    rw [n (2 + c) (by omega), n (10 + c) (by omega), n (18 + c) (by omega), n (26 + c) (by omega), n 0 (by omega)]
    exact hC c hc
  · by_cases q : i = 34
    · subst q; rw [upA_at]; exact ⟨hv.1, hv.2.1 rfl⟩
    · rw [e 34 (by omega)]; exact h34
  · by_cases q : i = 35
    · subst q; rw [upA_at]; exact ⟨hv.1, hv.2.2.1 rfl⟩
    · rw [e 35 (by omega)]; exact h35
  · by_cases q : i = 36
    · subst q; rw [upA_at]; exact ⟨hv.1, hv.2.2.2.1 rfl⟩
    · rw [e 36 (by omega)]; exact h36
  · by_cases q : i = 37
    · subst q; rw [upA_at]; exact ⟨hv.1, hv.2.2.2.2 rfl⟩
    · rw [e 37 (by omega)]; exact h37
def tr2 (A : Nat → Int) (t : Nat) : Nat → Int := upA A 34 ((((A 34).toNat ^^^ t : Nat)) : Int)
theorem tr2_0 {A : Nat → Int} (h : 0 ≤ A 34) : tr2 A 0 = A := by
  unfold tr2
  rw [Nat.xor_zero, Int.toNat_of_nonneg h, upA_self]
theorem tr2_ws {A : Nat → Int} {t : Nat} (h : WFS A) (ht : t < 256) : WFS (tr2 A t) := by
  have z : (A 34).toNat ^^^ t < 2 ^ 8 := Nat.xor_lt_two_pow (by have := h.2.2.2.1; omega) (by omega)
  exact WFS_up h (by omega) ⟨by omega, fun _ => by omega, by omega, by omega, by omega⟩
/-- how many bits -/
def bcn (s : Nat) : Nat → Nat
  | 0 => 0
  | k + 1 => bcn s k + s / 2 ^ k % 2
theorem bcn_le (s k : Nat) : bcn s k ≤ k := by
  induction k with
  | zero => exact Nat.le_refl _
  | succ k ih => show bcn s k + s / 2 ^ k % 2 ≤ k + 1; omega
/-- the best set -/
def bsF (V : Nat → Int) (k : Int) : Nat → Int × Int
  | 0 => (-1, 0)
  | s + 1 => if (bcn s 8 : Int) = k ∧ ((bsF V k s).1 = -1 ∨ (bsF V k s).2 < V s) then ((s : Int), V s) else bsF V k s
theorem bsF_bd {V : Nat → Int} {k B : Int} (h : ∀ s, s < 256 → 0 ≤ V s ∧ V s ≤ B) (hB : 0 ≤ B) (n : Nat) (hn : n ≤ 256) : -1 ≤ (bsF V k n).1 ∧ (bsF V k n).1 ≤ 255 ∧ 0 ≤ (bsF V k n).2 ∧ (bsF V k n).2 ≤ B := by
  induction n with
  | zero => exact ⟨by show (-1 : Int) ≤ -1; decide, by show (-1 : Int) ≤ 255; decide, Int.le_refl _, hB⟩
  | succ n ih =>
    have z := h n (by omega)
    show -1 ≤ (if (bcn n 8 : Int) = k ∧ ((bsF V k n).1 = -1 ∨ (bsF V k n).2 < V n) then ((n : Int), V n) else bsF V k n).1 ∧ (if (bcn n 8 : Int) = k ∧ ((bsF V k n).1 = -1 ∨ (bsF V k n).2 < V n) then ((n : Int), V n) else bsF V k n).1 ≤ 255 ∧ 0 ≤ (if (bcn n 8 : Int) = k ∧ ((bsF V k n).1 = -1 ∨ (bsF V k n).2 < V n) then ((n : Int), V n) else bsF V k n).2 ∧ (if (bcn n 8 : Int) = k ∧ ((bsF V k n).1 = -1 ∨ (bsF V k n).2 < V n) then ((n : Int), V n) else bsF V k n).2 ≤ B
    by_cases q : (bcn n 8 : Int) = k ∧ ((bsF V k n).1 = -1 ∨ (bsF V k n).2 < V n)
    · rw [if_pos q]
      refine ⟨?_, ?_, z.1, z.2⟩
      · show (-1 : Int) ≤ (n : Int); omega
      · show (n : Int) ≤ 255; omega
    · rw [if_neg q]
      exact ih (by omega)
/-- the first greatest -/
def wsF (V : Nat → Int) : Nat → Int × Int
  | 0 => (0, -1)
  | v + 1 => if (wsF V v).2 < V v then ((v : Int), V v) else wsF V v
theorem wsF_bd {V : Nat → Int} {B : Int} (h : ∀ s, s < 61 → 0 ≤ V s ∧ V s ≤ B) (hB : 0 ≤ B) (n : Nat) (hn : n ≤ 61) : 0 ≤ (wsF V n).1 ∧ (wsF V n).1 ≤ 60 ∧ -1 ≤ (wsF V n).2 ∧ (wsF V n).2 ≤ B := by
  induction n with
  | zero => exact ⟨Int.le_refl _, by show (0 : Int) ≤ 60; decide, Int.le_refl _, by show (-1 : Int) ≤ B; omega⟩
  | succ n ih =>
    have z := h n (by omega)
    have i := ih (by omega)
    show 0 ≤ (if (wsF V n).2 < V n then ((n : Int), V n) else wsF V n).1 ∧ (if (wsF V n).2 < V n then ((n : Int), V n) else wsF V n).1 ≤ 60 ∧ -1 ≤ (if (wsF V n).2 < V n then ((n : Int), V n) else wsF V n).2 ∧ (if (wsF V n).2 < V n then ((n : Int), V n) else wsF V n).2 ≤ B
    by_cases q : (wsF V n).2 < V n
    · rw [if_pos q]
      refine ⟨?_, ?_, ?_, z.2⟩
      · show 0 ≤ (n : Int); omega
      · show (n : Int) ≤ 60; omega
      · show -1 ≤ V n; omega
    · rw [if_neg q]
      exact i
/-- this line is far enough back -/
def bkB (A : Nat → Int) (wo wc most : Int) (l : Nat) : Bool := if (100 : Int) ^ (A 1).toNat < 1000 then decide (TS (upA A 35 (l : Int)) wo wc (gK 1) * 1000 ≤ most * 100 ^ (A 1).toNat) else decide (TS (upA A 35 (l : Int)) wo wc (gK 1) ≤ most * (100 ^ (A 1).toNat / 1000))

theorem c_X11_allParts {d : Nat} {H : ZH} (ok : okZ H)  (hn8 : 0 ≤ H.1 2 1 ∧ H.1 2 1 ≤ 8) : EvC zX (d + 1) mX11_allParts [.ref 0] (eh H) (zPl (fun (rz : Int) (Hz : ZH) => rz = (((100 : Int) ^ (H.1 2 1).toNat)) ∧ Hz = H)) := by
  show _ ∧ Ev zX mX11_allParts (EvC zX d) (zPl (fun (rz : Int) (Hz : ZH) => rz = (((100 : Int) ^ (H.1 2 1).toNat)) ∧ Hz = H)) 0 [(0, .ref 0)] [] (eh H)
  refine ⟨Nat.le_of_ble_eq_true rfl, ?_⟩
  refine z_lconst (pc := 0) 1 dX11_allParts_0 rfl ?_
  refine x_lstore_n (pc := 1) dX11_allParts_1 (Nat.le_of_ble_eq_true rfl) ?_
  show Ev _ _ _ _ _ [(1, .long (zL (1))), (0, .ref 0)] _ _
  refine z_iconst (pc := 2) dX11_allParts_2 ?_
  refine x_istore_n (pc := 3) dX11_allParts_3 (Nat.le_of_ble_eq_true rfl) ?_
  show Ev _ _ _ _ _ [(3, .int (zN (0))), (1, .long (zL (1))), (0, .ref 0)] _ _
  have lp4 : ∀ (nF : Nat) (k : Nat), ((k : Int) ≤ H.1 2 1) → (H.1 2 1).toNat - k < nF → Ev zX mX11_allParts (EvC zX d) (zPl (fun (rz : Int) (Hz : ZH) => rz = (((100 : Int) ^ (H.1 2 1).toNat)) ∧ Hz = H)) 4 [(0, .ref 0), (1, .long (zL (((100 : Int) ^ k)))), (3, .int (zN ((k : Int))))] [] (eh H) := by
    intro nF
    induction nF with
    | zero => intro k hk hm; exact absurd hm (Nat.not_lt_zero _)
    | succ nF ih4 =>
      intro k hk hm
      have pk := p100_bd (n := k) (by omega)
      refine x_iload_n (pc := 4) dX11_allParts_4 (List.Mem.tail _ (List.Mem.tail _ (List.Mem.head _))) ?_
      refine x_aload_n (pc := 5) dX11_allParts_5 (List.Mem.head _) ?_
      refine z_getR (pc := 6) (k := 2) (r := 2) dX11_allParts_6 lf_X11_17 sh_0 rfl rf_0_2 ?_
      refine z_iconst (pc := 9) dX11_allParts_9 ?_
      have rd1 := ok.1 2 1
      refine z_iald (pc := 10) (j := 1) (v := H.1 2 1) dX11_allParts_10 sh_2 rfl (Nat.le_of_ble_eq_true rfl) (by decide) rfl ?_
      refine z_icmp_ge (pc := 11) (tgt := 26) dX11_allParts_11 (by decide) (by omega) (by omega) (by omega) (by omega) (fun hb2 => ?_) (fun hb2 => ?_)
      · skip
        have pk2 := pk
        refine x_lload_n (pc := 26) dX11_allParts_26 (List.Mem.tail _ (List.Mem.head _)) ?_
        refine z_lreturn (pc := 27) dX11_allParts_27 rfl ok (by omega) (by omega) ?_
        exact ⟨by rw [show (H.1 2 1).toNat = k by omega], rfl⟩
      · skip
        refine x_lload_n (pc := 14) dX11_allParts_14 (List.Mem.tail _ (List.Mem.head _)) ?_
        refine z_ldc2_w (pc := 15) 100 dX11_allParts_15 cl_X11_286 (by decide) ?_
        refine z_lmul (pc := 18) dX11_allParts_18 ?_
        refine x_lstore_n (pc := 19) dX11_allParts_19 (Nat.le_of_ble_eq_true rfl) ?_
        show Ev _ _ _ _ _ [(1, .long (zL ((((100 : Int) ^ k) * 100)))), (0, .ref 0), (3, .int (zN ((k : Int))))] _ _
        refine z_iinc (pc := 20) dX11_allParts_20 (List.Mem.tail _ (List.Mem.tail _ (List.Mem.head _))) (Nat.le_of_ble_eq_true rfl) ?_
        show Ev _ _ _ _ _ [(3, .int (zN ((k : Int) + 1))), (1, .long (zL ((((100 : Int) ^ k) * 100)))), (0, .ref 0)] _ _
        refine x_goto (pc := 23) (tgt := 4) dX11_allParts_23 (by decide) ?_
        refine x_weaken (L1 := [(0, .ref 0), (1, .long (zL (((100 : Int) ^ (k + 1))))), (3, .int (zN ((((k + 1) : Nat) : Int))))]) (List.forall_mem_cons.mpr ⟨(List.Mem.tail _ (List.Mem.tail _ (List.Mem.head _))), (List.forall_mem_cons.mpr ⟨(mem_cl (Int.pow_succ ..) (List.Mem.tail _ (List.Mem.head _))), (List.forall_mem_cons.mpr ⟨(mem_ci (by omega) (List.Mem.head _)), (fun _ h => absurd h List.not_mem_nil)⟩)⟩)⟩) ?_
        exact ih4 ((k + 1)) (by first | assumption | omega) (by omega)
  refine x_weaken (L1 := [(0, .ref 0), (1, .long (zL (((100 : Int) ^ 0)))), (3, .int (zN (((0 : Nat) : Int))))]) (List.forall_mem_cons.mpr ⟨(List.Mem.tail _ (List.Mem.tail _ (List.Mem.head _))), (List.forall_mem_cons.mpr ⟨(mem_cl (rfl) (List.Mem.tail _ (List.Mem.head _))), (List.forall_mem_cons.mpr ⟨(mem_ci (by omega) (List.Mem.head _)), (fun _ h => absurd h List.not_mem_nil)⟩)⟩)⟩) ?_
  exact lp4 ((H.1 2 1).toNat - 0 + 1) (0) (by first | assumption | omega) (Nat.lt_succ_self _)

theorem c_X11_worksOdds {d : Nat} {H : ZH} (ok : okZ H)  (ws : WFS (H.1 2)) (wl : WFL (H.1 2)) (h42 : ∀ j, 42 ≤ j → H.1 6 j = 0) : EvC zX (d + 15) mX11_worksOdds [.ref 0] (eh H) (zPv (fun (H1 : ZH) => WoF H H1 ∧ WoS H1 (H.1 2) (H.1 0 21) (H.1 0 22))) := by
  show _ ∧ Ev zX mX11_worksOdds (EvC zX (d + 14)) (zPv (fun (H1 : ZH) => WoF H H1 ∧ WoS H1 (H.1 2) (H.1 0 21) (H.1 0 22))) 0 [(0, .ref 0)] [] (eh H)
  refine ⟨Nat.le_of_ble_eq_true rfl, ?_⟩
  have wsx := ws
  obtain ⟨ws0, ws1, wsC, ws34, ws35, ws36, ws37, ws38, ws39⟩ := wsx
  have pb := p100_bd (n := (H.1 2 1).toNat) (by omega)
  have hb0 := bgn_rn (o := Z0) (wc := H.1 0 22) (sd := 0) ws
  refine z_iconst (pc := 0) dX11_worksOdds_0 ?_
  refine x_istore_n (pc := 1) dX11_worksOdds_1 (Nat.le_of_ble_eq_true rfl) ?_
  show Ev _ _ _ _ _ [(1, .int (zN (0))), (0, .ref 0)] _ _
  have lp2 : ∀ (nF : Nat) (k : Nat) (Hl : ZH), okZ Hl → (k ≤ 5) → (Hl.1 = H.1) → (∀ j, j < k → Hl.2 11 j = 0) → (∀ cc j, ¬ (cc = 11 ∨ cc = 12 ∨ cc = 13) → Hl.2 cc j = H.2 cc j) → 5 - k < nF → Ev zX mX11_worksOdds (EvC zX (d + 14)) (zPv (fun (H1 : ZH) => WoF H H1 ∧ WoS H1 (H.1 2) (H.1 0 21) (H.1 0 22))) 2 [(0, .ref 0), (1, .int (zN ((k : Int))))] [] (eh Hl) := by
    intro nF
    induction nF with
    | zero => intro k Hl okl2 hk l1 z11 lo hm; exact absurd hm (Nat.not_lt_zero _)
    | succ nF ih2 =>
      intro k Hl okl2 hk l1 z11 lo hm
      refine x_iload_n (pc := 2) dX11_worksOdds_2 (List.Mem.tail _ (List.Mem.head _)) ?_
      refine z_iconst (pc := 3) dX11_worksOdds_3 ?_
      refine z_icmp_ge (pc := 4) (tgt := 20) dX11_worksOdds_4 (by decide) (by omega) (by omega) (by decide) (by decide) (fun hb1 => ?_) (fun hb1 => ?_)
      · skip
        refine z_iconst (pc := 20) dX11_worksOdds_20 ?_
        refine x_istore_n (pc := 21) dX11_worksOdds_21 (Nat.le_of_ble_eq_true rfl) ?_
        show Ev _ _ _ _ _ [(1, .int (zN (0))), (0, .ref 0)] _ _
        have lp22 : ∀ (nF : Nat) (k : Nat) (Hm : ZH), okZ Hm → (k ≤ 8) → (Hm.1 = H.1) → (∀ j, j < 5 → Hm.2 11 j = 0) → (∀ j, j < k → Hm.2 12 j = 0 ∧ Hm.2 13 j = 0) → (∀ cc j, ¬ (cc = 11 ∨ cc = 12 ∨ cc = 13) → Hm.2 cc j = H.2 cc j) → 8 - k < nF → Ev zX mX11_worksOdds (EvC zX (d + 14)) (zPv (fun (H1 : ZH) => WoF H H1 ∧ WoS H1 (H.1 2) (H.1 0 21) (H.1 0 22))) 22 [(0, .ref 0), (1, .int (zN ((k : Int))))] [] (eh Hm) := by
          intro nF
          induction nF with
          | zero => intro k Hm okl22 hk2 m1 y11 y12 mo hm; exact absurd hm (Nat.not_lt_zero _)
          | succ nF ih22 =>
            intro k Hm okl22 hk2 m1 y11 y12 mo hm
            refine x_iload_n (pc := 22) dX11_worksOdds_22 (List.Mem.tail _ (List.Mem.head _)) ?_
            refine z_bipush (pc := 23) dX11_worksOdds_23 bp_8 ?_
            refine z_icmp_ge (pc := 25) (tgt := 48) dX11_worksOdds_25 (by decide) (by omega) (by omega) (by decide) (by decide) (fun hb2 => ?_) (fun hb2 => ?_)
            · skip
              refine x_aload_n (pc := 48) dX11_worksOdds_48 (List.Mem.head _) ?_
              refine z_iconst (pc := 49) dX11_worksOdds_49 ?_
              refine z_callVv (pc := 50) (i := mX11_begins) (S := []) [.int (zN (0))] dX11_worksOdds_50 ml_X11_240 ok_X11_begins rfl sh_0 rfl rfl (Nat.le_of_ble_eq_true rfl) (c_X11_begins (d := d + 12) (sd := 0) (sd1 := (by omega)) (sd2 := (by omega)) (ok := okl22) (ws := (show WFS (Hm.1 2) by rw [m1]; exact ws))) ?_
              intro H6 ok4 hp5
              subst hp5
              refine x_aload_n (pc := 53) dX11_worksOdds_53 (List.Mem.head _) ?_
              refine z_iconst (pc := 54) dX11_worksOdds_54 ?_
              refine x_aload_n (pc := 55) dX11_worksOdds_55 (List.Mem.head _) ?_
              refine z_callVlp (pc := 56) (i := mX11_allParts) (S := [.int (zN (0)), .ref 0]) [] dX11_worksOdds_56 ml_X11_292 ok_X11_allParts rfl sh_0 rfl rfl (Nat.le_of_ble_eq_true rfl) (c_X11_allParts (d := d + 13) (ok := ok4) (hn8 := (show 0 ≤ Hm.1 2 1 ∧ Hm.1 2 1 ≤ 8 by rw [m1]; exact ws1))) (fun r7a r7b ok8 => ?_)
              rw [show (((100 : Int) ^ ((wA Hm 6 ((bgn (Hm.1 2) (Hm.1 6) (Hm.1 0 22) 0))).1 2 1).toNat)) = (100 : Int) ^ (H.1 2 1).toNat from by rw [wA1c (by omega), m1]]
              have x6 : (wA Hm 6 ((bgn (Hm.1 2) (Hm.1 6) (Hm.1 0 22) 0))).1 6 = bgn (H.1 2) Z0 (H.1 0 22) 0 := by rw [wA1, m1]; exact bgn_z h42
              have xo : ∀ cc, cc ≠ 6 → (wA Hm 6 ((bgn (Hm.1 2) (Hm.1 6) (Hm.1 0 22) 0))).1 cc = H.1 cc := fun cc h => by rw [wA1c h, m1]
              have xJ : (wA Hm 6 ((bgn (Hm.1 2) (Hm.1 6) (Hm.1 0 22) 0))).2 = Hm.2 := rfl
              obtain ⟨Hx, hHx⟩ : ∃ Hx, Hx = (wA Hm 6 ((bgn (Hm.1 2) (Hm.1 6) (Hm.1 0 22) 0))) := ⟨_, rfl⟩
              rw [← hHx] at x6 xo xJ ⊢
              have okHx : okZ Hx := by rw [hHx]; exact ok8
              have accx : AccB Hx ((100 : Int) ^ (H.1 2 1).toNat) := by
                refine ⟨fun j hj => ?_, fun j hj => ?_, fun j hj => ?_⟩
                · rw [xJ, y11 j hj]; omega
                · rw [xJ, (y12 j (by omega)).1]; omega
                · rw [xJ, (y12 j (by omega)).2]; omega
              refine z_callVv (pc := 59) (i := mX11_branches) (S := []) [.int (zN (0)), .long (zL (((100 : Int) ^ (H.1 2 1).toNat)))] dX11_worksOdds_59 ml_X11_288 ok_X11_branches rfl sh_0 rfl rfl (Nat.le_of_ble_eq_true rfl) (by have qz := c_X11_branches (d := d) (m := 9) (H := Hx) okHx (lv := 0) (f := 5000) (w := ((100 : Int) ^ (H.1 2 1).toNat)) (by rw [xo 2 (by omega)]; exact ws) (by rw [xo 2 (by omega)]; exact wl) (by rw [xo 2 (by omega), x6]; exact WFT_rn hb0 ws1.1) (by have := und_le (H.1 2) (Hx.1 6); rw [xo 2 (by omega)]; omega) (by have := und_le (H.1 2) (Hx.1 6); rw [xo 2 (by omega)]; omega) (by omega) (by rw [xo 2 (by omega), x6]; exact rk_bgn ws) accx; exact qz) ?_
              intro H5 okH5 hb5
              refine z_vreturn (pc := 62) dX11_worksOdds_62 rfl okH5 ?_
              obtain ⟨b1, b2⟩ := hb5
              rw [xo 2 (by omega), x6, xo 0 (by omega)] at b2
              refine ⟨⟨fun cc k h => ?_, fun j hj => ?_, fun cc k h => ?_⟩, fun k hk5 => ?_, fun c hc => ?_, fun c hc => ?_⟩
              · rw [b1.1 cc k h, xo cc (by omega)]
              · rw [b1.2.2.1 j hj, x6, bgn_hi hj ws1]
              · rw [b1.2.2.2 cc k h, xJ]; exact mo cc k h
              · rw [b2.1 k hk5, xJ, y11 k hk5, Int.zero_add]; rfl
              · rw [b2.2.1 c hc, xJ, (y12 c (by omega)).1, Int.zero_add]; rfl
              · rw [b2.2.2.1 c hc, xJ, (y12 c (by omega)).2, Int.zero_add]; rfl
            · skip
              refine x_aload_n (pc := 28) dX11_worksOdds_28 (List.Mem.head _) ?_
              refine z_getR (pc := 29) (k := 28) (r := 12) dX11_worksOdds_29 lf_X11_58 sh_0 rfl rf_0_28 ?_
              refine x_iload_n (pc := 32) dX11_worksOdds_32 (List.Mem.tail _ (List.Mem.head _)) ?_
              refine z_lconst (pc := 33) 0 dX11_worksOdds_33 rfl ?_
              refine z_last (pc := 34) (j := k) (v := 0) dX11_worksOdds_34 sh_12 rfl (by omega) (by decide) ?_
              have ok9 := okJ okl22 12 k (v := 0) (by decide) (by decide)
              refine x_aload_n (pc := 35) dX11_worksOdds_35 (List.Mem.head _) ?_
              refine z_getR (pc := 36) (k := 29) (r := 13) dX11_worksOdds_36 lf_X11_61 sh_0 rfl rf_0_29 ?_
              refine x_iload_n (pc := 39) dX11_worksOdds_39 (List.Mem.tail _ (List.Mem.head _)) ?_
              refine z_lconst (pc := 40) 0 dX11_worksOdds_40 rfl ?_
              refine z_last (pc := 41) (j := k) (v := 0) dX11_worksOdds_41 sh_13 rfl (by omega) (by decide) ?_
              have ok10 := okJ ok9 13 k (v := 0) (by decide) (by decide)
              refine z_iinc (pc := 42) dX11_worksOdds_42 (List.Mem.tail _ (List.Mem.head _)) (Nat.le_of_ble_eq_true rfl) ?_
              show Ev _ _ _ _ _ [(1, .int (zN ((k : Int) + 1))), (0, .ref 0)] _ _
              refine x_goto (pc := 45) (tgt := 22) dX11_worksOdds_45 (by decide) ?_
              refine x_weaken (L1 := [(0, .ref 0), (1, .int (zN ((((k + 1) : Nat) : Int))))]) (List.forall_mem_cons.mpr ⟨(List.Mem.tail _ (List.Mem.head _)), (List.forall_mem_cons.mpr ⟨(mem_ci (by omega) (List.Mem.head _)), (fun _ h => absurd h List.not_mem_nil)⟩)⟩) ?_
              exact ih22 ((k + 1)) (wJ (wJ Hm 12 k (0)) 13 k (0)) ok10 (by omega) (m1) (fun j h => by rw [wJ1c (by omega), wJ1c (by omega)]; exact y11 j h) (fun j h => by rw [wJ1c (by omega), wJp, wJp, wJ1c (by omega)]; exact if q : j = k then ⟨if_pos q, if_pos q⟩ else ⟨(if_neg q).trans (y12 j (by omega)).1, (if_neg q).trans (y12 j (by omega)).2⟩) (fun cc j h => by rw [wJ1c (by omega), wJ1c (by omega)]; exact mo cc j h) (by omega)
        refine x_weaken (L1 := [(0, .ref 0), (1, .int (zN (((0 : Nat) : Int))))]) (List.forall_mem_cons.mpr ⟨(List.Mem.tail _ (List.Mem.head _)), (List.forall_mem_cons.mpr ⟨(mem_ci (by omega) (List.Mem.head _)), (fun _ h => absurd h List.not_mem_nil)⟩)⟩) ?_
        exact lp22 (8 - 0 + 1) (0) Hl okl2 (by omega) (l1) (fun j h => z11 j (by omega)) (fun j h => absurd h (Nat.not_lt_zero _)) (lo) (Nat.lt_succ_self _)
      · skip
        refine x_aload_n (pc := 7) dX11_worksOdds_7 (List.Mem.head _) ?_
        refine z_getR (pc := 8) (k := 27) (r := 11) dX11_worksOdds_8 lf_X11_54 sh_0 rfl rf_0_27 ?_
        refine x_iload_n (pc := 11) dX11_worksOdds_11 (List.Mem.tail _ (List.Mem.head _)) ?_
        refine z_lconst (pc := 12) 0 dX11_worksOdds_12 rfl ?_
        refine z_last (pc := 13) (j := k) (v := 0) dX11_worksOdds_13 sh_11 rfl (by omega) (by decide) ?_
        have ok11 := okJ okl2 11 k (v := 0) (by decide) (by decide)
        refine z_iinc (pc := 14) dX11_worksOdds_14 (List.Mem.tail _ (List.Mem.head _)) (Nat.le_of_ble_eq_true rfl) ?_
        show Ev _ _ _ _ _ [(1, .int (zN ((k : Int) + 1))), (0, .ref 0)] _ _
        refine x_goto (pc := 17) (tgt := 2) dX11_worksOdds_17 (by decide) ?_
        refine x_weaken (L1 := [(0, .ref 0), (1, .int (zN ((((k + 1) : Nat) : Int))))]) (List.forall_mem_cons.mpr ⟨(List.Mem.tail _ (List.Mem.head _)), (List.forall_mem_cons.mpr ⟨(mem_ci (by omega) (List.Mem.head _)), (fun _ h => absurd h List.not_mem_nil)⟩)⟩) ?_
        exact ih2 ((k + 1)) (wJ Hl 11 k (0)) ok11 (by omega) (l1) (fun j h => by rw [wJp]; exact if q : j = k then if_pos q else (if_neg q).trans (z11 j (by omega))) (fun cc j h => by rw [wJ1c (by omega)]; exact lo cc j h) (by omega)
  refine x_weaken (L1 := [(0, .ref 0), (1, .int (zN (((0 : Nat) : Int))))]) (List.forall_mem_cons.mpr ⟨(List.Mem.tail _ (List.Mem.head _)), (List.forall_mem_cons.mpr ⟨(mem_ci (by omega) (List.Mem.head _)), (fun _ h => absurd h List.not_mem_nil)⟩)⟩) ?_
  exact lp2 (5 - 0 + 1) (0) H ok (by omega) (rfl) (fun j h => absurd h (Nat.not_lt_zero _)) (fun _ _ _ => rfl) (Nat.lt_succ_self _)

theorem c_X11_odds {d : Nat} {H : ZH} (ok : okZ H) {what : Int} (what1 : -2147483648 ≤ what) (what2 : what ≤ 2147483647) (cm : cntOK H 1) (th : H.1 0 0 = 0) (ws : WFS (H.1 2)) (wl : WFL (H.1 2)) (h42 : ∀ j, 42 ≤ j → H.1 6 j = 0) : EvC zX (d + 16) mX11_odds [.ref 0, .int (zN (what))] (eh H) (zPl (fun (r : Int) (H1 : ZH) => ((0 ≤ what ∧ what ≤ 5) ∧ r = (if what = 5 then ((100 : Int) ^ (H.1 2 1).toNat) else (TS (H.1 2) (H.1 0 21) (H.1 0 22) (gK what.toNat))) ∧ WoF H H1) ∨ (¬ (0 ≤ what ∧ what ≤ 5) ∧ r = -2 ∧ H1 = bumpM 0 H))) := by
  show _ ∧ Ev zX mX11_odds (EvC zX (d + 15)) (zPl (fun (r : Int) (H1 : ZH) => ((0 ≤ what ∧ what ≤ 5) ∧ r = (if what = 5 then ((100 : Int) ^ (H.1 2 1).toNat) else (TS (H.1 2) (H.1 0 21) (H.1 0 22) (gK what.toNat))) ∧ WoF H H1) ∨ (¬ (0 ≤ what ∧ what ≤ 5) ∧ r = -2 ∧ H1 = bumpM 0 H))) 0 [(0, .ref 0), (1, .int (zN (what)))] [] (eh H)
  refine ⟨Nat.le_of_ble_eq_true rfl, ?_⟩
  have wsx := ws
  obtain ⟨ws0, ws1, wsC, ws34, ws35, ws36, ws37, ws38, ws39⟩ := wsx
  have pb := p100_bd (n := (H.1 2 1).toNat) (by omega)
  refine x_aload_n (pc := 0) dX11_odds_0 (List.Mem.head _) ?_
  refine z_iconst (pc := 1) dX11_odds_1 ?_
  refine z_putI (pc := 2) (k := 0) dX11_odds_2 lp_X11_1 sh_0 rfl ?_
  have ok1 := okI ok 0 0 (v := 0) (by decide) (by decide)
  rw [wI_same th]
  refine x_iload_n (pc := 5) dX11_odds_5 (List.Mem.tail _ (List.Mem.head _)) ?_
  refine z_i2l (pc := 6) dX11_odds_6 (by omega) (by omega) ?_
  refine z_lconst (pc := 7) 0 dX11_odds_7 rfl ?_
  refine z_ldc2_w (pc := 8) 5 dX11_odds_8 cl_X11_172 (by decide) ?_
  refine z_callSbp (pc := 11) (i := mX11_within) (S := []) [.long (zL (what)), .long (zL (0)), .long (zL (5))] dX11_odds_11 ml_X11_152 ok_X11_within rfl (Or.inr rfl) (Nat.le_of_ble_eq_true rfl) (c_X11_within (d := d + 14) (v := what) (lo := 0) (hi := 5) (v1 := (by omega)) (v2 := (by omega)) (lo1 := (by omega)) (lo2 := (by omega)) (hi1 := (by omega)) (hi2 := (by omega)) (ok := ok)) (fun hc4 ok3 => ?_) (fun hc4 ok3 => ?_)
  · skip
    refine z_if_ne (pc := 14) (tgt := 25) dX11_odds_14 (by decide) (by decide) (by decide) (fun _ => ?_) (fun h => absurd h (by decide))
    refine x_aload_n (pc := 25) dX11_odds_25 (List.Mem.head _) ?_
    refine z_callVv (pc := 26) (i := mX11_worksOdds) (S := []) [] dX11_odds_26 ml_X11_296 ok_X11_worksOdds rfl sh_0 rfl rfl (Nat.le_of_ble_eq_true rfl) (c_X11_worksOdds (d := d) (ok := ok3) (ws := ws) (wl := wl) (h42 := h42)) ?_
    intro Hm ok7 hp8
    obtain ⟨wf, wsm⟩ := hp8
    have e2 := WoF_2 wf
    refine x_iload_n (pc := 29) dX11_odds_29 (List.Mem.tail _ (List.Mem.head _)) ?_
    refine z_iconst (pc := 30) dX11_odds_30 ?_
    refine z_icmp_ne (pc := 31) (tgt := 41) dX11_odds_31 (by decide) (by omega) (by omega) (by decide) (by decide) (fun hb9 => ?_) (fun hb9 => ?_)
    · skip
      have tb := TS_bd (wo := H.1 0 21) (wc := H.1 0 22) ws (gK_ok (H.1 2) what.toNat)
      refine x_aload_n (pc := 41) dX11_odds_41 (List.Mem.head _) ?_
      refine z_getR (pc := 42) (k := 27) (r := 11) dX11_odds_42 lf_X11_54 sh_0 rfl rf_0_27 ?_
      refine x_iload_n (pc := 45) dX11_odds_45 (List.Mem.tail _ (List.Mem.head _)) ?_
      refine z_lald (pc := 46) (j := what.toNat) (v := (TS (H.1 2) (H.1 0 21) (H.1 0 22) (gK what.toNat))) dX11_odds_46 sh_11 (by omega) (by omega) (by decide) (wsm.1 what.toNat (by omega)) ?_
      refine z_lreturn (pc := 47) dX11_odds_47 rfl ok7 (by omega) (by omega) ?_
      first | exact Or.inl ⟨by omega, (by rw [if_pos (by omega), e2]), wf⟩ | exact Or.inl ⟨by omega, (if_neg (by omega)).symm, wf⟩
    · skip
      refine x_aload_n (pc := 34) dX11_odds_34 (List.Mem.head _) ?_
      refine z_callVlp (pc := 35) (i := mX11_allParts) (S := []) [] dX11_odds_35 ml_X11_292 ok_X11_allParts rfl sh_0 rfl rfl (Nat.le_of_ble_eq_true rfl) (c_X11_allParts (d := d + 14) (ok := ok7) (hn8 := (show 0 ≤ Hm.1 2 1 ∧ Hm.1 2 1 ≤ 8 by rw [e2]; exact ws1))) (fun r10a r10b ok11 => ?_)
      refine x_goto (pc := 38) (tgt := 47) dX11_odds_38 (by decide) ?_
      refine z_lreturn (pc := 47) dX11_odds_47 rfl ok11 (by omega) (by omega) ?_
      first | exact Or.inl ⟨by omega, (by rw [if_pos (by omega), e2]), wf⟩ | exact Or.inl ⟨by omega, (if_neg (by omega)).symm, wf⟩
  · skip
    refine z_if_ne (pc := 14) (tgt := 25) dX11_odds_14 (by decide) (by decide) (by decide) (fun h => absurd h (by decide)) (fun _ => ?_)
    refine x_aload_n (pc := 17) dX11_odds_17 (List.Mem.head _) ?_
    refine z_bipush (pc := 18) dX11_odds_18 bp_m2 ?_
    refine z_callVip (pc := 20) (i := mX11_no) (S := []) [.int (zN ((-2)))] dX11_odds_20 ml_X11_89 ok_X11_no rfl sh_0 rfl (Or.inl rfl) (Nat.le_of_ble_eq_true rfl) (c_X11_no (d := d + 14) (code := ((-2))) (code1 := (by omega)) (code2 := (by omega)) (ok := ok3) (cn := (by first | assumption | omega))) (fun r13a r13b ok14 => ?_)
    show Ev _ _ _ _ _ _ _ (eh (wI H 1 ((refIx ((-2)))) (H.1 1 (refIx ((-2))) + 1)))
    refine z_i2l (pc := 23) dX11_odds_23 (by omega) (by omega) ?_
    refine z_lreturn (pc := 24) dX11_odds_24 rfl ok14 (by omega) (by omega) ?_
    exact Or.inr ⟨by omega, rfl, rfl⟩

theorem c_X11_overIf {d : Nat} {H : ZH} (ok : okZ H) {t : Nat} (ht : t < 256) (ws : WFS (H.1 2)) (wl : WFL (H.1 2)) (h42 : ∀ j, 42 ≤ j → H.1 6 j = 0) : EvC zX (d + 16) mX11_overIf [.ref 0, .int (zN ((t : Int)))] (eh H) (zPl (fun (r : Int) (H1 : ZH) => r = (TS (tr2 (H.1 2) t) (H.1 0 21) (H.1 0 22) (gK 0)) ∧ WoF H H1)) := by
  show _ ∧ Ev zX mX11_overIf (EvC zX (d + 15)) (zPl (fun (r : Int) (H1 : ZH) => r = (TS (tr2 (H.1 2) t) (H.1 0 21) (H.1 0 22) (gK 0)) ∧ WoF H H1)) 0 [(0, .ref 0), (1, .int (zN ((t : Int))))] [] (eh H)
  refine ⟨Nat.le_of_ble_eq_true rfl, ?_⟩
  have wsx := ws
  obtain ⟨ws0, ws1, wsC, ws34, ws35, ws36, ws37, ws38, ws39⟩ := wsx
  have xb : (H.1 2 34).toNat ^^^ t < 2 ^ 8 := Nat.xor_lt_two_pow (by omega) (by omega)
  have wt2 := tr2_ws ws ht
  have wl2 : WFL (tr2 (H.1 2) t) := WFL_up wl (by omega)
  refine x_aload_n (pc := 0) dX11_overIf_0 (List.Mem.head _) ?_
  refine z_getR (pc := 1) (k := 2) (r := 2) dX11_overIf_1 lf_X11_17 sh_0 rfl rf_0_2 ?_
  refine z_bipush (pc := 4) dX11_overIf_4 bp_34 ?_
  have rd1 := ok.1 2 34
  refine z_iald (pc := 6) (j := 34) (v := H.1 2 34) dX11_overIf_6 sh_2 rfl (Nat.le_of_ble_eq_true rfl) (by decide) rfl ?_
  refine x_istore_n (pc := 7) dX11_overIf_7 (Nat.le_of_ble_eq_true rfl) ?_
  show Ev _ _ _ _ _ [(2, .int (zN ((H.1 2 34)))), (0, .ref 0), (1, .int (zN ((t : Int))))] _ _
  refine x_aload_n (pc := 8) dX11_overIf_8 (List.Mem.tail _ (List.Mem.head _)) ?_
  refine z_getR (pc := 9) (k := 2) (r := 2) dX11_overIf_9 lf_X11_17 sh_0 rfl rf_0_2 ?_
  refine z_bipush (pc := 12) dX11_overIf_12 bp_34 ?_
  refine x_dup2 (pc := 14) dX11_overIf_14 rfl rfl ?_
  have rd2 := ok.1 2 34
  refine z_iald (pc := 15) (j := 34) (v := H.1 2 34) dX11_overIf_15 sh_2 rfl (Nat.le_of_ble_eq_true rfl) (by decide) rfl ?_
  refine x_iload_n (pc := 16) dX11_overIf_16 (List.Mem.tail _ (List.Mem.tail _ (List.Mem.head _))) ?_
  refine z_ixor (pc := 17) (m := (H.1 2 34).toNat) (n := t) dX11_overIf_17 (by omega) rfl ?_
  refine z_iast (pc := 18) (j := 34) (v := ((((H.1 2 34).toNat) ^^^ (t) : Nat) : Int)) dX11_overIf_18 sh_2 rfl (Nat.le_of_ble_eq_true rfl) (by decide) ?_
  have ok3 := okI ok 2 34 (v := ((((H.1 2 34).toNat) ^^^ (t) : Nat) : Int)) (by omega) (by omega)
  obtain ⟨Hx, hHx⟩ : ∃ Hx, Hx = (wI H 2 34 (((((H.1 2 34).toNat) ^^^ (t) : Nat) : Int))) := ⟨_, rfl⟩
  rw [← hHx]
  have okHx : okZ Hx := by rw [hHx]; exact ok3
  have x2 : Hx.1 2 = tr2 (H.1 2) t := by rw [hHx]; exact wI_up _ _ _ _
  have xo : ∀ cc j, ¬ (cc = 2 ∧ j = 34) → Hx.1 cc j = H.1 cc j := fun cc j h => by rw [hHx, wIg]; exact if_neg h
  have xJ : Hx.2 = H.2 := by rw [hHx]; rfl
  refine x_aload_n (pc := 19) dX11_overIf_19 (List.Mem.tail _ (List.Mem.head _)) ?_
  refine z_callVv (pc := 20) (i := mX11_worksOdds) (S := []) [] dX11_overIf_20 ml_X11_296 ok_X11_worksOdds rfl sh_0 rfl rfl (Nat.le_of_ble_eq_true rfl) (c_X11_worksOdds (d := d) (ok := okHx) (ws := (by rw [x2]; exact wt2)) (wl := (by rw [x2]; exact wl2)) (h42 := (fun j hj => by rw [xo 6 j (by omega)]; exact h42 j hj))) ?_
  intro Hm ok5 hp6
  obtain ⟨wf, wsm⟩ := hp6
  rw [x2, xo 0 21 (by omega), xo 0 22 (by omega)] at wsm
  have tb := TS_bd (wo := H.1 0 21) (wc := H.1 0 22) wt2 (gK_ok (tr2 (H.1 2) t) 0)
  have e1t : (tr2 (H.1 2) t) 1 = H.1 2 1 := upA_ne (by omega)
  rw [e1t] at tb
  have pb := p100_bd (n := (H.1 2 1).toNat) (by omega)
  refine x_aload_n (pc := 23) dX11_overIf_23 (List.Mem.tail _ (List.Mem.head _)) ?_
  refine z_getR (pc := 24) (k := 2) (r := 2) dX11_overIf_24 lf_X11_17 sh_0 rfl rf_0_2 ?_
  refine z_bipush (pc := 27) dX11_overIf_27 bp_34 ?_
  refine x_iload_n (pc := 29) dX11_overIf_29 (List.Mem.head _) ?_
  refine z_iast (pc := 30) (j := 34) (v := (H.1 2 34)) dX11_overIf_30 sh_2 rfl (Nat.le_of_ble_eq_true rfl) (by decide) ?_
  have ok7 := okI ok5 2 34 (v := (H.1 2 34)) (by omega) (by omega)
  refine x_aload_n (pc := 31) dX11_overIf_31 (List.Mem.tail _ (List.Mem.head _)) ?_
  refine z_getR (pc := 32) (k := 27) (r := 11) dX11_overIf_32 lf_X11_54 sh_0 rfl rf_0_27 ?_
  refine z_iconst (pc := 35) dX11_overIf_35 ?_
  refine z_lald (pc := 36) (j := 0) (v := (TS (tr2 (H.1 2) t) (H.1 0 21) (H.1 0 22) (gK 0))) dX11_overIf_36 sh_11 rfl (Nat.le_of_ble_eq_true rfl) (by decide) (wsm.1 0 (by omega)) ?_
  refine z_lreturn (pc := 37) dX11_overIf_37 rfl ok7 (by omega) (by omega) ?_
  refine ⟨rfl, fun cc k h => ?_, fun j hj => ?_, fun cc k h => ?_⟩
  · rw [wIg]
    by_cases q : cc = 2 ∧ k = 34
    · rw [if_pos q, q.1, q.2]
    · rw [if_neg q, wf.1 cc k h, xo cc k q]
  · rw [wI1c (by omega)]; exact wf.2.1 j hj
  · exact (wf.2.2 cc k h).trans (congrFun (congrFun xJ cc) k)

theorem c_X11_helps {d : Nat} {H : ZH} (ok : okZ H) {t : Int} (t1 : -2147483648 ≤ t) (t2 : t ≤ 2147483647) (cm : cntOK H 1) (th : H.1 0 0 = 0) (ws : WFS (H.1 2)) (wl : WFL (H.1 2)) (h42 : ∀ j, 42 ≤ j → H.1 6 j = 0) : EvC zX (d + 17) mX11_helps [.ref 0, .int (zN (t))] (eh H) (zPl (fun (r : Int) (H1 : ZH) => ((0 ≤ t ∧ t ≤ 7) ∧ r = (TS (tr2 (H.1 2) (2 ^ t.toNat)) (H.1 0 21) (H.1 0 22) (gK 0) - (TS (H.1 2) (H.1 0 21) (H.1 0 22) (gK 0))) ∧ WoF H H1) ∨ (¬ (0 ≤ t ∧ t ≤ 7) ∧ r = -2 ∧ H1 = bumpM 0 H))) := by
  show _ ∧ Ev zX mX11_helps (EvC zX (d + 16)) (zPl (fun (r : Int) (H1 : ZH) => ((0 ≤ t ∧ t ≤ 7) ∧ r = (TS (tr2 (H.1 2) (2 ^ t.toNat)) (H.1 0 21) (H.1 0 22) (gK 0) - (TS (H.1 2) (H.1 0 21) (H.1 0 22) (gK 0))) ∧ WoF H H1) ∨ (¬ (0 ≤ t ∧ t ≤ 7) ∧ r = -2 ∧ H1 = bumpM 0 H))) 0 [(0, .ref 0), (1, .int (zN (t)))] [] (eh H)
  refine ⟨Nat.le_of_ble_eq_true rfl, ?_⟩
  have wsx := ws
  obtain ⟨ws0, ws1, wsC, ws34, ws35, ws36, ws37, ws38, ws39⟩ := wsx
  have pb := p100_bd (n := (H.1 2 1).toNat) (by omega)
  refine x_aload_n (pc := 0) dX11_helps_0 (List.Mem.head _) ?_
  refine z_iconst (pc := 1) dX11_helps_1 ?_
  refine z_putI (pc := 2) (k := 0) dX11_helps_2 lp_X11_1 sh_0 rfl ?_
  have ok1 := okI ok 0 0 (v := 0) (by decide) (by decide)
  rw [wI_same th]
  refine x_iload_n (pc := 5) dX11_helps_5 (List.Mem.tail _ (List.Mem.head _)) ?_
  refine z_i2l (pc := 6) dX11_helps_6 (by omega) (by omega) ?_
  refine z_lconst (pc := 7) 0 dX11_helps_7 rfl ?_
  refine z_ldc2_w (pc := 8) 7 dX11_helps_8 cl_X11_215 (by decide) ?_
  refine z_callSbp (pc := 11) (i := mX11_within) (S := []) [.long (zL (t)), .long (zL (0)), .long (zL (7))] dX11_helps_11 ml_X11_152 ok_X11_within rfl (Or.inr rfl) (Nat.le_of_ble_eq_true rfl) (c_X11_within (d := d + 15) (v := t) (lo := 0) (hi := 7) (v1 := (by omega)) (v2 := (by omega)) (lo1 := (by omega)) (lo2 := (by omega)) (hi1 := (by omega)) (hi2 := (by omega)) (ok := ok)) (fun hc4 ok3 => ?_) (fun hc4 ok3 => ?_)
  · skip
    refine z_if_ne (pc := 14) (tgt := 25) dX11_helps_14 (by decide) (by decide) (by decide) (fun _ => ?_) (fun h => absurd h (by decide))
    have hpw : 2 ^ t.toNat < 256 := Nat.lt_of_lt_of_le (Nat.pow_lt_pow_right (by decide) (by omega : t.toNat < 8)) (Nat.le_refl _)
    refine x_aload_n (pc := 25) dX11_helps_25 (List.Mem.head _) ?_
    refine z_iconst (pc := 26) dX11_helps_26 ?_
    refine x_iload_n (pc := 27) dX11_helps_27 (List.Mem.tail _ (List.Mem.head _)) ?_
    refine z_ishl1 (pc := 28) (k := t.toNat) dX11_helps_28 (by omega) (by omega) ?_
    refine z_callVl (pc := 29) (i := mX11_overIf) (S := []) [.int (zN (((2 ^ t.toNat : Nat) : Int)))] dX11_helps_29 ml_X11_299 ok_X11_overIf rfl sh_0 rfl rfl (Nat.le_of_ble_eq_true rfl) (c_X11_overIf (d := d) (t := (2 ^ t.toNat)) (ht := hpw) (ok := ok3) (ws := ws) (wl := wl) (h42 := h42)) ?_
    intro r6 Hm r6a r6b ok7 hp8
    obtain ⟨er, wf⟩ := hp8
    have e2 := WoF_2 wf
    have e21 := wf.1 0 21 (by omega)
    have e22 := wf.1 0 22 (by omega)
    have tb := TS_bd (wo := H.1 0 21) (wc := H.1 0 22) (tr2_ws ws hpw) (gK_ok (tr2 (H.1 2) (2 ^ t.toNat)) 0)
    have e1t : (tr2 (H.1 2) (2 ^ t.toNat)) 1 = H.1 2 1 := upA_ne (by omega)
    rw [e1t] at tb
    rw [← er] at tb
    refine x_lstore_n (pc := 32) dX11_helps_32 (Nat.le_of_ble_eq_true rfl) ?_
    show Ev _ _ _ _ _ [(2, .long (zL (r6))), (0, .ref 0), (1, .int (zN (t)))] _ _
    refine x_lload_n (pc := 33) dX11_helps_33 (List.Mem.head _) ?_
    refine x_aload_n (pc := 34) dX11_helps_34 (List.Mem.tail _ (List.Mem.head _)) ?_
    refine z_iconst (pc := 35) dX11_helps_35 ?_
    refine z_callVl (pc := 36) (i := mX11_overIf) (S := [.long (zL (r6))]) [.int (zN (0))] dX11_helps_36 ml_X11_299 ok_X11_overIf rfl sh_0 rfl rfl (Nat.le_of_ble_eq_true rfl) (c_X11_overIf (d := d) (t := 0) (ht := (by omega)) (ok := ok7) (ws := (show WFS (Hm.1 2) by rw [e2]; exact ws)) (wl := (show WFL (Hm.1 2) by rw [e2]; exact wl)) (h42 := wf.2.1)) ?_
    intro r9 H3 r9a r9b ok10 hp11
    obtain ⟨er2, wf2⟩ := hp11
    rw [e2, e21, e22, tr2_0 ws34.1] at er2
    have tb2 := TS_bd (wo := H.1 0 21) (wc := H.1 0 22) ws (gK_ok (H.1 2) 0)
    rw [← er2] at tb2
    have wf3 := WoF_tr wf wf2
    refine z_lsub (pc := 39) dX11_helps_39 ?_
    refine z_lreturn (pc := 40) dX11_helps_40 rfl ok10 (by omega) (by omega) ?_
    exact Or.inl ⟨by omega, by rw [er, er2], wf3⟩
  · skip
    refine z_if_ne (pc := 14) (tgt := 25) dX11_helps_14 (by decide) (by decide) (by decide) (fun h => absurd h (by decide)) (fun _ => ?_)
    refine x_aload_n (pc := 17) dX11_helps_17 (List.Mem.head _) ?_
    refine z_bipush (pc := 18) dX11_helps_18 bp_m2 ?_
    refine z_callVip (pc := 20) (i := mX11_no) (S := []) [.int (zN ((-2)))] dX11_helps_20 ml_X11_89 ok_X11_no rfl sh_0 rfl (Or.inl rfl) (Nat.le_of_ble_eq_true rfl) (c_X11_no (d := d + 15) (code := ((-2))) (code1 := (by omega)) (code2 := (by omega)) (ok := ok3) (cn := (by first | assumption | omega))) (fun r13a r13b ok14 => ?_)
    show Ev _ _ _ _ _ _ _ (eh (wI H 1 ((refIx ((-2)))) (H.1 1 (refIx ((-2))) + 1)))
    refine z_i2l (pc := 23) dX11_helps_23 (by omega) (by omega) ?_
    refine z_lreturn (pc := 24) dX11_helps_24 rfl ok14 (by omega) (by omega) ?_
    exact Or.inr ⟨by omega, rfl, rfl⟩

theorem c_X11_bitsOf {d : Nat} {H : ZH} (ok : okZ H) {s : Nat} (hs : s < 256) : EvC zX (d + 1) mX11_bitsOf [.int (zN ((s : Int)))] (eh H) (zPi (fun (rz : Int) (Hz : ZH) => rz = ((bcn s 8 : Int)) ∧ Hz = H)) := by
  show _ ∧ Ev zX mX11_bitsOf (EvC zX d) (zPi (fun (rz : Int) (Hz : ZH) => rz = ((bcn s 8 : Int)) ∧ Hz = H)) 0 [(0, .int (zN ((s : Int))))] [] (eh H)
  refine ⟨Nat.le_of_ble_eq_true rfl, ?_⟩
  refine z_iconst (pc := 0) dX11_bitsOf_0 ?_
  refine x_istore_n (pc := 1) dX11_bitsOf_1 (Nat.le_of_ble_eq_true rfl) ?_
  show Ev _ _ _ _ _ [(1, .int (zN (0))), (0, .int (zN ((s : Int))))] _ _
  refine z_iconst (pc := 2) dX11_bitsOf_2 ?_
  refine x_istore_n (pc := 3) dX11_bitsOf_3 (Nat.le_of_ble_eq_true rfl) ?_
  show Ev _ _ _ _ _ [(2, .int (zN (0))), (1, .int (zN (0))), (0, .int (zN ((s : Int))))] _ _
  have lp4 : ∀ (nF : Nat) (k : Nat), (k ≤ 8) → 8 - k < nF → Ev zX mX11_bitsOf (EvC zX d) (zPi (fun (rz : Int) (Hz : ZH) => rz = ((bcn s 8 : Int)) ∧ Hz = H)) 4 [(0, .int (zN ((s : Int)))), (1, .int (zN (((bcn s k : Nat) : Int)))), (2, .int (zN ((k : Int))))] [] (eh H) := by
    intro nF
    induction nF with
    | zero => intro k hk hm; exact absurd hm (Nat.not_lt_zero _)
    | succ nF ih4 =>
      intro k hk hm
      have bl := bcn_le s k
      refine x_iload_n (pc := 4) dX11_bitsOf_4 (List.Mem.tail _ (List.Mem.tail _ (List.Mem.head _))) ?_
      refine z_bipush (pc := 5) dX11_bitsOf_5 bp_8 ?_
      refine z_icmp_ge (pc := 7) (tgt := 24) dX11_bitsOf_7 (by decide) (by omega) (by omega) (by decide) (by decide) (fun hb1 => ?_) (fun hb1 => ?_)
      · skip
        refine x_iload_n (pc := 24) dX11_bitsOf_24 (List.Mem.tail _ (List.Mem.head _)) ?_
        refine z_ireturn (pc := 25) dX11_bitsOf_25 rfl (Or.inl rfl) ok (by omega) (by omega) ?_
        exact ⟨by rw [show 8 = k by omega], rfl⟩
      · skip
        refine x_iload_n (pc := 10) dX11_bitsOf_10 (List.Mem.tail _ (List.Mem.head _)) ?_
        refine x_iload_n (pc := 11) dX11_bitsOf_11 (List.Mem.head _) ?_
        refine x_iload_n (pc := 12) dX11_bitsOf_12 (List.Mem.tail _ (List.Mem.tail _ (List.Mem.head _))) ?_
        refine z_ishr (pc := 13) (k := k) dX11_bitsOf_13 rfl (by omega) (by omega) (by omega) ?_
        refine z_iconst (pc := 14) dX11_bitsOf_14 ?_
        refine z_iand1 (pc := 15) dX11_bitsOf_15 ?_
        refine z_iadd (pc := 16) dX11_bitsOf_16 ?_
        refine x_istore_n (pc := 17) dX11_bitsOf_17 (Nat.le_of_ble_eq_true rfl) ?_
        show Ev _ _ _ _ _ [(1, .int (zN ((((bcn s k : Nat) : Int) + (((s : Int) / 2 ^ (k)) % 2))))), (0, .int (zN ((s : Int)))), (2, .int (zN ((k : Int))))] _ _
        refine z_iinc (pc := 18) dX11_bitsOf_18 (List.Mem.tail _ (List.Mem.tail _ (List.Mem.head _))) (Nat.le_of_ble_eq_true rfl) ?_
        show Ev _ _ _ _ _ [(2, .int (zN ((k : Int) + 1))), (1, .int (zN ((((bcn s k : Nat) : Int) + (((s : Int) / 2 ^ (k)) % 2))))), (0, .int (zN ((s : Int))))] _ _
        refine x_goto (pc := 21) (tgt := 4) dX11_bitsOf_21 (by decide) ?_
        refine x_weaken (L1 := [(0, .int (zN ((s : Int)))), (1, .int (zN (((bcn s (k + 1) : Nat) : Int)))), (2, .int (zN ((((k + 1) : Nat) : Int))))]) (List.forall_mem_cons.mpr ⟨(List.Mem.tail _ (List.Mem.tail _ (List.Mem.head _))), (List.forall_mem_cons.mpr ⟨(mem_ci (by show ((bcn s k + s / 2 ^ k % 2 : Nat) : Int) = _; push_cast; rfl) (List.Mem.tail _ (List.Mem.head _))), (List.forall_mem_cons.mpr ⟨(mem_ci (by omega) (List.Mem.head _)), (fun _ h => absurd h List.not_mem_nil)⟩)⟩)⟩) ?_
        exact ih4 ((k + 1)) (by omega) (by omega)
  refine x_weaken (L1 := [(0, .int (zN ((s : Int)))), (1, .int (zN (((bcn s 0 : Nat) : Int)))), (2, .int (zN (((0 : Nat) : Int))))]) (List.forall_mem_cons.mpr ⟨(List.Mem.tail _ (List.Mem.tail _ (List.Mem.head _))), (List.forall_mem_cons.mpr ⟨(mem_ci (rfl) (List.Mem.tail _ (List.Mem.head _))), (List.forall_mem_cons.mpr ⟨(mem_ci (by omega) (List.Mem.head _)), (fun _ h => absurd h List.not_mem_nil)⟩)⟩)⟩) ?_
  exact lp4 (8 - 0 + 1) (0) (by omega) (Nat.lt_succ_self _)

theorem c_X11_best {d : Nat} {H : ZH} (ok : okZ H) {kk : Int} (kk1 : -2147483648 ≤ kk) (kk2 : kk ≤ 2147483647) (cm : cntOK H 1) (th : H.1 0 0 = 0) (ws : WFS (H.1 2)) (wl : WFL (H.1 2)) (h42 : ∀ j, 42 ≤ j → H.1 6 j = 0) : EvC zX (d + 17) mX11_best [.ref 0, .int (zN (kk))] (eh H) (zPi (fun (r : Int) (H1 : ZH) => ((0 ≤ kk ∧ kk ≤ 3) ∧ r = (bsF (fun s => TS (tr2 (H.1 2) s) (H.1 0 21) (H.1 0 22) (gK 0)) kk 256).1 ∧ WoF H H1) ∨ (¬ (0 ≤ kk ∧ kk ≤ 3) ∧ r = -3 ∧ H1 = bumpM 1 H))) := by
  show _ ∧ Ev zX mX11_best (EvC zX (d + 16)) (zPi (fun (r : Int) (H1 : ZH) => ((0 ≤ kk ∧ kk ≤ 3) ∧ r = (bsF (fun s => TS (tr2 (H.1 2) s) (H.1 0 21) (H.1 0 22) (gK 0)) kk 256).1 ∧ WoF H H1) ∨ (¬ (0 ≤ kk ∧ kk ≤ 3) ∧ r = -3 ∧ H1 = bumpM 1 H))) 0 [(0, .ref 0), (1, .int (zN (kk)))] [] (eh H)
  refine ⟨Nat.le_of_ble_eq_true rfl, ?_⟩
  have wsx := ws
  obtain ⟨ws0, ws1, wsC, ws34, ws35, ws36, ws37, ws38, ws39⟩ := wsx
  have pb := p100_bd (n := (H.1 2 1).toNat) (by omega)
  have vb : ∀ s, s < 256 → 0 ≤ (fun s => TS (tr2 (H.1 2) s) (H.1 0 21) (H.1 0 22) (gK 0)) s ∧ (fun s => TS (tr2 (H.1 2) s) (H.1 0 21) (H.1 0 22) (gK 0)) s ≤ 162 * 100 ^ (H.1 2 1).toNat := fun s hs => by
    have tb := TS_bd (wo := H.1 0 21) (wc := H.1 0 22) (tr2_ws ws hs) (gK_ok (tr2 (H.1 2) s) 0)
    rw [show (tr2 (H.1 2) s) 1 = H.1 2 1 from upA_ne (by omega)] at tb
    exact tb
  refine x_aload_n (pc := 0) dX11_best_0 (List.Mem.head _) ?_
  refine z_iconst (pc := 1) dX11_best_1 ?_
  refine z_putI (pc := 2) (k := 0) dX11_best_2 lp_X11_1 sh_0 rfl ?_
  have ok1 := okI ok 0 0 (v := 0) (by decide) (by decide)
  rw [wI_same th]
  refine x_iload_n (pc := 5) dX11_best_5 (List.Mem.tail _ (List.Mem.head _)) ?_
  refine z_i2l (pc := 6) dX11_best_6 (by omega) (by omega) ?_
  refine z_lconst (pc := 7) 0 dX11_best_7 rfl ?_
  refine z_ldc2_w (pc := 8) 3 dX11_best_8 cl_X11_213 (by decide) ?_
  refine z_callSbp (pc := 11) (i := mX11_within) (S := []) [.long (zL (kk)), .long (zL (0)), .long (zL (3))] dX11_best_11 ml_X11_152 ok_X11_within rfl (Or.inr rfl) (Nat.le_of_ble_eq_true rfl) (c_X11_within (d := d + 15) (v := kk) (lo := 0) (hi := 3) (v1 := (by omega)) (v2 := (by omega)) (lo1 := (by omega)) (lo2 := (by omega)) (hi1 := (by omega)) (hi2 := (by omega)) (ok := ok)) (fun hc4 ok3 => ?_) (fun hc4 ok3 => ?_)
  · skip
    refine z_if_ne (pc := 14) (tgt := 24) dX11_best_14 (by decide) (by decide) (by decide) (fun _ => ?_) (fun h => absurd h (by decide))
    refine z_iconst (pc := 24) dX11_best_24 ?_
    refine x_istore_n (pc := 25) dX11_best_25 (Nat.le_of_ble_eq_true rfl) ?_
    show Ev _ _ _ _ _ [(2, .int (zN ((-1)))), (0, .ref 0), (1, .int (zN (kk)))] _ _
    refine z_lconst (pc := 26) 0 dX11_best_26 rfl ?_
    refine x_lstore_n (pc := 27) dX11_best_27 (Nat.le_of_ble_eq_true rfl) ?_
    show Ev _ _ _ _ _ [(3, .long (zL (0))), (2, .int (zN ((-1)))), (0, .ref 0), (1, .int (zN (kk)))] _ _
    refine z_iconst (pc := 28) dX11_best_28 ?_
    refine x_istore (pc := 29) dX11_best_29 (Nat.le_of_ble_eq_true rfl) ?_
    show Ev _ _ _ _ _ [(5, .int (zN (0))), (3, .long (zL (0))), (2, .int (zN ((-1)))), (0, .ref 0), (1, .int (zN (kk)))] _ _
    have lp31 : ∀ (nF : Nat) (n : Nat) (Hm : ZH), okZ Hm → (n ≤ 256) → ((∀ cc k, ¬ (cc = 6 ∨ cc = 7 ∨ cc = 8 ∨ cc = 9 ∨ cc = 10 ∨ (cc = 0 ∧ (k = 26 ∨ k = 23))) → Hm.1 cc k = H.1 cc k) ∧ (∀ j, 42 ≤ j → Hm.1 6 j = 0) ∧ ∀ cc k, ¬ (cc = 11 ∨ cc = 12 ∨ cc = 13) → Hm.2 cc k = H.2 cc k) → 256 - n < nF → Ev zX mX11_best (EvC zX (d + 16)) (zPi (fun (r : Int) (H1 : ZH) => ((0 ≤ kk ∧ kk ≤ 3) ∧ r = (bsF (fun s => TS (tr2 (H.1 2) s) (H.1 0 21) (H.1 0 22) (gK 0)) kk 256).1 ∧ WoF H H1) ∨ (¬ (0 ≤ kk ∧ kk ≤ 3) ∧ r = -3 ∧ H1 = bumpM 1 H))) 31 [(0, .ref 0), (1, .int (zN (kk))), (2, .int (zN ((bsF (fun s => TS (tr2 (H.1 2) s) (H.1 0 21) (H.1 0 22) (gK 0)) kk n).1))), (3, .long (zL ((bsF (fun s => TS (tr2 (H.1 2) s) (H.1 0 21) (H.1 0 22) (gK 0)) kk n).2))), (5, .int (zN ((n : Int))))] [] (eh Hm) := by
      intro nF
      induction nF with
      | zero => intro n Hm okl31 hn wfm hm; exact absurd hm (Nat.not_lt_zero _)
      | succ nF ih31 =>
        intro n Hm okl31 hn wfm hm
        have wf : WoF H Hm := wfm
        have e2 := WoF_2 wf
        have e21 := wf.1 0 21 (by omega)
        have e22 := wf.1 0 22 (by omega)
        have bb := bsF_bd (k := kk) vb (by omega) n hn
        have vbn := fun h => vb n h
        refine x_iload (pc := 31) dX11_best_31 (List.Mem.tail _ (List.Mem.tail _ (List.Mem.tail _ (List.Mem.tail _ (List.Mem.head _))))) ?_
        refine z_sipush (pc := 33) dX11_best_33 sp_256 ?_
        refine z_icmp_ge (pc := 36) (tgt := 86) dX11_best_36 (by decide) (by omega) (by omega) (by decide) (by decide) (fun hb6 => ?_) (fun hb6 => ?_)
        · skip
          refine x_iload_n (pc := 86) dX11_best_86 (List.Mem.tail _ (List.Mem.tail _ (List.Mem.head _))) ?_
          refine z_ireturn (pc := 87) dX11_best_87 rfl (Or.inl rfl) okl31 (by omega) (by omega) ?_
          exact Or.inl ⟨by omega, by rw [show 256 = n by omega], wf⟩
        · skip
          refine x_iload (pc := 39) dX11_best_39 (List.Mem.tail _ (List.Mem.tail _ (List.Mem.tail _ (List.Mem.tail _ (List.Mem.head _))))) ?_
          refine z_callSip (pc := 41) (i := mX11_bitsOf) (S := []) [.int (zN ((n : Int)))] dX11_best_41 ml_X11_303 ok_X11_bitsOf rfl (Or.inl rfl) (Nat.le_of_ble_eq_true rfl) (c_X11_bitsOf (d := d + 15) (s := n) (hs := (by omega)) (ok := okl31)) (fun r7a r7b ok8 => ?_)
          refine x_iload_n (pc := 44) dX11_best_44 (List.Mem.tail _ (List.Mem.head _)) ?_
          refine z_icmp_eq (pc := 45) (tgt := 51) dX11_best_45 (by decide) (by omega) (by omega) (by omega) (by omega) (fun hb9 => ?_) (fun hb9 => ?_)
          · skip
            refine x_aload_n (pc := 51) dX11_best_51 (List.Mem.head _) ?_
            refine x_iload (pc := 52) dX11_best_52 (List.Mem.tail _ (List.Mem.tail _ (List.Mem.tail _ (List.Mem.tail _ (List.Mem.head _))))) ?_
            refine z_callVl (pc := 54) (i := mX11_overIf) (S := []) [.int (zN ((n : Int)))] dX11_best_54 ml_X11_299 ok_X11_overIf rfl sh_0 rfl rfl (Nat.le_of_ble_eq_true rfl) (c_X11_overIf (d := d) (t := n) (ht := (by omega)) (ok := ok8) (ws := (show WFS (Hm.1 2) by rw [e2]; exact ws)) (wl := (show WFL (Hm.1 2) by rw [e2]; exact wl)) (h42 := wf.2.1)) ?_
            intro r10 H3 r10a r10b ok11 hp12
            obtain ⟨er, wf2⟩ := hp12
            rw [e2, e21, e22] at er
            have wf3 := WoF_tr wf wf2
            have er2 : r10 = (fun s => TS (tr2 (H.1 2) s) (H.1 0 21) (H.1 0 22) (gK 0)) n := er
            have vbn2 := vb n (by omega)
            rw [← er2] at vbn2
            refine x_lstore (pc := 57) dX11_best_57 (Nat.le_of_ble_eq_true rfl) ?_
            show Ev _ _ _ _ _ [(6, .long (zL (r10))), (0, .ref 0), (1, .int (zN (kk))), (2, .int (zN ((bsF (fun s => TS (tr2 (H.1 2) s) (H.1 0 21) (H.1 0 22) (gK 0)) kk n).1))), (3, .long (zL ((bsF (fun s => TS (tr2 (H.1 2) s) (H.1 0 21) (H.1 0 22) (gK 0)) kk n).2))), (5, .int (zN ((n : Int))))] _ _
            refine x_iload_n (pc := 59) dX11_best_59 (List.Mem.tail _ (List.Mem.tail _ (List.Mem.tail _ (List.Mem.head _)))) ?_
            refine z_iconst (pc := 60) dX11_best_60 ?_
            refine z_icmp_eq (pc := 61) (tgt := 74) dX11_best_61 (by decide) (by omega) (by omega) (by decide) (by decide) (fun hb13 => ?_) (fun hb13 => ?_)
            · skip
              refine x_iload (pc := 74) dX11_best_74 (List.Mem.tail _ (List.Mem.tail _ (List.Mem.tail _ (List.Mem.tail _ (List.Mem.tail _ (List.Mem.head _)))))) ?_
              refine x_istore_n (pc := 76) dX11_best_76 (Nat.le_of_ble_eq_true rfl) ?_
              show Ev _ _ _ _ _ [(2, .int (zN ((n : Int)))), (6, .long (zL (r10))), (0, .ref 0), (1, .int (zN (kk))), (3, .long (zL ((bsF (fun s => TS (tr2 (H.1 2) s) (H.1 0 21) (H.1 0 22) (gK 0)) kk n).2))), (5, .int (zN ((n : Int))))] _ _
              refine x_lload (pc := 77) dX11_best_77 (List.Mem.tail _ (List.Mem.head _)) ?_
              refine x_lstore_n (pc := 79) dX11_best_79 (Nat.le_of_ble_eq_true rfl) ?_
              show Ev _ _ _ _ _ [(3, .long (zL (r10))), (2, .int (zN ((n : Int)))), (6, .long (zL (r10))), (0, .ref 0), (1, .int (zN (kk))), (5, .int (zN ((n : Int))))] _ _
              refine z_iinc (pc := 80) dX11_best_80 (List.Mem.tail _ (List.Mem.tail _ (List.Mem.tail _ (List.Mem.tail _ (List.Mem.tail _ (List.Mem.head _)))))) (Nat.le_of_ble_eq_true rfl) ?_
              show Ev _ _ _ _ _ [(5, .int (zN ((n : Int) + 1))), (3, .long (zL (r10))), (2, .int (zN ((n : Int)))), (6, .long (zL (r10))), (0, .ref 0), (1, .int (zN (kk)))] _ _
              refine x_goto (pc := 83) (tgt := 31) dX11_best_83 (by decide) ?_
              refine x_weaken (L1 := [(0, .ref 0), (1, .int (zN (kk))), (2, .int (zN ((bsF (fun s => TS (tr2 (H.1 2) s) (H.1 0 21) (H.1 0 22) (gK 0)) kk (n + 1)).1))), (3, .long (zL ((bsF (fun s => TS (tr2 (H.1 2) s) (H.1 0 21) (H.1 0 22) (gK 0)) kk (n + 1)).2))), (5, .int (zN ((((n + 1) : Nat) : Int))))]) (List.forall_mem_cons.mpr ⟨(List.Mem.tail _ (List.Mem.tail _ (List.Mem.tail _ (List.Mem.tail _ (List.Mem.head _))))), (List.forall_mem_cons.mpr ⟨(List.Mem.tail _ (List.Mem.tail _ (List.Mem.tail _ (List.Mem.tail _ (List.Mem.tail _ (List.Mem.head _)))))), (List.forall_mem_cons.mpr ⟨(mem_ci (by show (if (bcn n 8 : Int) = kk ∧ ((bsF (fun s => TS (tr2 (H.1 2) s) (H.1 0 21) (H.1 0 22) (gK 0)) kk n).1 = -1 ∨ (bsF (fun s => TS (tr2 (H.1 2) s) (H.1 0 21) (H.1 0 22) (gK 0)) kk n).2 < (fun s => TS (tr2 (H.1 2) s) (H.1 0 21) (H.1 0 22) (gK 0)) n) then ((n : Int), (fun s => TS (tr2 (H.1 2) s) (H.1 0 21) (H.1 0 22) (gK 0)) n) else (bsF (fun s => TS (tr2 (H.1 2) s) (H.1 0 21) (H.1 0 22) (gK 0)) kk n)).1 = _; first | (rw [if_pos (by omega)]; done) | (rw [if_pos (by omega)]; exact er2.symm) | (rw [if_neg (by omega)])) (List.Mem.tail _ (List.Mem.tail _ (List.Mem.head _)))), (List.forall_mem_cons.mpr ⟨(mem_cl (by show (if (bcn n 8 : Int) = kk ∧ ((bsF (fun s => TS (tr2 (H.1 2) s) (H.1 0 21) (H.1 0 22) (gK 0)) kk n).1 = -1 ∨ (bsF (fun s => TS (tr2 (H.1 2) s) (H.1 0 21) (H.1 0 22) (gK 0)) kk n).2 < (fun s => TS (tr2 (H.1 2) s) (H.1 0 21) (H.1 0 22) (gK 0)) n) then ((n : Int), (fun s => TS (tr2 (H.1 2) s) (H.1 0 21) (H.1 0 22) (gK 0)) n) else (bsF (fun s => TS (tr2 (H.1 2) s) (H.1 0 21) (H.1 0 22) (gK 0)) kk n)).2 = _; first | (rw [if_pos (by omega)]; done) | (rw [if_pos (by omega)]; exact er2.symm) | (rw [if_neg (by omega)])) (List.Mem.tail _ (List.Mem.head _))), (List.forall_mem_cons.mpr ⟨(mem_ci (by omega) (List.Mem.head _)), (fun _ h => absurd h List.not_mem_nil)⟩)⟩)⟩)⟩)⟩) ?_
              exact ih31 ((n + 1)) H3 ok11 (by omega) (by first | exact wfm | exact wf3) (by omega)
            · skip
              refine x_lload (pc := 64) dX11_best_64 (List.Mem.head _) ?_
              refine x_lload_n (pc := 66) dX11_best_66 (List.Mem.tail _ (List.Mem.tail _ (List.Mem.tail _ (List.Mem.tail _ (List.Mem.head _))))) ?_
              refine z_lcmp_gt (pc := 67) (tgt := 74) dX11_best_67 dX11_best_68 (by decide) (by omega) (by omega) (by omega) (by omega) (fun hb14 => ?_) (fun hb14 => ?_)
              · skip
                refine x_iload (pc := 74) dX11_best_74 (List.Mem.tail _ (List.Mem.tail _ (List.Mem.tail _ (List.Mem.tail _ (List.Mem.tail _ (List.Mem.head _)))))) ?_
                refine x_istore_n (pc := 76) dX11_best_76 (Nat.le_of_ble_eq_true rfl) ?_
                show Ev _ _ _ _ _ [(2, .int (zN ((n : Int)))), (6, .long (zL (r10))), (0, .ref 0), (1, .int (zN (kk))), (3, .long (zL ((bsF (fun s => TS (tr2 (H.1 2) s) (H.1 0 21) (H.1 0 22) (gK 0)) kk n).2))), (5, .int (zN ((n : Int))))] _ _
                refine x_lload (pc := 77) dX11_best_77 (List.Mem.tail _ (List.Mem.head _)) ?_
                refine x_lstore_n (pc := 79) dX11_best_79 (Nat.le_of_ble_eq_true rfl) ?_
                show Ev _ _ _ _ _ [(3, .long (zL (r10))), (2, .int (zN ((n : Int)))), (6, .long (zL (r10))), (0, .ref 0), (1, .int (zN (kk))), (5, .int (zN ((n : Int))))] _ _
                refine z_iinc (pc := 80) dX11_best_80 (List.Mem.tail _ (List.Mem.tail _ (List.Mem.tail _ (List.Mem.tail _ (List.Mem.tail _ (List.Mem.head _)))))) (Nat.le_of_ble_eq_true rfl) ?_
                show Ev _ _ _ _ _ [(5, .int (zN ((n : Int) + 1))), (3, .long (zL (r10))), (2, .int (zN ((n : Int)))), (6, .long (zL (r10))), (0, .ref 0), (1, .int (zN (kk)))] _ _
                refine x_goto (pc := 83) (tgt := 31) dX11_best_83 (by decide) ?_
                refine x_weaken (L1 := [(0, .ref 0), (1, .int (zN (kk))), (2, .int (zN ((bsF (fun s => TS (tr2 (H.1 2) s) (H.1 0 21) (H.1 0 22) (gK 0)) kk (n + 1)).1))), (3, .long (zL ((bsF (fun s => TS (tr2 (H.1 2) s) (H.1 0 21) (H.1 0 22) (gK 0)) kk (n + 1)).2))), (5, .int (zN ((((n + 1) : Nat) : Int))))]) (List.forall_mem_cons.mpr ⟨(List.Mem.tail _ (List.Mem.tail _ (List.Mem.tail _ (List.Mem.tail _ (List.Mem.head _))))), (List.forall_mem_cons.mpr ⟨(List.Mem.tail _ (List.Mem.tail _ (List.Mem.tail _ (List.Mem.tail _ (List.Mem.tail _ (List.Mem.head _)))))), (List.forall_mem_cons.mpr ⟨(mem_ci (by show (if (bcn n 8 : Int) = kk ∧ ((bsF (fun s => TS (tr2 (H.1 2) s) (H.1 0 21) (H.1 0 22) (gK 0)) kk n).1 = -1 ∨ (bsF (fun s => TS (tr2 (H.1 2) s) (H.1 0 21) (H.1 0 22) (gK 0)) kk n).2 < (fun s => TS (tr2 (H.1 2) s) (H.1 0 21) (H.1 0 22) (gK 0)) n) then ((n : Int), (fun s => TS (tr2 (H.1 2) s) (H.1 0 21) (H.1 0 22) (gK 0)) n) else (bsF (fun s => TS (tr2 (H.1 2) s) (H.1 0 21) (H.1 0 22) (gK 0)) kk n)).1 = _; first | (rw [if_pos (by omega)]; done) | (rw [if_pos (by omega)]; exact er2.symm) | (rw [if_neg (by omega)])) (List.Mem.tail _ (List.Mem.tail _ (List.Mem.head _)))), (List.forall_mem_cons.mpr ⟨(mem_cl (by show (if (bcn n 8 : Int) = kk ∧ ((bsF (fun s => TS (tr2 (H.1 2) s) (H.1 0 21) (H.1 0 22) (gK 0)) kk n).1 = -1 ∨ (bsF (fun s => TS (tr2 (H.1 2) s) (H.1 0 21) (H.1 0 22) (gK 0)) kk n).2 < (fun s => TS (tr2 (H.1 2) s) (H.1 0 21) (H.1 0 22) (gK 0)) n) then ((n : Int), (fun s => TS (tr2 (H.1 2) s) (H.1 0 21) (H.1 0 22) (gK 0)) n) else (bsF (fun s => TS (tr2 (H.1 2) s) (H.1 0 21) (H.1 0 22) (gK 0)) kk n)).2 = _; first | (rw [if_pos (by omega)]; done) | (rw [if_pos (by omega)]; exact er2.symm) | (rw [if_neg (by omega)])) (List.Mem.tail _ (List.Mem.head _))), (List.forall_mem_cons.mpr ⟨(mem_ci (by omega) (List.Mem.head _)), (fun _ h => absurd h List.not_mem_nil)⟩)⟩)⟩)⟩)⟩) ?_
                exact ih31 ((n + 1)) H3 ok11 (by omega) (by first | exact wfm | exact wf3) (by omega)
              · skip
                refine x_goto (pc := 71) (tgt := 80) dX11_best_71 (by decide) ?_
                refine z_iinc (pc := 80) dX11_best_80 (List.Mem.tail _ (List.Mem.tail _ (List.Mem.tail _ (List.Mem.tail _ (List.Mem.tail _ (List.Mem.head _)))))) (Nat.le_of_ble_eq_true rfl) ?_
                show Ev _ _ _ _ _ [(5, .int (zN ((n : Int) + 1))), (6, .long (zL (r10))), (0, .ref 0), (1, .int (zN (kk))), (2, .int (zN ((bsF (fun s => TS (tr2 (H.1 2) s) (H.1 0 21) (H.1 0 22) (gK 0)) kk n).1))), (3, .long (zL ((bsF (fun s => TS (tr2 (H.1 2) s) (H.1 0 21) (H.1 0 22) (gK 0)) kk n).2)))] _ _
                refine x_goto (pc := 83) (tgt := 31) dX11_best_83 (by decide) ?_
                refine x_weaken (L1 := [(0, .ref 0), (1, .int (zN (kk))), (2, .int (zN ((bsF (fun s => TS (tr2 (H.1 2) s) (H.1 0 21) (H.1 0 22) (gK 0)) kk (n + 1)).1))), (3, .long (zL ((bsF (fun s => TS (tr2 (H.1 2) s) (H.1 0 21) (H.1 0 22) (gK 0)) kk (n + 1)).2))), (5, .int (zN ((((n + 1) : Nat) : Int))))]) (List.forall_mem_cons.mpr ⟨(List.Mem.tail _ (List.Mem.tail _ (List.Mem.head _))), (List.forall_mem_cons.mpr ⟨(List.Mem.tail _ (List.Mem.tail _ (List.Mem.tail _ (List.Mem.head _)))), (List.forall_mem_cons.mpr ⟨(mem_ci (by show (if (bcn n 8 : Int) = kk ∧ ((bsF (fun s => TS (tr2 (H.1 2) s) (H.1 0 21) (H.1 0 22) (gK 0)) kk n).1 = -1 ∨ (bsF (fun s => TS (tr2 (H.1 2) s) (H.1 0 21) (H.1 0 22) (gK 0)) kk n).2 < (fun s => TS (tr2 (H.1 2) s) (H.1 0 21) (H.1 0 22) (gK 0)) n) then ((n : Int), (fun s => TS (tr2 (H.1 2) s) (H.1 0 21) (H.1 0 22) (gK 0)) n) else (bsF (fun s => TS (tr2 (H.1 2) s) (H.1 0 21) (H.1 0 22) (gK 0)) kk n)).1 = _; first | (rw [if_pos (by omega)]; done) | (rw [if_pos (by omega)]; exact er2.symm) | (rw [if_neg (by omega)])) (List.Mem.tail _ (List.Mem.tail _ (List.Mem.tail _ (List.Mem.tail _ (List.Mem.head _)))))), (List.forall_mem_cons.mpr ⟨(mem_cl (by show (if (bcn n 8 : Int) = kk ∧ ((bsF (fun s => TS (tr2 (H.1 2) s) (H.1 0 21) (H.1 0 22) (gK 0)) kk n).1 = -1 ∨ (bsF (fun s => TS (tr2 (H.1 2) s) (H.1 0 21) (H.1 0 22) (gK 0)) kk n).2 < (fun s => TS (tr2 (H.1 2) s) (H.1 0 21) (H.1 0 22) (gK 0)) n) then ((n : Int), (fun s => TS (tr2 (H.1 2) s) (H.1 0 21) (H.1 0 22) (gK 0)) n) else (bsF (fun s => TS (tr2 (H.1 2) s) (H.1 0 21) (H.1 0 22) (gK 0)) kk n)).2 = _; first | (rw [if_pos (by omega)]; done) | (rw [if_pos (by omega)]; exact er2.symm) | (rw [if_neg (by omega)])) (List.Mem.tail _ (List.Mem.tail _ (List.Mem.tail _ (List.Mem.tail _ (List.Mem.tail _ (List.Mem.head _))))))), (List.forall_mem_cons.mpr ⟨(mem_ci (by omega) (List.Mem.head _)), (fun _ h => absurd h List.not_mem_nil)⟩)⟩)⟩)⟩)⟩) ?_
                exact ih31 ((n + 1)) H3 ok11 (by omega) (by first | exact wfm | exact wf3) (by omega)
          · skip
            refine x_goto (pc := 48) (tgt := 80) dX11_best_48 (by decide) ?_
            refine z_iinc (pc := 80) dX11_best_80 (List.Mem.tail _ (List.Mem.tail _ (List.Mem.tail _ (List.Mem.tail _ (List.Mem.head _))))) (Nat.le_of_ble_eq_true rfl) ?_
            show Ev _ _ _ _ _ [(5, .int (zN ((n : Int) + 1))), (0, .ref 0), (1, .int (zN (kk))), (2, .int (zN ((bsF (fun s => TS (tr2 (H.1 2) s) (H.1 0 21) (H.1 0 22) (gK 0)) kk n).1))), (3, .long (zL ((bsF (fun s => TS (tr2 (H.1 2) s) (H.1 0 21) (H.1 0 22) (gK 0)) kk n).2)))] _ _
            refine x_goto (pc := 83) (tgt := 31) dX11_best_83 (by decide) ?_
            refine x_weaken (L1 := [(0, .ref 0), (1, .int (zN (kk))), (2, .int (zN ((bsF (fun s => TS (tr2 (H.1 2) s) (H.1 0 21) (H.1 0 22) (gK 0)) kk (n + 1)).1))), (3, .long (zL ((bsF (fun s => TS (tr2 (H.1 2) s) (H.1 0 21) (H.1 0 22) (gK 0)) kk (n + 1)).2))), (5, .int (zN ((((n + 1) : Nat) : Int))))]) (List.forall_mem_cons.mpr ⟨(List.Mem.tail _ (List.Mem.head _)), (List.forall_mem_cons.mpr ⟨(List.Mem.tail _ (List.Mem.tail _ (List.Mem.head _))), (List.forall_mem_cons.mpr ⟨(mem_ci (by show (if (bcn n 8 : Int) = kk ∧ ((bsF (fun s => TS (tr2 (H.1 2) s) (H.1 0 21) (H.1 0 22) (gK 0)) kk n).1 = -1 ∨ (bsF (fun s => TS (tr2 (H.1 2) s) (H.1 0 21) (H.1 0 22) (gK 0)) kk n).2 < (fun s => TS (tr2 (H.1 2) s) (H.1 0 21) (H.1 0 22) (gK 0)) n) then ((n : Int), (fun s => TS (tr2 (H.1 2) s) (H.1 0 21) (H.1 0 22) (gK 0)) n) else (bsF (fun s => TS (tr2 (H.1 2) s) (H.1 0 21) (H.1 0 22) (gK 0)) kk n)).1 = _; first | (rw [if_pos (by omega)]; done) | (rw [if_pos (by omega)]; exact er2.symm) | (rw [if_neg (by omega)])) (List.Mem.tail _ (List.Mem.tail _ (List.Mem.tail _ (List.Mem.head _))))), (List.forall_mem_cons.mpr ⟨(mem_cl (by show (if (bcn n 8 : Int) = kk ∧ ((bsF (fun s => TS (tr2 (H.1 2) s) (H.1 0 21) (H.1 0 22) (gK 0)) kk n).1 = -1 ∨ (bsF (fun s => TS (tr2 (H.1 2) s) (H.1 0 21) (H.1 0 22) (gK 0)) kk n).2 < (fun s => TS (tr2 (H.1 2) s) (H.1 0 21) (H.1 0 22) (gK 0)) n) then ((n : Int), (fun s => TS (tr2 (H.1 2) s) (H.1 0 21) (H.1 0 22) (gK 0)) n) else (bsF (fun s => TS (tr2 (H.1 2) s) (H.1 0 21) (H.1 0 22) (gK 0)) kk n)).2 = _; first | (rw [if_pos (by omega)]; done) | (rw [if_pos (by omega)]; exact er2.symm) | (rw [if_neg (by omega)])) (List.Mem.tail _ (List.Mem.tail _ (List.Mem.tail _ (List.Mem.tail _ (List.Mem.head _)))))), (List.forall_mem_cons.mpr ⟨(mem_ci (by omega) (List.Mem.head _)), (fun _ h => absurd h List.not_mem_nil)⟩)⟩)⟩)⟩)⟩) ?_
            exact ih31 ((n + 1)) Hm ok8 (by omega) (by first | exact wfm | exact wf3) (by omega)
    refine x_weaken (L1 := [(0, .ref 0), (1, .int (zN (kk))), (2, .int (zN ((bsF (fun s => TS (tr2 (H.1 2) s) (H.1 0 21) (H.1 0 22) (gK 0)) kk 0).1))), (3, .long (zL ((bsF (fun s => TS (tr2 (H.1 2) s) (H.1 0 21) (H.1 0 22) (gK 0)) kk 0).2))), (5, .int (zN (((0 : Nat) : Int))))]) (List.forall_mem_cons.mpr ⟨(List.Mem.tail _ (List.Mem.tail _ (List.Mem.tail _ (List.Mem.head _)))), (List.forall_mem_cons.mpr ⟨(List.Mem.tail _ (List.Mem.tail _ (List.Mem.tail _ (List.Mem.tail _ (List.Mem.head _))))), (List.forall_mem_cons.mpr ⟨(mem_ci (rfl) (List.Mem.tail _ (List.Mem.tail _ (List.Mem.head _)))), (List.forall_mem_cons.mpr ⟨(mem_cl (rfl) (List.Mem.tail _ (List.Mem.head _))), (List.forall_mem_cons.mpr ⟨(mem_ci (by omega) (List.Mem.head _)), (fun _ h => absurd h List.not_mem_nil)⟩)⟩)⟩)⟩)⟩) ?_
    exact lp31 (256 - 0 + 1) (0) H ok3 (by omega) (⟨fun _ _ _ => rfl, h42, fun _ _ _ => rfl⟩) (Nat.lt_succ_self _)
  · skip
    refine z_if_ne (pc := 14) (tgt := 24) dX11_best_14 (by decide) (by decide) (by decide) (fun h => absurd h (by decide)) (fun _ => ?_)
    refine x_aload_n (pc := 17) dX11_best_17 (List.Mem.head _) ?_
    refine z_bipush (pc := 18) dX11_best_18 bp_m3 ?_
    refine z_callVip (pc := 20) (i := mX11_no) (S := []) [.int (zN ((-3)))] dX11_best_20 ml_X11_89 ok_X11_no rfl sh_0 rfl (Or.inl rfl) (Nat.le_of_ble_eq_true rfl) (c_X11_no (d := d + 15) (code := ((-3))) (code1 := (by omega)) (code2 := (by omega)) (ok := ok3) (cn := (by first | assumption | omega))) (fun r16a r16b ok17 => ?_)
    show Ev _ _ _ _ _ _ _ (eh (wI H 1 ((refIx ((-3)))) (H.1 1 (refIx ((-3))) + 1)))
    refine z_ireturn (pc := 23) dX11_best_23 rfl (Or.inl rfl) ok17 (by omega) (by omega) ?_
    exact Or.inr ⟨by omega, rfl, rfl⟩
