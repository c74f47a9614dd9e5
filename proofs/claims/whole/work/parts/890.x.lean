/-! GROUP X: the picture behind both constructors. -/
theorem plN_eq {i : Nat} (h : i < 477) : plN i = zN (plA i) := by
  have e0 : (nI i = 0) ↔ i = 0 := nI_eq (b := 0) (by omega) (by omega)
  have e36 : (nI i = 36) ↔ i = 36 := nI_eq (b := 36) (by omega) (by omega)
  have e37 : (nI i = 37) ↔ i = 37 := nI_eq (b := 37) (by omega) (by omega)
  have e38 : (nI i = 38) ↔ i = 38 := nI_eq (b := 38) (by omega) (by omega)
  unfold plN plA
  by_cases h0 : i = 0
  · rw [if_pos (e0.mpr h0), if_pos h0]; rfl
  rw [if_neg (fun z => h0 (e0.mp z)), if_neg h0]
  by_cases h1 : i = 36
  · rw [if_pos (e36.mpr h1), if_pos h1]; rfl
  rw [if_neg (fun z => h1 (e36.mp z)), if_neg h1]
  by_cases h2 : i = 37
  · rw [if_pos (e37.mpr h2), if_pos h2]; rfl
  rw [if_neg (fun z => h2 (e37.mp z)), if_neg h2]
  by_cases h3 : i = 38
  · rw [if_pos (e38.mpr h3), if_pos h3]; rfl
  rw [if_neg (fun z => h3 (e38.mp z)), if_neg h3]
  rfl
def t0z : List (List Int) := [[0, 0, 0, 0, 0, 0, 0, 0, 0, 0, 0, 0, 0, 0, 0, 0, 0, (-1), 0, 0, 0, (-1), (-1)], [], [], [], [], [], [], [], [], [], [], [], [], [], [], [], [], [(-1), (-1), (-1), (-1)], [], [], [], [], [], [], [], [], [], [], [0, 0, 0, (-1), 29], [], [1, 0, 0, 0, 0, 0, 0, 0, 3, 20, 40], [], [], [], [], [1, 0, 0, 0, 0, 0, 0, 0, 3, 20, 40], [], [], [], [], [1, 0, 0, 0, 0, 0, 0, 0, 3, 20, 40], [], [], [], [], [1, 0, 0, 0, 0, 0, 0, 0, 3, 20, 40], [], [], [], [], [1, 0, 0, 0, 0, 0, 0, 0, 3, 20, 40], [], [], [], [], [], [], [], [], [], [], [], [], [], [], [], [], [], [], [], [], [], [], [], [], [], [], [], [1, 1, 1, 1], [100, 100, 100, 100], [], [], [], [], [], [], [], [1, 1, 1, 1], [100, 100, 100, 100], [], [], [], [], [], [], [], [1, 1, 1, 1], [100, 100, 100, 100], [], [], [], [], [], [], [0, 35, 0, (-1)], [], [], [], [], [], [], [], [], [], [], [], [], [], [], [(-1)], [], [], [], [], [], [], [], [], [], [], [], [], []]
def al0 (k : Nat) : Int := if k < 477 then plA k else if k < 550 then 0 else if k < 554 then 1 else if k < 558 then 100 else 0
def i0z (c k : Nat) : Int := if c = 2 then al0 k else (t0z.getD c []).getD k 0
def j0z (c k : Nat) : Int := if c = 111 then (if k = 5 then 1 else 0) else 0
def H0z : ZH := (i0z, j0z)
theorem gd_bd {l : List Int} (h : ∀ v ∈ l, -1000 ≤ v ∧ v ≤ 1000) (k : Nat) : -1000 ≤ l.getD k 0 ∧ l.getD k 0 ≤ 1000 := by
  rw [List.getD_eq_getElem?_getD]
  cases e : l[k]? with
  | none => exact ⟨by decide, by decide⟩
  | some v => exact h v (List.mem_of_getElem? e)
theorem t0_bd : ∀ l ∈ t0z, ∀ v ∈ l, -1000 ≤ v ∧ v ≤ 1000 := by decide +kernel
theorem t0_bd2 (c k : Nat) : -1000 ≤ (t0z.getD c []).getD k 0 ∧ (t0z.getD c []).getD k 0 ≤ 1000 := by
  refine gd_bd (fun v hv => ?_) k
  rw [List.getD_eq_getElem?_getD] at hv
  cases e : t0z[c]? with
  | none => rw [e] at hv; exact absurd hv List.not_mem_nil
  | some l => rw [e] at hv; exact t0_bd l (List.mem_of_getElem? e) v hv
theorem al0_bd (k : Nat) : 0 ≤ al0 k ∧ al0 k ≤ 100 := by
  unfold al0 plA
  constructor <;> (repeat' split) <;> omega
theorem okZ_z0 : okZ H0z := by
  refine ⟨fun c k => ?_, fun c k => ?_⟩
  · show -2147483648 ≤ i0z c k ∧ i0z c k ≤ 2147483647
    unfold i0z
    have h1 := al0_bd k
    have h2 := t0_bd2 c k
    split <;> omega
  · show -9223372036854775808 ≤ j0z c k ∧ j0z c k ≤ 9223372036854775807
    unfold j0z
    split
    · split <;> decide
    · decide
theorem al0_lo {k : Nat} (h : k < 477) : al0 k = plA k := if_pos h
theorem al0_z {k : Nat} (h : 477 ≤ k) (h2 : k < 550 ∨ 558 ≤ k) : al0 k = 0 := by
  unfold al0
  rw [if_neg (by omega)]
  rcases h2 with h2 | h2
  · rw [if_pos h2]
  · rw [if_neg (by omega), if_neg (by omega), if_neg (by omega)]
theorem al0_c {m : Nat} (h : m < 4) : al0 (550 + m) = 1 := by
  unfold al0
  rw [if_neg (by omega), if_neg (by omega), if_pos (by omega)]
theorem al0_d {m : Nat} (h : m < 4) : al0 (554 + m) = 100 := by
  unfold al0
  rw [if_neg (by omega), if_neg (by omega), if_neg (by omega), if_pos (by omega)]
theorem e_al0 : (fun k => zN (i0z 2 k)) = upd (upd (upd (upd (upd (upd (upd (upd (fun j => if j < 477 then plN j else (fun _ => 0) j) 550 1) 554 100) 551 1) 555 100) 552 1) 556 100) 553 1) 557 100 := by
  funext k
  show zN (al0 k) = _
  have e : ∀ (g : Nat → Int32) (j : Nat) (x : Int32), k ≠ j → upd g j x k = g k := fun g j x h => if_neg h
  rcases (show k < 477 ∨ (477 ≤ k ∧ (k < 550 ∨ 558 ≤ k)) ∨ k = 550 ∨ k = 551 ∨ k = 552 ∨ k = 553 ∨ k = 554 ∨ k = 555 ∨ k = 556 ∨ k = 557 by omega) with h | ⟨h, h2⟩ | rfl | rfl | rfl | rfl | rfl | rfl | rfl | rfl
  · rw [e _ _ _ (by omega), e _ _ _ (by omega), e _ _ _ (by omega), e _ _ _ (by omega), e _ _ _ (by omega), e _ _ _ (by omega), e _ _ _ (by omega), e _ _ _ (by omega), al0_lo h, if_pos h, plN_eq h]
  · rw [e _ _ _ (by omega), e _ _ _ (by omega), e _ _ _ (by omega), e _ _ _ (by omega), e _ _ _ (by omega), e _ _ _ (by omega), e _ _ _ (by omega), e _ _ _ (by omega), al0_z h h2, if_neg (by omega)]
    rfl
  · rfl
  · rfl
  · rfl
  · rfl
  · rfl
  · rfl
  · rfl
  · rfl
theorem e_up4 (w : Int) (x : Int32) (hx : zN w = x) : (fun k => zN (([w, w, w, w] : List Int).getD k 0)) = upd (upd (upd (upd (fun _ => 0) 0 x) 1 x) 2 x) 3 x := by
  subst hx
  funext k
  match k with
  | 0 => rfl
  | 1 => rfl
  | 2 => rfl
  | 3 => rfl
  | k + 4 =>
    have e : upd (upd (upd (upd (fun _ => (0 : Int32)) 0 (zN w)) 1 (zN w)) 2 (zN w)) 3 (zN w) (k + 4) = 0 := by
      unfold upd
      rw [if_neg (by omega), if_neg (by omega), if_neg (by omega), if_neg (by omega)]
    rw [e]; rfl
theorem i0_0 {c : Nat} (h : c ≠ 2) (h2 : t0z.getD c [] = []) (k : Nat) : i0z c k = 0 := by
  unfold i0z
  rw [if_neg h, h2]; rfl
theorem i0_w {c : Nat} (h : c ≠ 2) {w : Int} (h2 : t0z.getD c [] = [w, w, w, w]) {k : Nat} (hk : k < 4) : i0z c k = w := by
  unfold i0z
  rw [if_neg h, h2]
  rcases (show k = 0 ∨ k = 1 ∨ k = 2 ∨ k = 3 by omega) with rfl | rfl | rfl | rfl <;> rfl
theorem nlt0 {l : Nat} {x : Int} (h : x = 0) : ¬ ((l : Int) < x) := by omega
theorem nltm {l : Nat} {x : Int} (h : x = -1) : ¬ ((l : Int) ≤ x) := by omega
theorem WFS_z0 : WFS (i0z 2) := ⟨⟨by decide, by decide⟩, ⟨by decide, by decide⟩, fun c hc => absurd hc (nlt0 (by decide)), by decide, by decide, by decide, by decide, by decide, by decide⟩
theorem WFL_z0 : WFL (i0z 2) := ⟨by decide, fun l hl => absurd hl (nlt0 (by decide))⟩
theorem q_z {k : Nat} (h : 477 ≤ k) (h2 : k < 550 ∨ 558 ≤ k) : i0z 2 k = 0 := al0_z h h2
theorem q_c {m : Nat} (h : m < 4) : i0z 2 (550 + m) = 1 := al0_c h
theorem q_d {m : Nat} (h : m < 4) : i0z 2 (554 + m) = 100 := al0_d h
theorem WFP_z0 : WFP (i0z 2) := by
  refine ⟨by decide, fun p hp => ?_, fun m hm => ?_⟩
  · rw [q_z (k := 478 + p) (by omega) (by omega), q_z (k := 490 + p) (by omega) (by omega), q_z (k := 502 + p) (by omega) (by omega), q_z (k := 514 + p) (by omega) (by omega), q_z (k := 526 + p) (by omega) (by omega), q_z (k := 538 + p) (by omega) (by omega)]
    decide
  · rw [q_c hm, q_d hm]; decide
theorem WFY_z0 : WFY (i0z 2) := fun i hi => by
  rw [q_z (k := 558 + i) (by omega) (by omega)]; decide
theorem StR_z0 : StR H0z 35 59 71 99 (i0z 2) := by
  refine ⟨⟨by decide, by decide, fun c hc => ?_, by decide, by decide, by decide, by decide, by decide, by decide⟩, ⟨⟨by decide, fun l hl => ?_⟩, by decide⟩, ⟨by decide, fun p hp => ?_, fun m hm => ?_⟩, fun i hi => ?_⟩
  · exact absurd hc (nlt0 (by decide))
  · exact absurd hl (nlt0 (by decide))
  · rw [q_z (k := 478 + p) (by omega) (by omega), q_z (k := 490 + p) (by omega) (by omega), q_z (k := 502 + p) (by omega) (by omega), q_z (k := 514 + p) (by omega) (by omega), q_z (k := 526 + p) (by omega) (by omega), q_z (k := 538 + p) (by omega) (by omega)]
    exact ⟨i0_0 (c := 72) (by decide) rfl p, i0_0 (c := 73) (by decide) rfl p, i0_0 (c := 74) (by decide) rfl p, i0_0 (c := 75) (by decide) rfl p, i0_0 (c := 76) (by decide) rfl p, i0_0 (c := 77) (by decide) rfl p⟩
  · rw [q_c hm, q_d hm]
    exact ⟨i0_w (c := 78) (by decide) rfl hm, i0_w (c := 79) (by decide) rfl hm⟩
  · rw [q_z (k := 558 + i) (by omega) (by omega)]
    exact i0_0 (c := 99) (by decide) rfl i
theorem Inv_z0 : Inv H0z 0 := by
  refine ⟨fun k hk => ?_, ⟨by decide, by decide, by decide, fun j _ => i0_0 (c := 6) (by decide) rfl j, by decide, fun k => ?_, fun r hr => ?_⟩, ⟨⟨WFS_z0, WFL_z0, WFP_z0, WFY_z0⟩, fun i hi => ?_⟩, ⟨StR_z0, fun i hi => ?_, fun z => ?_, fun z => ?_, by decide, by decide⟩, ⟨fun r hr s hs => ?_, by decide, fun k hk => ?_, by decide, by decide⟩, ⟨fun z => ?_, by decide, fun x hx => ?_⟩⟩
  · have e1 : H0z.1 25 k = 0 := i0_0 (c := 25) (by decide) rfl k
    have e2 : H0z.1 1 k = 0 := i0_0 (c := 1) (by decide) rfl k
    rw [e1, e2]; decide
  · have e1 : H0z.1 4 k = 0 := i0_0 (c := 4) (by decide) rfl k
    rw [e1]; decide
  · have e1 : H0z.1 17 r = -1 := i0_w (c := 17) (by decide) rfl hr
    have e2 : H0z.1 18 r = 0 := i0_0 (c := 18) (by decide) rfl r
    rw [e1, e2]; decide
  · have e1 : H0z.1 3 i = 0 := i0_0 (c := 3) (by decide) rfl i
    rw [e1]
    exact ⟨Or.inl rfl, fun z => absurd z (by decide)⟩
  · have e1 : H0z.1 3 i = 0 := i0_0 (c := 3) (by decide) rfl i
    have e2 : H0z.1 22 i = 0 := i0_0 (c := 22) (by decide) rfl i
    rw [e1, e2]
  · exact absurd z (by decide)
  · exact absurd z (by decide)
  · rcases (show r = 0 ∨ r = 1 ∨ r = 2 ∨ r = 3 by omega) with rfl | rfl | rfl | rfl <;> subst hs <;> exact ⟨⟨by decide, by decide, by decide⟩, fun z => absurd z (by decide), fun _ => by decide⟩
  · have e1 : H0z.1 4 k = 0 := i0_0 (c := 4) (by decide) rfl k
    have e2 : H0z.1 21 k = 0 := i0_0 (c := 21) (by decide) rfl k
    rw [e1, e2]; decide
  · exact absurd (show H0z.1 20 8 = 0 by decide) z
  · exact absurd hx (nltm (by decide))
def adrL (x y : Nat) (a f : Nat → Nat) : List Nat := (y :: (f 1) :: (f 19) :: (f 2) :: (f 3) :: (f 4) :: (f 5) :: (f 6) :: (f 7) :: (f 8) :: (f 9) :: (f 10) :: (f 11) :: (f 12) :: (f 13) :: (f 14) :: (f 15) :: (f 16) :: (f 17) :: (f 18) :: x :: (a 1) :: (a 34) :: (a 55) :: (a 63) :: (a 64) :: (a 33) :: (a 62) :: (a 2) :: (a 12) :: (a 3) :: (a 4) :: (a 5) :: (a 6) :: (a 7) :: (a 14) :: (a 15) :: (a 16) :: (a 17) :: (a 18) :: (a 66) :: (a 67) :: (a 68) :: (a 69) :: (a 70) :: (a 86) :: (a 87) :: (a 88) :: (a 89) :: (a 90) :: (a 47) :: (a 48) :: (a 49) :: (a 50) :: (a 51) :: (a 8) :: (a 9) :: (a 10) :: (a 11) :: (a 19) :: (a 20) :: (a 21) :: (a 22) :: (a 71) :: (a 72) :: (a 73) :: (a 74) :: (a 91) :: (a 92) :: (a 93) :: (a 94) :: (a 23) :: (a 24) :: (a 25) :: (a 26) :: (a 27) :: (a 28) :: (a 29) :: (a 30) :: (a 31) :: (a 75) :: (a 76) :: (a 77) :: (a 78) :: (a 79) :: (a 80) :: (a 81) :: (a 82) :: (a 83) :: (a 95) :: (a 96) :: (a 97) :: (a 98) :: (a 99) :: (a 100) :: (a 101) :: (a 102) :: (a 103) :: (a 13) :: (a 32) :: (a 65) :: (a 84) :: (a 85) :: (a 104) :: (a 35) :: (a 38) :: (a 39) :: (a 40) :: (a 41) :: (a 42) :: (a 43) :: (a 36) :: (a 37) :: (a 44) :: (a 45) :: (a 46) :: (a 52) :: (a 53) :: (a 54) :: (a 56) :: (a 57) :: (a 58) :: (a 59) :: (a 60) :: (a 61) :: (a 105) :: (a 106) :: (a 107) :: (a 108) :: (a 109) :: (a 110) :: (a 111) :: (a 112) :: [])
def adr0 (x y : Nat) (a f kk vv : Nat → Nat) (c : Nat) : Nat := (adrL x y a f).getD c (if c < 950 then kk (c - 900) else vv (c - 950))
def piL : List Nat := [113, 114, 132, 115, 116, 117, 118, 119, 120, 121, 122, 123, 124, 125, 126, 127, 128, 129, 130, 131, 0, 1, 34, 55, 63, 64, 33, 62, 2, 12, 3, 4, 5, 6, 7, 14, 15, 16, 17, 18, 66, 67, 68, 69, 70, 86, 87, 88, 89, 90, 47, 48, 49, 50, 51, 8, 9, 10, 11, 19, 20, 21, 22, 71, 72, 73, 74, 91, 92, 93, 94, 23, 24, 25, 26, 27, 28, 29, 30, 31, 75, 76, 77, 78, 79, 80, 81, 82, 83, 95, 96, 97, 98, 99, 100, 101, 102, 103, 13, 32, 65, 84, 85, 104, 35, 38, 39, 40, 41, 42, 43, 36, 37, 44, 45, 46, 52, 53, 54, 56, 57, 58, 59, 60, 61, 105, 106, 107, 108, 109, 110, 111, 112]
def piN : List Nat := [20, 21, 28, 30, 31, 32, 33, 34, 55, 56, 57, 58, 29, 98, 35, 36, 37, 38, 39, 59, 60, 61, 62, 71, 72, 73, 74, 75, 76, 77, 78, 79, 99, 26, 22, 104, 111, 112, 105, 106, 107, 108, 109, 110, 113, 114, 115, 50, 51, 52, 53, 54, 116, 117, 118, 23, 119, 120, 121, 122, 123, 124, 27, 24, 25, 100, 40, 41, 42, 43, 44, 63, 64, 65, 66, 80, 81, 82, 83, 84, 85, 86, 87, 88, 101, 102, 45, 46, 47, 48, 49, 67, 68, 69, 70, 89, 90, 91, 92, 93, 94, 95, 96, 97, 103, 125, 126, 127, 128, 129, 130, 131, 132, 0, 1, 3, 4, 5, 6, 7, 8, 9, 10, 11, 12, 13, 14, 15, 16, 17, 18, 19, 2]
theorem pi_inv : ∀ c, c < 133 → piN.getD (piL.getD c 0) 0 = c := by decide +kernel
theorem arrV_cg {cI : ClassId} {N : Nat} {f g : Nat → Value} (h : ∀ j, j < N → f j = g j) : arrV cI N f = arrV cI N g := congrArg (fun z => ({ cls := cI, slots := Array.ofFn z, vm := .none } : Cell)) (funext fun j : Fin N => h j.val j.isLt)
abbrev w0 (cA : Nat → ClassId) (x y : Nat) (a f : Nat → Nat) : va_W := wX10 cA x a ++ wX11 cA y f
abbrev wcl (cA : Nat → ClassId) (x y : Nat) (a f kk vv : Nat → Nat) (c : Nat) (sh : MSh) : Prop := ∃ e : va_E, (w0 cA x y a f)[piL.getD c 0]? = some (adr0 x y a f kk vv c, e) ∧ ∀ (D : va_G) (Hp : Heap), va_at D mcl (adr0 x y a f kk vv c, e) Hp → va_at D mcl (adr0 x y a f kk vv c, mcell zX (adr0 x y a f kk vv) cA (eh H0z) c sh) Hp
theorem wc_0 (cA : Nat → ClassId) (x y : Nat) (a f kk vv : Nat → Nat) : wcl cA x y a f kk vv 0 (.inl (11, [0, 2, 2, 2, 2, 2, 0, 0, 0, 0, 0, 0, 0, 0, 0, 0, 0, 0, 2, 2, 2, 0, 0, 0, 2, 2, 0, 2, 2, 2, 2, 2, 2, 2, 2, 2])) := ⟨_, rfl, fun D Hp h => h⟩
theorem wc_1 (cA : Nat → ClassId) (x y : Nat) (a f kk vv : Nat → Nat) : wcl cA x y a f kk vv 1 (.inr (0, 6)) := ⟨_, rfl, fun D Hp h => h⟩
theorem wc_2 (cA : Nat → ClassId) (x y : Nat) (a f kk vv : Nat → Nat) : wcl cA x y a f kk vv 2 (.inr (0, 1734)) := ⟨_, rfl, fun D Hp h => by
  show va_at D mcl (_, .inl (cA 0, 1734, .inl (fun k => zN (i0z 2 k)))) Hp
  rw [e_al0]
  exact h⟩
theorem wc_3 (cA : Nat → ClassId) (x y : Nat) (a f kk vv : Nat → Nat) : wcl cA x y a f kk vv 3 (.inr (2, 2)) := ⟨_, rfl, fun D Hp h => h⟩
theorem wc_4 (cA : Nat → ClassId) (x y : Nat) (a f kk vv : Nat → Nat) : wcl cA x y a f kk vv 4 (.inr (0, 400)) := ⟨_, rfl, fun D Hp h => h⟩
theorem wc_5 (cA : Nat → ClassId) (x y : Nat) (a f kk vv : Nat → Nat) : wcl cA x y a f kk vv 5 (.inr (0, 477)) := ⟨_, rfl, fun D Hp h => h⟩
theorem wc_6 (cA : Nat → ClassId) (x y : Nat) (a f kk vv : Nat → Nat) : wcl cA x y a f kk vv 6 (.inr (0, 42)) := ⟨_, rfl, fun D Hp h => h⟩
theorem wc_7 (cA : Nat → ClassId) (x y : Nat) (a f kk vv : Nat → Nat) : wcl cA x y a f kk vv 7 (.inr (0, 504)) := ⟨_, rfl, fun D Hp h => h⟩
theorem wc_8 (cA : Nat → ClassId) (x y : Nat) (a f kk vv : Nat → Nat) : wcl cA x y a f kk vv 8 (.inr (2, 220)) := ⟨_, rfl, fun D Hp h => h⟩
theorem wc_9 (cA : Nat → ClassId) (x y : Nat) (a f kk vv : Nat → Nat) : wcl cA x y a f kk vv 9 (.inr (2, 8)) := ⟨_, rfl, fun D Hp h => h⟩
theorem wc_10 (cA : Nat → ClassId) (x y : Nat) (a f kk vv : Nat → Nat) : wcl cA x y a f kk vv 10 (.inr (2, 8)) := ⟨_, rfl, fun D Hp h => h⟩
theorem wc_11 (cA : Nat → ClassId) (x y : Nat) (a f kk vv : Nat → Nat) : wcl cA x y a f kk vv 11 (.inr (1, 5)) := ⟨_, rfl, fun D Hp h => h⟩
theorem wc_12 (cA : Nat → ClassId) (x y : Nat) (a f kk vv : Nat → Nat) : wcl cA x y a f kk vv 12 (.inr (1, 8)) := ⟨_, rfl, fun D Hp h => h⟩
theorem wc_13 (cA : Nat → ClassId) (x y : Nat) (a f kk vv : Nat → Nat) : wcl cA x y a f kk vv 13 (.inr (1, 8)) := ⟨_, rfl, fun D Hp h => h⟩
theorem wc_14 (cA : Nat → ClassId) (x y : Nat) (a f kk vv : Nat → Nat) : wcl cA x y a f kk vv 14 (.inr (0, 13000)) := ⟨_, rfl, fun D Hp h => h⟩
theorem wc_15 (cA : Nat → ClassId) (x y : Nat) (a f kk vv : Nat → Nat) : wcl cA x y a f kk vv 15 (.inr (0, 13000)) := ⟨_, rfl, fun D Hp h => h⟩
theorem wc_16 (cA : Nat → ClassId) (x y : Nat) (a f kk vv : Nat → Nat) : wcl cA x y a f kk vv 16 (.inr (0, 40)) := ⟨_, rfl, fun D Hp h => h⟩
theorem wc_17 (cA : Nat → ClassId) (x y : Nat) (a f kk vv : Nat → Nat) : wcl cA x y a f kk vv 17 (.inr (0, 4)) := ⟨_, rfl, fun D Hp h => by
  have e : (eh H0z).1 17 = upd (upd (upd (upd (fun _ => 0) 0 (-1)) 1 (-1)) 2 (-1)) 3 (-1) := e_up4 (-1) (-1) rfl
  show va_at D mcl (_, .inl (cA 0, 4, .inl ((eh H0z).1 17))) Hp
  rw [e]
  exact h⟩
theorem wc_18 (cA : Nat → ClassId) (x y : Nat) (a f kk vv : Nat → Nat) : wcl cA x y a f kk vv 18 (.inr (0, 4)) := ⟨_, rfl, fun D Hp h => h⟩
theorem wc_19 (cA : Nat → ClassId) (x y : Nat) (a f kk vv : Nat → Nat) : wcl cA x y a f kk vv 19 (.inr (1, 160)) := ⟨_, rfl, fun D Hp h => h⟩
theorem wc_20 (cA : Nat → ClassId) (x y : Nat) (a f kk vv : Nat → Nat) : wcl cA x y a f kk vv 20 (.inl (10, [2, 0, 2, 2, 2, 2, 2, 2, 0, 2, 2, 2, 2, 2, 2, 2])) := ⟨_, rfl, fun D Hp h => h⟩
theorem wc_21 (cA : Nat → ClassId) (x y : Nat) (a f kk vv : Nat → Nat) : wcl cA x y a f kk vv 21 (.inr (3, 400)) := ⟨_, rfl, fun D Hp h => h⟩
theorem wc_22 (cA : Nat → ClassId) (x y : Nat) (a f kk vv : Nat → Nat) : wcl cA x y a f kk vv 22 (.inr (2, 2)) := ⟨_, rfl, fun D Hp h => h⟩
theorem wc_23 (cA : Nat → ClassId) (x y : Nat) (a f kk vv : Nat → Nat) : wcl cA x y a f kk vv 23 (.inr (1, 256)) := ⟨_, rfl, fun D Hp h => h⟩
theorem wc_24 (cA : Nat → ClassId) (x y : Nat) (a f kk vv : Nat → Nat) : wcl cA x y a f kk vv 24 (.inr (0, 40)) := ⟨_, rfl, fun D Hp h => h⟩
theorem wc_25 (cA : Nat → ClassId) (x y : Nat) (a f kk vv : Nat → Nat) : wcl cA x y a f kk vv 25 (.inr (0, 6)) := ⟨_, rfl, fun D Hp h => h⟩
theorem wc_26 (cA : Nat → ClassId) (x y : Nat) (a f kk vv : Nat → Nat) : wcl cA x y a f kk vv 26 (.inr (5, 2)) := ⟨_, rfl, fun D Hp h => by
  have h9 : Hp[_]? = some (vp_cell _ _) := h
  show Hp[_]? = some (vp_cell (cA 5) (2, .inr (.inr (.inr (.inr (fun j => some (adr0 x y a f kk vv (zX.2 26 j))))))))
  rw [vp_cell_q] at h9 ⊢
  rw [h9]
  exact congrArg some (arrV_cg (fun j hj => by rcases (show j = 0 ∨ j = 1 by omega) with rfl | rfl <;> rfl))⟩
theorem wc_27 (cA : Nat → ClassId) (x y : Nat) (a f kk vv : Nat → Nat) : wcl cA x y a f kk vv 27 (.inr (4, 4)) := ⟨_, rfl, fun D Hp h => by
  have h9 : Hp[_]? = some (vp_cell _ _) := h
  show Hp[_]? = some (vp_cell (cA 4) (4, .inr (.inr (.inr (.inr (fun j => some (adr0 x y a f kk vv (zX.2 27 j))))))))
  rw [vp_cell_q] at h9 ⊢
  rw [h9]
  exact congrArg some (arrV_cg (fun j hj => by rcases (show j = 0 ∨ j = 1 ∨ j = 2 ∨ j = 3 by omega) with rfl | rfl | rfl | rfl <;> rfl))⟩
theorem wc_28 (cA : Nat → ClassId) (x y : Nat) (a f kk vv : Nat → Nat) : wcl cA x y a f kk vv 28 (.inl (3, [2, 2, 0, 0, 3, 0, 0, 0, 0, 0, 0])) := ⟨_, rfl, fun D Hp h => h⟩
theorem wc_29 (cA : Nat → ClassId) (x y : Nat) (a f kk vv : Nat → Nat) : wcl cA x y a f kk vv 29 (.inr (3, 0)) := ⟨_, rfl, fun D Hp h => h⟩
theorem wc_30 (cA : Nat → ClassId) (x y : Nat) (a f kk vv : Nat → Nat) : wcl cA x y a f kk vv 30 (.inl (6, [0, 0, 2, 2, 2, 2, 0, 0, 0, 0, 0, 0])) := ⟨_, rfl, fun D Hp h => h⟩
theorem wc_31 (cA : Nat → ClassId) (x y : Nat) (a f kk vv : Nat → Nat) : wcl cA x y a f kk vv 31 (.inr (0, 8)) := ⟨_, rfl, fun D Hp h => h⟩
theorem wc_32 (cA : Nat → ClassId) (x y : Nat) (a f kk vv : Nat → Nat) : wcl cA x y a f kk vv 32 (.inr (0, 8)) := ⟨_, rfl, fun D Hp h => h⟩
theorem wc_33 (cA : Nat → ClassId) (x y : Nat) (a f kk vv : Nat → Nat) : wcl cA x y a f kk vv 33 (.inr (0, 8)) := ⟨_, rfl, fun D Hp h => h⟩
theorem wc_34 (cA : Nat → ClassId) (x y : Nat) (a f kk vv : Nat → Nat) : wcl cA x y a f kk vv 34 (.inr (0, 8)) := ⟨_, rfl, fun D Hp h => h⟩
theorem wc_35 (cA : Nat → ClassId) (x y : Nat) (a f kk vv : Nat → Nat) : wcl cA x y a f kk vv 35 (.inl (6, [0, 0, 2, 2, 2, 2, 0, 0, 0, 0, 0, 0])) := ⟨_, rfl, fun D Hp h => h⟩
theorem wc_36 (cA : Nat → ClassId) (x y : Nat) (a f kk vv : Nat → Nat) : wcl cA x y a f kk vv 36 (.inr (0, 8)) := ⟨_, rfl, fun D Hp h => h⟩
theorem wc_37 (cA : Nat → ClassId) (x y : Nat) (a f kk vv : Nat → Nat) : wcl cA x y a f kk vv 37 (.inr (0, 8)) := ⟨_, rfl, fun D Hp h => h⟩
theorem wc_38 (cA : Nat → ClassId) (x y : Nat) (a f kk vv : Nat → Nat) : wcl cA x y a f kk vv 38 (.inr (0, 8)) := ⟨_, rfl, fun D Hp h => h⟩
theorem wc_39 (cA : Nat → ClassId) (x y : Nat) (a f kk vv : Nat → Nat) : wcl cA x y a f kk vv 39 (.inr (0, 8)) := ⟨_, rfl, fun D Hp h => h⟩
theorem wc_40 (cA : Nat → ClassId) (x y : Nat) (a f kk vv : Nat → Nat) : wcl cA x y a f kk vv 40 (.inl (6, [0, 0, 2, 2, 2, 2, 0, 0, 0, 0, 0, 0])) := ⟨_, rfl, fun D Hp h => h⟩
theorem wc_41 (cA : Nat → ClassId) (x y : Nat) (a f kk vv : Nat → Nat) : wcl cA x y a f kk vv 41 (.inr (0, 8)) := ⟨_, rfl, fun D Hp h => h⟩
theorem wc_42 (cA : Nat → ClassId) (x y : Nat) (a f kk vv : Nat → Nat) : wcl cA x y a f kk vv 42 (.inr (0, 8)) := ⟨_, rfl, fun D Hp h => h⟩
theorem wc_43 (cA : Nat → ClassId) (x y : Nat) (a f kk vv : Nat → Nat) : wcl cA x y a f kk vv 43 (.inr (0, 8)) := ⟨_, rfl, fun D Hp h => h⟩
theorem wc_44 (cA : Nat → ClassId) (x y : Nat) (a f kk vv : Nat → Nat) : wcl cA x y a f kk vv 44 (.inr (0, 8)) := ⟨_, rfl, fun D Hp h => h⟩
theorem wc_45 (cA : Nat → ClassId) (x y : Nat) (a f kk vv : Nat → Nat) : wcl cA x y a f kk vv 45 (.inl (6, [0, 0, 2, 2, 2, 2, 0, 0, 0, 0, 0, 0])) := ⟨_, rfl, fun D Hp h => h⟩
theorem wc_46 (cA : Nat → ClassId) (x y : Nat) (a f kk vv : Nat → Nat) : wcl cA x y a f kk vv 46 (.inr (0, 8)) := ⟨_, rfl, fun D Hp h => h⟩
theorem wc_47 (cA : Nat → ClassId) (x y : Nat) (a f kk vv : Nat → Nat) : wcl cA x y a f kk vv 47 (.inr (0, 8)) := ⟨_, rfl, fun D Hp h => h⟩
theorem wc_48 (cA : Nat → ClassId) (x y : Nat) (a f kk vv : Nat → Nat) : wcl cA x y a f kk vv 48 (.inr (0, 8)) := ⟨_, rfl, fun D Hp h => h⟩
theorem wc_49 (cA : Nat → ClassId) (x y : Nat) (a f kk vv : Nat → Nat) : wcl cA x y a f kk vv 49 (.inr (0, 8)) := ⟨_, rfl, fun D Hp h => h⟩
theorem wc_50 (cA : Nat → ClassId) (x y : Nat) (a f kk vv : Nat → Nat) : wcl cA x y a f kk vv 50 (.inl (6, [0, 0, 2, 2, 2, 2, 0, 0, 0, 0, 0, 0])) := ⟨_, rfl, fun D Hp h => h⟩
theorem wc_51 (cA : Nat → ClassId) (x y : Nat) (a f kk vv : Nat → Nat) : wcl cA x y a f kk vv 51 (.inr (0, 8)) := ⟨_, rfl, fun D Hp h => h⟩
theorem wc_52 (cA : Nat → ClassId) (x y : Nat) (a f kk vv : Nat → Nat) : wcl cA x y a f kk vv 52 (.inr (0, 8)) := ⟨_, rfl, fun D Hp h => h⟩
theorem wc_53 (cA : Nat → ClassId) (x y : Nat) (a f kk vv : Nat → Nat) : wcl cA x y a f kk vv 53 (.inr (0, 8)) := ⟨_, rfl, fun D Hp h => h⟩
theorem wc_54 (cA : Nat → ClassId) (x y : Nat) (a f kk vv : Nat → Nat) : wcl cA x y a f kk vv 54 (.inr (0, 8)) := ⟨_, rfl, fun D Hp h => h⟩
theorem wc_55 (cA : Nat → ClassId) (x y : Nat) (a f kk vv : Nat → Nat) : wcl cA x y a f kk vv 55 (.inl (1, [0, 2, 2, 2, 0])) := ⟨_, rfl, fun D Hp h => h⟩
theorem wc_56 (cA : Nat → ClassId) (x y : Nat) (a f kk vv : Nat → Nat) : wcl cA x y a f kk vv 56 (.inr (0, 12)) := ⟨_, rfl, fun D Hp h => h⟩
theorem wc_57 (cA : Nat → ClassId) (x y : Nat) (a f kk vv : Nat → Nat) : wcl cA x y a f kk vv 57 (.inr (0, 12)) := ⟨_, rfl, fun D Hp h => h⟩
theorem wc_58 (cA : Nat → ClassId) (x y : Nat) (a f kk vv : Nat → Nat) : wcl cA x y a f kk vv 58 (.inr (0, 400)) := ⟨_, rfl, fun D Hp h => h⟩
theorem wc_59 (cA : Nat → ClassId) (x y : Nat) (a f kk vv : Nat → Nat) : wcl cA x y a f kk vv 59 (.inl (1, [0, 2, 2, 2, 0])) := ⟨_, rfl, fun D Hp h => h⟩
theorem wc_60 (cA : Nat → ClassId) (x y : Nat) (a f kk vv : Nat → Nat) : wcl cA x y a f kk vv 60 (.inr (0, 12)) := ⟨_, rfl, fun D Hp h => h⟩
theorem wc_61 (cA : Nat → ClassId) (x y : Nat) (a f kk vv : Nat → Nat) : wcl cA x y a f kk vv 61 (.inr (0, 12)) := ⟨_, rfl, fun D Hp h => h⟩
theorem wc_62 (cA : Nat → ClassId) (x y : Nat) (a f kk vv : Nat → Nat) : wcl cA x y a f kk vv 62 (.inr (0, 400)) := ⟨_, rfl, fun D Hp h => h⟩
theorem wc_63 (cA : Nat → ClassId) (x y : Nat) (a f kk vv : Nat → Nat) : wcl cA x y a f kk vv 63 (.inl (1, [0, 2, 2, 2, 0])) := ⟨_, rfl, fun D Hp h => h⟩
theorem wc_64 (cA : Nat → ClassId) (x y : Nat) (a f kk vv : Nat → Nat) : wcl cA x y a f kk vv 64 (.inr (0, 12)) := ⟨_, rfl, fun D Hp h => h⟩
theorem wc_65 (cA : Nat → ClassId) (x y : Nat) (a f kk vv : Nat → Nat) : wcl cA x y a f kk vv 65 (.inr (0, 12)) := ⟨_, rfl, fun D Hp h => h⟩
theorem wc_66 (cA : Nat → ClassId) (x y : Nat) (a f kk vv : Nat → Nat) : wcl cA x y a f kk vv 66 (.inr (0, 400)) := ⟨_, rfl, fun D Hp h => h⟩
theorem wc_67 (cA : Nat → ClassId) (x y : Nat) (a f kk vv : Nat → Nat) : wcl cA x y a f kk vv 67 (.inl (1, [0, 2, 2, 2, 0])) := ⟨_, rfl, fun D Hp h => h⟩
theorem wc_68 (cA : Nat → ClassId) (x y : Nat) (a f kk vv : Nat → Nat) : wcl cA x y a f kk vv 68 (.inr (0, 12)) := ⟨_, rfl, fun D Hp h => h⟩
theorem wc_69 (cA : Nat → ClassId) (x y : Nat) (a f kk vv : Nat → Nat) : wcl cA x y a f kk vv 69 (.inr (0, 12)) := ⟨_, rfl, fun D Hp h => h⟩
theorem wc_70 (cA : Nat → ClassId) (x y : Nat) (a f kk vv : Nat → Nat) : wcl cA x y a f kk vv 70 (.inr (0, 400)) := ⟨_, rfl, fun D Hp h => h⟩
theorem wc_71 (cA : Nat → ClassId) (x y : Nat) (a f kk vv : Nat → Nat) : wcl cA x y a f kk vv 71 (.inl (2, [0, 2, 2, 2, 2, 2, 2, 2, 2])) := ⟨_, rfl, fun D Hp h => h⟩
theorem wc_72 (cA : Nat → ClassId) (x y : Nat) (a f kk vv : Nat → Nat) : wcl cA x y a f kk vv 72 (.inr (0, 12)) := ⟨_, rfl, fun D Hp h => h⟩
theorem wc_73 (cA : Nat → ClassId) (x y : Nat) (a f kk vv : Nat → Nat) : wcl cA x y a f kk vv 73 (.inr (0, 12)) := ⟨_, rfl, fun D Hp h => h⟩
theorem wc_74 (cA : Nat → ClassId) (x y : Nat) (a f kk vv : Nat → Nat) : wcl cA x y a f kk vv 74 (.inr (0, 12)) := ⟨_, rfl, fun D Hp h => h⟩
theorem wc_75 (cA : Nat → ClassId) (x y : Nat) (a f kk vv : Nat → Nat) : wcl cA x y a f kk vv 75 (.inr (0, 12)) := ⟨_, rfl, fun D Hp h => h⟩
theorem wc_76 (cA : Nat → ClassId) (x y : Nat) (a f kk vv : Nat → Nat) : wcl cA x y a f kk vv 76 (.inr (0, 12)) := ⟨_, rfl, fun D Hp h => h⟩
theorem wc_77 (cA : Nat → ClassId) (x y : Nat) (a f kk vv : Nat → Nat) : wcl cA x y a f kk vv 77 (.inr (0, 12)) := ⟨_, rfl, fun D Hp h => h⟩
theorem wc_78 (cA : Nat → ClassId) (x y : Nat) (a f kk vv : Nat → Nat) : wcl cA x y a f kk vv 78 (.inr (0, 4)) := ⟨_, rfl, fun D Hp h => by
  have e : (eh H0z).1 78 = upd (upd (upd (upd (fun _ => 0) 0 1) 1 1) 2 1) 3 1 := e_up4 1 1 rfl
  show va_at D mcl (_, .inl (cA 0, 4, .inl ((eh H0z).1 78))) Hp
  rw [e]
  exact h⟩
theorem wc_79 (cA : Nat → ClassId) (x y : Nat) (a f kk vv : Nat → Nat) : wcl cA x y a f kk vv 79 (.inr (0, 4)) := ⟨_, rfl, fun D Hp h => by
  have e : (eh H0z).1 79 = upd (upd (upd (upd (fun _ => 0) 0 100) 1 100) 2 100) 3 100 := e_up4 100 100 rfl
  show va_at D mcl (_, .inl (cA 0, 4, .inl ((eh H0z).1 79))) Hp
  rw [e]
  exact h⟩
theorem wc_80 (cA : Nat → ClassId) (x y : Nat) (a f kk vv : Nat → Nat) : wcl cA x y a f kk vv 80 (.inl (2, [0, 2, 2, 2, 2, 2, 2, 2, 2])) := ⟨_, rfl, fun D Hp h => h⟩
theorem wc_81 (cA : Nat → ClassId) (x y : Nat) (a f kk vv : Nat → Nat) : wcl cA x y a f kk vv 81 (.inr (0, 12)) := ⟨_, rfl, fun D Hp h => h⟩
theorem wc_82 (cA : Nat → ClassId) (x y : Nat) (a f kk vv : Nat → Nat) : wcl cA x y a f kk vv 82 (.inr (0, 12)) := ⟨_, rfl, fun D Hp h => h⟩
theorem wc_83 (cA : Nat → ClassId) (x y : Nat) (a f kk vv : Nat → Nat) : wcl cA x y a f kk vv 83 (.inr (0, 12)) := ⟨_, rfl, fun D Hp h => h⟩
theorem wc_84 (cA : Nat → ClassId) (x y : Nat) (a f kk vv : Nat → Nat) : wcl cA x y a f kk vv 84 (.inr (0, 12)) := ⟨_, rfl, fun D Hp h => h⟩
theorem wc_85 (cA : Nat → ClassId) (x y : Nat) (a f kk vv : Nat → Nat) : wcl cA x y a f kk vv 85 (.inr (0, 12)) := ⟨_, rfl, fun D Hp h => h⟩
theorem wc_86 (cA : Nat → ClassId) (x y : Nat) (a f kk vv : Nat → Nat) : wcl cA x y a f kk vv 86 (.inr (0, 12)) := ⟨_, rfl, fun D Hp h => h⟩
theorem wc_87 (cA : Nat → ClassId) (x y : Nat) (a f kk vv : Nat → Nat) : wcl cA x y a f kk vv 87 (.inr (0, 4)) := ⟨_, rfl, fun D Hp h => by
  have e : (eh H0z).1 87 = upd (upd (upd (upd (fun _ => 0) 0 1) 1 1) 2 1) 3 1 := e_up4 1 1 rfl
  show va_at D mcl (_, .inl (cA 0, 4, .inl ((eh H0z).1 87))) Hp
  rw [e]
  exact h⟩
theorem wc_88 (cA : Nat → ClassId) (x y : Nat) (a f kk vv : Nat → Nat) : wcl cA x y a f kk vv 88 (.inr (0, 4)) := ⟨_, rfl, fun D Hp h => by
  have e : (eh H0z).1 88 = upd (upd (upd (upd (fun _ => 0) 0 100) 1 100) 2 100) 3 100 := e_up4 100 100 rfl
  show va_at D mcl (_, .inl (cA 0, 4, .inl ((eh H0z).1 88))) Hp
  rw [e]
  exact h⟩
theorem wc_89 (cA : Nat → ClassId) (x y : Nat) (a f kk vv : Nat → Nat) : wcl cA x y a f kk vv 89 (.inl (2, [0, 2, 2, 2, 2, 2, 2, 2, 2])) := ⟨_, rfl, fun D Hp h => h⟩
theorem wc_90 (cA : Nat → ClassId) (x y : Nat) (a f kk vv : Nat → Nat) : wcl cA x y a f kk vv 90 (.inr (0, 12)) := ⟨_, rfl, fun D Hp h => h⟩
theorem wc_91 (cA : Nat → ClassId) (x y : Nat) (a f kk vv : Nat → Nat) : wcl cA x y a f kk vv 91 (.inr (0, 12)) := ⟨_, rfl, fun D Hp h => h⟩
theorem wc_92 (cA : Nat → ClassId) (x y : Nat) (a f kk vv : Nat → Nat) : wcl cA x y a f kk vv 92 (.inr (0, 12)) := ⟨_, rfl, fun D Hp h => h⟩
theorem wc_93 (cA : Nat → ClassId) (x y : Nat) (a f kk vv : Nat → Nat) : wcl cA x y a f kk vv 93 (.inr (0, 12)) := ⟨_, rfl, fun D Hp h => h⟩
theorem wc_94 (cA : Nat → ClassId) (x y : Nat) (a f kk vv : Nat → Nat) : wcl cA x y a f kk vv 94 (.inr (0, 12)) := ⟨_, rfl, fun D Hp h => h⟩
theorem wc_95 (cA : Nat → ClassId) (x y : Nat) (a f kk vv : Nat → Nat) : wcl cA x y a f kk vv 95 (.inr (0, 12)) := ⟨_, rfl, fun D Hp h => h⟩
theorem wc_96 (cA : Nat → ClassId) (x y : Nat) (a f kk vv : Nat → Nat) : wcl cA x y a f kk vv 96 (.inr (0, 4)) := ⟨_, rfl, fun D Hp h => by
  have e : (eh H0z).1 96 = upd (upd (upd (upd (fun _ => 0) 0 1) 1 1) 2 1) 3 1 := e_up4 1 1 rfl
  show va_at D mcl (_, .inl (cA 0, 4, .inl ((eh H0z).1 96))) Hp
  rw [e]
  exact h⟩
theorem wc_97 (cA : Nat → ClassId) (x y : Nat) (a f kk vv : Nat → Nat) : wcl cA x y a f kk vv 97 (.inr (0, 4)) := ⟨_, rfl, fun D Hp h => by
  have e : (eh H0z).1 97 = upd (upd (upd (upd (fun _ => 0) 0 100) 1 100) 2 100) 3 100 := e_up4 100 100 rfl
  show va_at D mcl (_, .inl (cA 0, 4, .inl ((eh H0z).1 97))) Hp
  rw [e]
  exact h⟩
theorem wc_98 (cA : Nat → ClassId) (x y : Nat) (a f kk vv : Nat → Nat) : wcl cA x y a f kk vv 98 (.inl (8, [2, 2, 2, 2])) := ⟨_, rfl, fun D Hp h => h⟩
theorem wc_99 (cA : Nat → ClassId) (x y : Nat) (a f kk vv : Nat → Nat) : wcl cA x y a f kk vv 99 (.inr (0, 20)) := ⟨_, rfl, fun D Hp h => h⟩
theorem wc_100 (cA : Nat → ClassId) (x y : Nat) (a f kk vv : Nat → Nat) : wcl cA x y a f kk vv 100 (.inl (8, [2, 2, 2, 2])) := ⟨_, rfl, fun D Hp h => h⟩
theorem wc_101 (cA : Nat → ClassId) (x y : Nat) (a f kk vv : Nat → Nat) : wcl cA x y a f kk vv 101 (.inr (0, 20)) := ⟨_, rfl, fun D Hp h => h⟩
theorem wc_102 (cA : Nat → ClassId) (x y : Nat) (a f kk vv : Nat → Nat) : wcl cA x y a f kk vv 102 (.inl (8, [2, 2, 2, 2])) := ⟨_, rfl, fun D Hp h => h⟩
theorem wc_103 (cA : Nat → ClassId) (x y : Nat) (a f kk vv : Nat → Nat) : wcl cA x y a f kk vv 103 (.inr (0, 20)) := ⟨_, rfl, fun D Hp h => h⟩
theorem wc_104 (cA : Nat → ClassId) (x y : Nat) (a f kk vv : Nat → Nat) : wcl cA x y a f kk vv 104 (.inl (4, [2, 3, 2, 0, 2, 2, 2, 2, 2, 2, 0, 0, 0, 0, 0, 0, 0, 0, 0])) := ⟨_, rfl, fun D Hp h => h⟩
theorem wc_105 (cA : Nat → ClassId) (x y : Nat) (a f kk vv : Nat → Nat) : wcl cA x y a f kk vv 105 (.inr (0, 8)) := ⟨_, rfl, fun D Hp h => h⟩
theorem wc_106 (cA : Nat → ClassId) (x y : Nat) (a f kk vv : Nat → Nat) : wcl cA x y a f kk vv 106 (.inr (0, 8)) := ⟨_, rfl, fun D Hp h => h⟩
theorem wc_107 (cA : Nat → ClassId) (x y : Nat) (a f kk vv : Nat → Nat) : wcl cA x y a f kk vv 107 (.inr (0, 8)) := ⟨_, rfl, fun D Hp h => h⟩
theorem wc_108 (cA : Nat → ClassId) (x y : Nat) (a f kk vv : Nat → Nat) : wcl cA x y a f kk vv 108 (.inr (2, 8)) := ⟨_, rfl, fun D Hp h => h⟩
theorem wc_109 (cA : Nat → ClassId) (x y : Nat) (a f kk vv : Nat → Nat) : wcl cA x y a f kk vv 109 (.inr (0, 8)) := ⟨_, rfl, fun D Hp h => h⟩
theorem wc_110 (cA : Nat → ClassId) (x y : Nat) (a f kk vv : Nat → Nat) : wcl cA x y a f kk vv 110 (.inr (0, 4)) := ⟨_, rfl, fun D Hp h => h⟩
theorem wc_111 (cA : Nat → ClassId) (x y : Nat) (a f kk vv : Nat → Nat) : wcl cA x y a f kk vv 111 (.inl (0, [0, 0, 2, 0, 0, 1])) := ⟨_, rfl, fun D Hp h => h⟩
theorem wc_112 (cA : Nat → ClassId) (x y : Nat) (a f kk vv : Nat → Nat) : wcl cA x y a f kk vv 112 (.inr (2, 8)) := ⟨_, rfl, fun D Hp h => h⟩
theorem wc_113 (cA : Nat → ClassId) (x y : Nat) (a f kk vv : Nat → Nat) : wcl cA x y a f kk vv 113 (.inl (9, [1, 1, 1, 1, 1, 1, 0, 2, 2])) := ⟨_, rfl, fun D Hp h => h⟩
theorem wc_114 (cA : Nat → ClassId) (x y : Nat) (a f kk vv : Nat → Nat) : wcl cA x y a f kk vv 114 (.inr (1, 8)) := ⟨_, rfl, fun D Hp h => h⟩
theorem wc_115 (cA : Nat → ClassId) (x y : Nat) (a f kk vv : Nat → Nat) : wcl cA x y a f kk vv 115 (.inr (1, 8)) := ⟨_, rfl, fun D Hp h => h⟩
theorem wc_116 (cA : Nat → ClassId) (x y : Nat) (a f kk vv : Nat → Nat) : wcl cA x y a f kk vv 116 (.inl (9, [1, 1, 1, 1, 1, 1, 0, 2, 2])) := ⟨_, rfl, fun D Hp h => h⟩
theorem wc_117 (cA : Nat → ClassId) (x y : Nat) (a f kk vv : Nat → Nat) : wcl cA x y a f kk vv 117 (.inr (1, 8)) := ⟨_, rfl, fun D Hp h => h⟩
theorem wc_118 (cA : Nat → ClassId) (x y : Nat) (a f kk vv : Nat → Nat) : wcl cA x y a f kk vv 118 (.inr (1, 8)) := ⟨_, rfl, fun D Hp h => h⟩
theorem wc_119 (cA : Nat → ClassId) (x y : Nat) (a f kk vv : Nat → Nat) : wcl cA x y a f kk vv 119 (.inl (7, [0, 2, 2, 2, 0, 2, 2])) := ⟨_, rfl, fun D Hp h => h⟩
theorem wc_120 (cA : Nat → ClassId) (x y : Nat) (a f kk vv : Nat → Nat) : wcl cA x y a f kk vv 120 (.inr (1, 1000)) := ⟨_, rfl, fun D Hp h => h⟩
theorem wc_121 (cA : Nat → ClassId) (x y : Nat) (a f kk vv : Nat → Nat) : wcl cA x y a f kk vv 121 (.inr (1, 1000)) := ⟨_, rfl, fun D Hp h => h⟩
theorem wc_122 (cA : Nat → ClassId) (x y : Nat) (a f kk vv : Nat → Nat) : wcl cA x y a f kk vv 122 (.inr (0, 16)) := ⟨_, rfl, fun D Hp h => h⟩
theorem wc_123 (cA : Nat → ClassId) (x y : Nat) (a f kk vv : Nat → Nat) : wcl cA x y a f kk vv 123 (.inr (0, 16)) := ⟨_, rfl, fun D Hp h => h⟩
theorem wc_124 (cA : Nat → ClassId) (x y : Nat) (a f kk vv : Nat → Nat) : wcl cA x y a f kk vv 124 (.inr (1, 16)) := ⟨_, rfl, fun D Hp h => h⟩
theorem wc_125 (cA : Nat → ClassId) (x y : Nat) (a f kk vv : Nat → Nat) : wcl cA x y a f kk vv 125 (.inl (5, [0, 0, 0, 2])) := ⟨_, rfl, fun D Hp h => h⟩
theorem wc_126 (cA : Nat → ClassId) (x y : Nat) (a f kk vv : Nat → Nat) : wcl cA x y a f kk vv 126 (.inr (1, 40)) := ⟨_, rfl, fun D Hp h => h⟩
theorem wc_127 (cA : Nat → ClassId) (x y : Nat) (a f kk vv : Nat → Nat) : wcl cA x y a f kk vv 127 (.inl (5, [0, 0, 0, 2])) := ⟨_, rfl, fun D Hp h => h⟩
theorem wc_128 (cA : Nat → ClassId) (x y : Nat) (a f kk vv : Nat → Nat) : wcl cA x y a f kk vv 128 (.inr (1, 40)) := ⟨_, rfl, fun D Hp h => h⟩
theorem wc_129 (cA : Nat → ClassId) (x y : Nat) (a f kk vv : Nat → Nat) : wcl cA x y a f kk vv 129 (.inl (5, [0, 0, 0, 2])) := ⟨_, rfl, fun D Hp h => h⟩
theorem wc_130 (cA : Nat → ClassId) (x y : Nat) (a f kk vv : Nat → Nat) : wcl cA x y a f kk vv 130 (.inr (1, 40)) := ⟨_, rfl, fun D Hp h => h⟩
theorem wc_131 (cA : Nat → ClassId) (x y : Nat) (a f kk vv : Nat → Nat) : wcl cA x y a f kk vv 131 (.inl (5, [0, 0, 0, 2])) := ⟨_, rfl, fun D Hp h => h⟩
theorem wc_132 (cA : Nat → ClassId) (x y : Nat) (a f kk vv : Nat → Nat) : wcl cA x y a f kk vv 132 (.inr (1, 40)) := ⟨_, rfl, fun D Hp h => h⟩
abbrev wcP (cA : Nat → ClassId) (x y : Nat) (a f kk vv : Nat → Nat) (c : Nat) : Prop := ∀ sh : MSh, zX.1[c]? = some sh → wcl cA x y a f kk vv c sh
theorem ltw_s {P : Nat → Prop} {n : Nat} (h : ∀ c, c < n → P c) (h2 : P n) : ∀ c, c < n + 1 → P c := fun c hc => if e : c = n then e ▸ h2 else h c (by omega)
theorem wq_0 (cA : Nat → ClassId) (x y : Nat) (a f kk vv : Nat → Nat) : wcP cA x y a f kk vv 0 := fun sh hs => by cases hs; exact wc_0 cA x y a f kk vv
theorem wq_1 (cA : Nat → ClassId) (x y : Nat) (a f kk vv : Nat → Nat) : wcP cA x y a f kk vv 1 := fun sh hs => by cases hs; exact wc_1 cA x y a f kk vv
theorem wq_2 (cA : Nat → ClassId) (x y : Nat) (a f kk vv : Nat → Nat) : wcP cA x y a f kk vv 2 := fun sh hs => by cases hs; exact wc_2 cA x y a f kk vv
theorem wq_3 (cA : Nat → ClassId) (x y : Nat) (a f kk vv : Nat → Nat) : wcP cA x y a f kk vv 3 := fun sh hs => by cases hs; exact wc_3 cA x y a f kk vv
theorem wq_4 (cA : Nat → ClassId) (x y : Nat) (a f kk vv : Nat → Nat) : wcP cA x y a f kk vv 4 := fun sh hs => by cases hs; exact wc_4 cA x y a f kk vv
theorem wq_5 (cA : Nat → ClassId) (x y : Nat) (a f kk vv : Nat → Nat) : wcP cA x y a f kk vv 5 := fun sh hs => by cases hs; exact wc_5 cA x y a f kk vv
theorem wq_6 (cA : Nat → ClassId) (x y : Nat) (a f kk vv : Nat → Nat) : wcP cA x y a f kk vv 6 := fun sh hs => by cases hs; exact wc_6 cA x y a f kk vv
theorem wq_7 (cA : Nat → ClassId) (x y : Nat) (a f kk vv : Nat → Nat) : wcP cA x y a f kk vv 7 := fun sh hs => by cases hs; exact wc_7 cA x y a f kk vv
theorem wq_8 (cA : Nat → ClassId) (x y : Nat) (a f kk vv : Nat → Nat) : wcP cA x y a f kk vv 8 := fun sh hs => by cases hs; exact wc_8 cA x y a f kk vv
theorem wq_9 (cA : Nat → ClassId) (x y : Nat) (a f kk vv : Nat → Nat) : wcP cA x y a f kk vv 9 := fun sh hs => by cases hs; exact wc_9 cA x y a f kk vv
theorem wq_10 (cA : Nat → ClassId) (x y : Nat) (a f kk vv : Nat → Nat) : wcP cA x y a f kk vv 10 := fun sh hs => by cases hs; exact wc_10 cA x y a f kk vv
theorem wq_11 (cA : Nat → ClassId) (x y : Nat) (a f kk vv : Nat → Nat) : wcP cA x y a f kk vv 11 := fun sh hs => by cases hs; exact wc_11 cA x y a f kk vv
theorem wq_12 (cA : Nat → ClassId) (x y : Nat) (a f kk vv : Nat → Nat) : wcP cA x y a f kk vv 12 := fun sh hs => by cases hs; exact wc_12 cA x y a f kk vv
theorem wq_13 (cA : Nat → ClassId) (x y : Nat) (a f kk vv : Nat → Nat) : wcP cA x y a f kk vv 13 := fun sh hs => by cases hs; exact wc_13 cA x y a f kk vv
theorem wq_14 (cA : Nat → ClassId) (x y : Nat) (a f kk vv : Nat → Nat) : wcP cA x y a f kk vv 14 := fun sh hs => by cases hs; exact wc_14 cA x y a f kk vv
theorem wq_15 (cA : Nat → ClassId) (x y : Nat) (a f kk vv : Nat → Nat) : wcP cA x y a f kk vv 15 := fun sh hs => by cases hs; exact wc_15 cA x y a f kk vv
theorem wq_16 (cA : Nat → ClassId) (x y : Nat) (a f kk vv : Nat → Nat) : wcP cA x y a f kk vv 16 := fun sh hs => by cases hs; exact wc_16 cA x y a f kk vv
theorem wq_17 (cA : Nat → ClassId) (x y : Nat) (a f kk vv : Nat → Nat) : wcP cA x y a f kk vv 17 := fun sh hs => by cases hs; exact wc_17 cA x y a f kk vv
theorem wq_18 (cA : Nat → ClassId) (x y : Nat) (a f kk vv : Nat → Nat) : wcP cA x y a f kk vv 18 := fun sh hs => by cases hs; exact wc_18 cA x y a f kk vv
theorem wq_19 (cA : Nat → ClassId) (x y : Nat) (a f kk vv : Nat → Nat) : wcP cA x y a f kk vv 19 := fun sh hs => by cases hs; exact wc_19 cA x y a f kk vv
theorem wq_20 (cA : Nat → ClassId) (x y : Nat) (a f kk vv : Nat → Nat) : wcP cA x y a f kk vv 20 := fun sh hs => by cases hs; exact wc_20 cA x y a f kk vv
theorem wq_21 (cA : Nat → ClassId) (x y : Nat) (a f kk vv : Nat → Nat) : wcP cA x y a f kk vv 21 := fun sh hs => by cases hs; exact wc_21 cA x y a f kk vv
theorem wq_22 (cA : Nat → ClassId) (x y : Nat) (a f kk vv : Nat → Nat) : wcP cA x y a f kk vv 22 := fun sh hs => by cases hs; exact wc_22 cA x y a f kk vv
theorem wq_23 (cA : Nat → ClassId) (x y : Nat) (a f kk vv : Nat → Nat) : wcP cA x y a f kk vv 23 := fun sh hs => by cases hs; exact wc_23 cA x y a f kk vv
theorem wq_24 (cA : Nat → ClassId) (x y : Nat) (a f kk vv : Nat → Nat) : wcP cA x y a f kk vv 24 := fun sh hs => by cases hs; exact wc_24 cA x y a f kk vv
theorem wq_25 (cA : Nat → ClassId) (x y : Nat) (a f kk vv : Nat → Nat) : wcP cA x y a f kk vv 25 := fun sh hs => by cases hs; exact wc_25 cA x y a f kk vv
theorem wq_26 (cA : Nat → ClassId) (x y : Nat) (a f kk vv : Nat → Nat) : wcP cA x y a f kk vv 26 := fun sh hs => by cases hs; exact wc_26 cA x y a f kk vv
theorem wq_27 (cA : Nat → ClassId) (x y : Nat) (a f kk vv : Nat → Nat) : wcP cA x y a f kk vv 27 := fun sh hs => by cases hs; exact wc_27 cA x y a f kk vv
theorem wq_28 (cA : Nat → ClassId) (x y : Nat) (a f kk vv : Nat → Nat) : wcP cA x y a f kk vv 28 := fun sh hs => by cases hs; exact wc_28 cA x y a f kk vv
theorem wq_29 (cA : Nat → ClassId) (x y : Nat) (a f kk vv : Nat → Nat) : wcP cA x y a f kk vv 29 := fun sh hs => by cases hs; exact wc_29 cA x y a f kk vv
theorem wq_30 (cA : Nat → ClassId) (x y : Nat) (a f kk vv : Nat → Nat) : wcP cA x y a f kk vv 30 := fun sh hs => by cases hs; exact wc_30 cA x y a f kk vv
theorem wq_31 (cA : Nat → ClassId) (x y : Nat) (a f kk vv : Nat → Nat) : wcP cA x y a f kk vv 31 := fun sh hs => by cases hs; exact wc_31 cA x y a f kk vv
theorem wq_32 (cA : Nat → ClassId) (x y : Nat) (a f kk vv : Nat → Nat) : wcP cA x y a f kk vv 32 := fun sh hs => by cases hs; exact wc_32 cA x y a f kk vv
theorem wq_33 (cA : Nat → ClassId) (x y : Nat) (a f kk vv : Nat → Nat) : wcP cA x y a f kk vv 33 := fun sh hs => by cases hs; exact wc_33 cA x y a f kk vv
theorem wq_34 (cA : Nat → ClassId) (x y : Nat) (a f kk vv : Nat → Nat) : wcP cA x y a f kk vv 34 := fun sh hs => by cases hs; exact wc_34 cA x y a f kk vv
theorem wq_35 (cA : Nat → ClassId) (x y : Nat) (a f kk vv : Nat → Nat) : wcP cA x y a f kk vv 35 := fun sh hs => by cases hs; exact wc_35 cA x y a f kk vv
theorem wq_36 (cA : Nat → ClassId) (x y : Nat) (a f kk vv : Nat → Nat) : wcP cA x y a f kk vv 36 := fun sh hs => by cases hs; exact wc_36 cA x y a f kk vv
theorem wq_37 (cA : Nat → ClassId) (x y : Nat) (a f kk vv : Nat → Nat) : wcP cA x y a f kk vv 37 := fun sh hs => by cases hs; exact wc_37 cA x y a f kk vv
theorem wq_38 (cA : Nat → ClassId) (x y : Nat) (a f kk vv : Nat → Nat) : wcP cA x y a f kk vv 38 := fun sh hs => by cases hs; exact wc_38 cA x y a f kk vv
theorem wq_39 (cA : Nat → ClassId) (x y : Nat) (a f kk vv : Nat → Nat) : wcP cA x y a f kk vv 39 := fun sh hs => by cases hs; exact wc_39 cA x y a f kk vv
theorem wq_40 (cA : Nat → ClassId) (x y : Nat) (a f kk vv : Nat → Nat) : wcP cA x y a f kk vv 40 := fun sh hs => by cases hs; exact wc_40 cA x y a f kk vv
theorem wq_41 (cA : Nat → ClassId) (x y : Nat) (a f kk vv : Nat → Nat) : wcP cA x y a f kk vv 41 := fun sh hs => by cases hs; exact wc_41 cA x y a f kk vv
theorem wq_42 (cA : Nat → ClassId) (x y : Nat) (a f kk vv : Nat → Nat) : wcP cA x y a f kk vv 42 := fun sh hs => by cases hs; exact wc_42 cA x y a f kk vv
theorem wq_43 (cA : Nat → ClassId) (x y : Nat) (a f kk vv : Nat → Nat) : wcP cA x y a f kk vv 43 := fun sh hs => by cases hs; exact wc_43 cA x y a f kk vv
theorem wq_44 (cA : Nat → ClassId) (x y : Nat) (a f kk vv : Nat → Nat) : wcP cA x y a f kk vv 44 := fun sh hs => by cases hs; exact wc_44 cA x y a f kk vv
theorem wq_45 (cA : Nat → ClassId) (x y : Nat) (a f kk vv : Nat → Nat) : wcP cA x y a f kk vv 45 := fun sh hs => by cases hs; exact wc_45 cA x y a f kk vv
theorem wq_46 (cA : Nat → ClassId) (x y : Nat) (a f kk vv : Nat → Nat) : wcP cA x y a f kk vv 46 := fun sh hs => by cases hs; exact wc_46 cA x y a f kk vv
theorem wq_47 (cA : Nat → ClassId) (x y : Nat) (a f kk vv : Nat → Nat) : wcP cA x y a f kk vv 47 := fun sh hs => by cases hs; exact wc_47 cA x y a f kk vv
theorem wq_48 (cA : Nat → ClassId) (x y : Nat) (a f kk vv : Nat → Nat) : wcP cA x y a f kk vv 48 := fun sh hs => by cases hs; exact wc_48 cA x y a f kk vv
theorem wq_49 (cA : Nat → ClassId) (x y : Nat) (a f kk vv : Nat → Nat) : wcP cA x y a f kk vv 49 := fun sh hs => by cases hs; exact wc_49 cA x y a f kk vv
theorem wq_50 (cA : Nat → ClassId) (x y : Nat) (a f kk vv : Nat → Nat) : wcP cA x y a f kk vv 50 := fun sh hs => by cases hs; exact wc_50 cA x y a f kk vv
theorem wq_51 (cA : Nat → ClassId) (x y : Nat) (a f kk vv : Nat → Nat) : wcP cA x y a f kk vv 51 := fun sh hs => by cases hs; exact wc_51 cA x y a f kk vv
theorem wq_52 (cA : Nat → ClassId) (x y : Nat) (a f kk vv : Nat → Nat) : wcP cA x y a f kk vv 52 := fun sh hs => by cases hs; exact wc_52 cA x y a f kk vv
theorem wq_53 (cA : Nat → ClassId) (x y : Nat) (a f kk vv : Nat → Nat) : wcP cA x y a f kk vv 53 := fun sh hs => by cases hs; exact wc_53 cA x y a f kk vv
theorem wq_54 (cA : Nat → ClassId) (x y : Nat) (a f kk vv : Nat → Nat) : wcP cA x y a f kk vv 54 := fun sh hs => by cases hs; exact wc_54 cA x y a f kk vv
theorem wq_55 (cA : Nat → ClassId) (x y : Nat) (a f kk vv : Nat → Nat) : wcP cA x y a f kk vv 55 := fun sh hs => by cases hs; exact wc_55 cA x y a f kk vv
theorem wq_56 (cA : Nat → ClassId) (x y : Nat) (a f kk vv : Nat → Nat) : wcP cA x y a f kk vv 56 := fun sh hs => by cases hs; exact wc_56 cA x y a f kk vv
theorem wq_57 (cA : Nat → ClassId) (x y : Nat) (a f kk vv : Nat → Nat) : wcP cA x y a f kk vv 57 := fun sh hs => by cases hs; exact wc_57 cA x y a f kk vv
theorem wq_58 (cA : Nat → ClassId) (x y : Nat) (a f kk vv : Nat → Nat) : wcP cA x y a f kk vv 58 := fun sh hs => by cases hs; exact wc_58 cA x y a f kk vv
theorem wq_59 (cA : Nat → ClassId) (x y : Nat) (a f kk vv : Nat → Nat) : wcP cA x y a f kk vv 59 := fun sh hs => by cases hs; exact wc_59 cA x y a f kk vv
theorem wq_60 (cA : Nat → ClassId) (x y : Nat) (a f kk vv : Nat → Nat) : wcP cA x y a f kk vv 60 := fun sh hs => by cases hs; exact wc_60 cA x y a f kk vv
theorem wq_61 (cA : Nat → ClassId) (x y : Nat) (a f kk vv : Nat → Nat) : wcP cA x y a f kk vv 61 := fun sh hs => by cases hs; exact wc_61 cA x y a f kk vv
theorem wq_62 (cA : Nat → ClassId) (x y : Nat) (a f kk vv : Nat → Nat) : wcP cA x y a f kk vv 62 := fun sh hs => by cases hs; exact wc_62 cA x y a f kk vv
theorem wq_63 (cA : Nat → ClassId) (x y : Nat) (a f kk vv : Nat → Nat) : wcP cA x y a f kk vv 63 := fun sh hs => by cases hs; exact wc_63 cA x y a f kk vv
theorem wq_64 (cA : Nat → ClassId) (x y : Nat) (a f kk vv : Nat → Nat) : wcP cA x y a f kk vv 64 := fun sh hs => by cases hs; exact wc_64 cA x y a f kk vv
theorem wq_65 (cA : Nat → ClassId) (x y : Nat) (a f kk vv : Nat → Nat) : wcP cA x y a f kk vv 65 := fun sh hs => by cases hs; exact wc_65 cA x y a f kk vv
theorem wq_66 (cA : Nat → ClassId) (x y : Nat) (a f kk vv : Nat → Nat) : wcP cA x y a f kk vv 66 := fun sh hs => by cases hs; exact wc_66 cA x y a f kk vv
theorem wq_67 (cA : Nat → ClassId) (x y : Nat) (a f kk vv : Nat → Nat) : wcP cA x y a f kk vv 67 := fun sh hs => by cases hs; exact wc_67 cA x y a f kk vv
theorem wq_68 (cA : Nat → ClassId) (x y : Nat) (a f kk vv : Nat → Nat) : wcP cA x y a f kk vv 68 := fun sh hs => by cases hs; exact wc_68 cA x y a f kk vv
theorem wq_69 (cA : Nat → ClassId) (x y : Nat) (a f kk vv : Nat → Nat) : wcP cA x y a f kk vv 69 := fun sh hs => by cases hs; exact wc_69 cA x y a f kk vv
theorem wq_70 (cA : Nat → ClassId) (x y : Nat) (a f kk vv : Nat → Nat) : wcP cA x y a f kk vv 70 := fun sh hs => by cases hs; exact wc_70 cA x y a f kk vv
theorem wq_71 (cA : Nat → ClassId) (x y : Nat) (a f kk vv : Nat → Nat) : wcP cA x y a f kk vv 71 := fun sh hs => by cases hs; exact wc_71 cA x y a f kk vv
theorem wq_72 (cA : Nat → ClassId) (x y : Nat) (a f kk vv : Nat → Nat) : wcP cA x y a f kk vv 72 := fun sh hs => by cases hs; exact wc_72 cA x y a f kk vv
theorem wq_73 (cA : Nat → ClassId) (x y : Nat) (a f kk vv : Nat → Nat) : wcP cA x y a f kk vv 73 := fun sh hs => by cases hs; exact wc_73 cA x y a f kk vv
theorem wq_74 (cA : Nat → ClassId) (x y : Nat) (a f kk vv : Nat → Nat) : wcP cA x y a f kk vv 74 := fun sh hs => by cases hs; exact wc_74 cA x y a f kk vv
theorem wq_75 (cA : Nat → ClassId) (x y : Nat) (a f kk vv : Nat → Nat) : wcP cA x y a f kk vv 75 := fun sh hs => by cases hs; exact wc_75 cA x y a f kk vv
theorem wq_76 (cA : Nat → ClassId) (x y : Nat) (a f kk vv : Nat → Nat) : wcP cA x y a f kk vv 76 := fun sh hs => by cases hs; exact wc_76 cA x y a f kk vv
theorem wq_77 (cA : Nat → ClassId) (x y : Nat) (a f kk vv : Nat → Nat) : wcP cA x y a f kk vv 77 := fun sh hs => by cases hs; exact wc_77 cA x y a f kk vv
theorem wq_78 (cA : Nat → ClassId) (x y : Nat) (a f kk vv : Nat → Nat) : wcP cA x y a f kk vv 78 := fun sh hs => by cases hs; exact wc_78 cA x y a f kk vv
theorem wq_79 (cA : Nat → ClassId) (x y : Nat) (a f kk vv : Nat → Nat) : wcP cA x y a f kk vv 79 := fun sh hs => by cases hs; exact wc_79 cA x y a f kk vv
theorem wq_80 (cA : Nat → ClassId) (x y : Nat) (a f kk vv : Nat → Nat) : wcP cA x y a f kk vv 80 := fun sh hs => by cases hs; exact wc_80 cA x y a f kk vv
theorem wq_81 (cA : Nat → ClassId) (x y : Nat) (a f kk vv : Nat → Nat) : wcP cA x y a f kk vv 81 := fun sh hs => by cases hs; exact wc_81 cA x y a f kk vv
theorem wq_82 (cA : Nat → ClassId) (x y : Nat) (a f kk vv : Nat → Nat) : wcP cA x y a f kk vv 82 := fun sh hs => by cases hs; exact wc_82 cA x y a f kk vv
theorem wq_83 (cA : Nat → ClassId) (x y : Nat) (a f kk vv : Nat → Nat) : wcP cA x y a f kk vv 83 := fun sh hs => by cases hs; exact wc_83 cA x y a f kk vv
theorem wq_84 (cA : Nat → ClassId) (x y : Nat) (a f kk vv : Nat → Nat) : wcP cA x y a f kk vv 84 := fun sh hs => by cases hs; exact wc_84 cA x y a f kk vv
theorem wq_85 (cA : Nat → ClassId) (x y : Nat) (a f kk vv : Nat → Nat) : wcP cA x y a f kk vv 85 := fun sh hs => by cases hs; exact wc_85 cA x y a f kk vv
theorem wq_86 (cA : Nat → ClassId) (x y : Nat) (a f kk vv : Nat → Nat) : wcP cA x y a f kk vv 86 := fun sh hs => by cases hs; exact wc_86 cA x y a f kk vv
theorem wq_87 (cA : Nat → ClassId) (x y : Nat) (a f kk vv : Nat → Nat) : wcP cA x y a f kk vv 87 := fun sh hs => by cases hs; exact wc_87 cA x y a f kk vv
theorem wq_88 (cA : Nat → ClassId) (x y : Nat) (a f kk vv : Nat → Nat) : wcP cA x y a f kk vv 88 := fun sh hs => by cases hs; exact wc_88 cA x y a f kk vv
theorem wq_89 (cA : Nat → ClassId) (x y : Nat) (a f kk vv : Nat → Nat) : wcP cA x y a f kk vv 89 := fun sh hs => by cases hs; exact wc_89 cA x y a f kk vv
theorem wq_90 (cA : Nat → ClassId) (x y : Nat) (a f kk vv : Nat → Nat) : wcP cA x y a f kk vv 90 := fun sh hs => by cases hs; exact wc_90 cA x y a f kk vv
theorem wq_91 (cA : Nat → ClassId) (x y : Nat) (a f kk vv : Nat → Nat) : wcP cA x y a f kk vv 91 := fun sh hs => by cases hs; exact wc_91 cA x y a f kk vv
theorem wq_92 (cA : Nat → ClassId) (x y : Nat) (a f kk vv : Nat → Nat) : wcP cA x y a f kk vv 92 := fun sh hs => by cases hs; exact wc_92 cA x y a f kk vv
theorem wq_93 (cA : Nat → ClassId) (x y : Nat) (a f kk vv : Nat → Nat) : wcP cA x y a f kk vv 93 := fun sh hs => by cases hs; exact wc_93 cA x y a f kk vv
theorem wq_94 (cA : Nat → ClassId) (x y : Nat) (a f kk vv : Nat → Nat) : wcP cA x y a f kk vv 94 := fun sh hs => by cases hs; exact wc_94 cA x y a f kk vv
theorem wq_95 (cA : Nat → ClassId) (x y : Nat) (a f kk vv : Nat → Nat) : wcP cA x y a f kk vv 95 := fun sh hs => by cases hs; exact wc_95 cA x y a f kk vv
theorem wq_96 (cA : Nat → ClassId) (x y : Nat) (a f kk vv : Nat → Nat) : wcP cA x y a f kk vv 96 := fun sh hs => by cases hs; exact wc_96 cA x y a f kk vv
theorem wq_97 (cA : Nat → ClassId) (x y : Nat) (a f kk vv : Nat → Nat) : wcP cA x y a f kk vv 97 := fun sh hs => by cases hs; exact wc_97 cA x y a f kk vv
theorem wq_98 (cA : Nat → ClassId) (x y : Nat) (a f kk vv : Nat → Nat) : wcP cA x y a f kk vv 98 := fun sh hs => by cases hs; exact wc_98 cA x y a f kk vv
theorem wq_99 (cA : Nat → ClassId) (x y : Nat) (a f kk vv : Nat → Nat) : wcP cA x y a f kk vv 99 := fun sh hs => by cases hs; exact wc_99 cA x y a f kk vv
theorem wq_100 (cA : Nat → ClassId) (x y : Nat) (a f kk vv : Nat → Nat) : wcP cA x y a f kk vv 100 := fun sh hs => by cases hs; exact wc_100 cA x y a f kk vv
theorem wq_101 (cA : Nat → ClassId) (x y : Nat) (a f kk vv : Nat → Nat) : wcP cA x y a f kk vv 101 := fun sh hs => by cases hs; exact wc_101 cA x y a f kk vv
theorem wq_102 (cA : Nat → ClassId) (x y : Nat) (a f kk vv : Nat → Nat) : wcP cA x y a f kk vv 102 := fun sh hs => by cases hs; exact wc_102 cA x y a f kk vv
theorem wq_103 (cA : Nat → ClassId) (x y : Nat) (a f kk vv : Nat → Nat) : wcP cA x y a f kk vv 103 := fun sh hs => by cases hs; exact wc_103 cA x y a f kk vv
theorem wq_104 (cA : Nat → ClassId) (x y : Nat) (a f kk vv : Nat → Nat) : wcP cA x y a f kk vv 104 := fun sh hs => by cases hs; exact wc_104 cA x y a f kk vv
theorem wq_105 (cA : Nat → ClassId) (x y : Nat) (a f kk vv : Nat → Nat) : wcP cA x y a f kk vv 105 := fun sh hs => by cases hs; exact wc_105 cA x y a f kk vv
theorem wq_106 (cA : Nat → ClassId) (x y : Nat) (a f kk vv : Nat → Nat) : wcP cA x y a f kk vv 106 := fun sh hs => by cases hs; exact wc_106 cA x y a f kk vv
theorem wq_107 (cA : Nat → ClassId) (x y : Nat) (a f kk vv : Nat → Nat) : wcP cA x y a f kk vv 107 := fun sh hs => by cases hs; exact wc_107 cA x y a f kk vv
theorem wq_108 (cA : Nat → ClassId) (x y : Nat) (a f kk vv : Nat → Nat) : wcP cA x y a f kk vv 108 := fun sh hs => by cases hs; exact wc_108 cA x y a f kk vv
theorem wq_109 (cA : Nat → ClassId) (x y : Nat) (a f kk vv : Nat → Nat) : wcP cA x y a f kk vv 109 := fun sh hs => by cases hs; exact wc_109 cA x y a f kk vv
theorem wq_110 (cA : Nat → ClassId) (x y : Nat) (a f kk vv : Nat → Nat) : wcP cA x y a f kk vv 110 := fun sh hs => by cases hs; exact wc_110 cA x y a f kk vv
theorem wq_111 (cA : Nat → ClassId) (x y : Nat) (a f kk vv : Nat → Nat) : wcP cA x y a f kk vv 111 := fun sh hs => by cases hs; exact wc_111 cA x y a f kk vv
theorem wq_112 (cA : Nat → ClassId) (x y : Nat) (a f kk vv : Nat → Nat) : wcP cA x y a f kk vv 112 := fun sh hs => by cases hs; exact wc_112 cA x y a f kk vv
theorem wq_113 (cA : Nat → ClassId) (x y : Nat) (a f kk vv : Nat → Nat) : wcP cA x y a f kk vv 113 := fun sh hs => by cases hs; exact wc_113 cA x y a f kk vv
theorem wq_114 (cA : Nat → ClassId) (x y : Nat) (a f kk vv : Nat → Nat) : wcP cA x y a f kk vv 114 := fun sh hs => by cases hs; exact wc_114 cA x y a f kk vv
theorem wq_115 (cA : Nat → ClassId) (x y : Nat) (a f kk vv : Nat → Nat) : wcP cA x y a f kk vv 115 := fun sh hs => by cases hs; exact wc_115 cA x y a f kk vv
theorem wq_116 (cA : Nat → ClassId) (x y : Nat) (a f kk vv : Nat → Nat) : wcP cA x y a f kk vv 116 := fun sh hs => by cases hs; exact wc_116 cA x y a f kk vv
theorem wq_117 (cA : Nat → ClassId) (x y : Nat) (a f kk vv : Nat → Nat) : wcP cA x y a f kk vv 117 := fun sh hs => by cases hs; exact wc_117 cA x y a f kk vv
theorem wq_118 (cA : Nat → ClassId) (x y : Nat) (a f kk vv : Nat → Nat) : wcP cA x y a f kk vv 118 := fun sh hs => by cases hs; exact wc_118 cA x y a f kk vv
theorem wq_119 (cA : Nat → ClassId) (x y : Nat) (a f kk vv : Nat → Nat) : wcP cA x y a f kk vv 119 := fun sh hs => by cases hs; exact wc_119 cA x y a f kk vv
theorem wq_120 (cA : Nat → ClassId) (x y : Nat) (a f kk vv : Nat → Nat) : wcP cA x y a f kk vv 120 := fun sh hs => by cases hs; exact wc_120 cA x y a f kk vv
theorem wq_121 (cA : Nat → ClassId) (x y : Nat) (a f kk vv : Nat → Nat) : wcP cA x y a f kk vv 121 := fun sh hs => by cases hs; exact wc_121 cA x y a f kk vv
theorem wq_122 (cA : Nat → ClassId) (x y : Nat) (a f kk vv : Nat → Nat) : wcP cA x y a f kk vv 122 := fun sh hs => by cases hs; exact wc_122 cA x y a f kk vv
theorem wq_123 (cA : Nat → ClassId) (x y : Nat) (a f kk vv : Nat → Nat) : wcP cA x y a f kk vv 123 := fun sh hs => by cases hs; exact wc_123 cA x y a f kk vv
theorem wq_124 (cA : Nat → ClassId) (x y : Nat) (a f kk vv : Nat → Nat) : wcP cA x y a f kk vv 124 := fun sh hs => by cases hs; exact wc_124 cA x y a f kk vv
theorem wq_125 (cA : Nat → ClassId) (x y : Nat) (a f kk vv : Nat → Nat) : wcP cA x y a f kk vv 125 := fun sh hs => by cases hs; exact wc_125 cA x y a f kk vv
theorem wq_126 (cA : Nat → ClassId) (x y : Nat) (a f kk vv : Nat → Nat) : wcP cA x y a f kk vv 126 := fun sh hs => by cases hs; exact wc_126 cA x y a f kk vv
theorem wq_127 (cA : Nat → ClassId) (x y : Nat) (a f kk vv : Nat → Nat) : wcP cA x y a f kk vv 127 := fun sh hs => by cases hs; exact wc_127 cA x y a f kk vv
theorem wq_128 (cA : Nat → ClassId) (x y : Nat) (a f kk vv : Nat → Nat) : wcP cA x y a f kk vv 128 := fun sh hs => by cases hs; exact wc_128 cA x y a f kk vv
theorem wq_129 (cA : Nat → ClassId) (x y : Nat) (a f kk vv : Nat → Nat) : wcP cA x y a f kk vv 129 := fun sh hs => by cases hs; exact wc_129 cA x y a f kk vv
theorem wq_130 (cA : Nat → ClassId) (x y : Nat) (a f kk vv : Nat → Nat) : wcP cA x y a f kk vv 130 := fun sh hs => by cases hs; exact wc_130 cA x y a f kk vv
theorem wq_131 (cA : Nat → ClassId) (x y : Nat) (a f kk vv : Nat → Nat) : wcP cA x y a f kk vv 131 := fun sh hs => by cases hs; exact wc_131 cA x y a f kk vv
theorem wq_132 (cA : Nat → ClassId) (x y : Nat) (a f kk vv : Nat → Nat) : wcP cA x y a f kk vv 132 := fun sh hs => by cases hs; exact wc_132 cA x y a f kk vv
theorem w_all (cA : Nat → ClassId) (x y : Nat) (a f kk vv : Nat → Nat) : ∀ c, c < 133 → wcP cA x y a f kk vv c := by
  have h0 : ∀ c, c < 0 → wcP cA x y a f kk vv c := fun c h => absurd h (Nat.not_lt_zero c)
  have h1 : ∀ c, c < 1 → wcP cA x y a f kk vv c := ltw_s h0 (wq_0 cA x y a f kk vv)
  have h2 : ∀ c, c < 2 → wcP cA x y a f kk vv c := ltw_s h1 (wq_1 cA x y a f kk vv)
  have h3 : ∀ c, c < 3 → wcP cA x y a f kk vv c := ltw_s h2 (wq_2 cA x y a f kk vv)
  have h4 : ∀ c, c < 4 → wcP cA x y a f kk vv c := ltw_s h3 (wq_3 cA x y a f kk vv)
  have h5 : ∀ c, c < 5 → wcP cA x y a f kk vv c := ltw_s h4 (wq_4 cA x y a f kk vv)
  have h6 : ∀ c, c < 6 → wcP cA x y a f kk vv c := ltw_s h5 (wq_5 cA x y a f kk vv)
  have h7 : ∀ c, c < 7 → wcP cA x y a f kk vv c := ltw_s h6 (wq_6 cA x y a f kk vv)
  have h8 : ∀ c, c < 8 → wcP cA x y a f kk vv c := ltw_s h7 (wq_7 cA x y a f kk vv)
  have h9 : ∀ c, c < 9 → wcP cA x y a f kk vv c := ltw_s h8 (wq_8 cA x y a f kk vv)
  have h10 : ∀ c, c < 10 → wcP cA x y a f kk vv c := ltw_s h9 (wq_9 cA x y a f kk vv)
  have h11 : ∀ c, c < 11 → wcP cA x y a f kk vv c := ltw_s h10 (wq_10 cA x y a f kk vv)
  have h12 : ∀ c, c < 12 → wcP cA x y a f kk vv c := ltw_s h11 (wq_11 cA x y a f kk vv)
  have h13 : ∀ c, c < 13 → wcP cA x y a f kk vv c := ltw_s h12 (wq_12 cA x y a f kk vv)
  have h14 : ∀ c, c < 14 → wcP cA x y a f kk vv c := ltw_s h13 (wq_13 cA x y a f kk vv)
  have h15 : ∀ c, c < 15 → wcP cA x y a f kk vv c := ltw_s h14 (wq_14 cA x y a f kk vv)
  have h16 : ∀ c, c < 16 → wcP cA x y a f kk vv c := ltw_s h15 (wq_15 cA x y a f kk vv)
  have h17 : ∀ c, c < 17 → wcP cA x y a f kk vv c := ltw_s h16 (wq_16 cA x y a f kk vv)
  have h18 : ∀ c, c < 18 → wcP cA x y a f kk vv c := ltw_s h17 (wq_17 cA x y a f kk vv)
  have h19 : ∀ c, c < 19 → wcP cA x y a f kk vv c := ltw_s h18 (wq_18 cA x y a f kk vv)
  have h20 : ∀ c, c < 20 → wcP cA x y a f kk vv c := ltw_s h19 (wq_19 cA x y a f kk vv)
  have h21 : ∀ c, c < 21 → wcP cA x y a f kk vv c := ltw_s h20 (wq_20 cA x y a f kk vv)
  have h22 : ∀ c, c < 22 → wcP cA x y a f kk vv c := ltw_s h21 (wq_21 cA x y a f kk vv)
  have h23 : ∀ c, c < 23 → wcP cA x y a f kk vv c := ltw_s h22 (wq_22 cA x y a f kk vv)
  have h24 : ∀ c, c < 24 → wcP cA x y a f kk vv c := ltw_s h23 (wq_23 cA x y a f kk vv)
  have h25 : ∀ c, c < 25 → wcP cA x y a f kk vv c := ltw_s h24 (wq_24 cA x y a f kk vv)
  have h26 : ∀ c, c < 26 → wcP cA x y a f kk vv c := ltw_s h25 (wq_25 cA x y a f kk vv)
  have h27 : ∀ c, c < 27 → wcP cA x y a f kk vv c := ltw_s h26 (wq_26 cA x y a f kk vv)
  have h28 : ∀ c, c < 28 → wcP cA x y a f kk vv c := ltw_s h27 (wq_27 cA x y a f kk vv)
  have h29 : ∀ c, c < 29 → wcP cA x y a f kk vv c := ltw_s h28 (wq_28 cA x y a f kk vv)
  have h30 : ∀ c, c < 30 → wcP cA x y a f kk vv c := ltw_s h29 (wq_29 cA x y a f kk vv)
  have h31 : ∀ c, c < 31 → wcP cA x y a f kk vv c := ltw_s h30 (wq_30 cA x y a f kk vv)
  have h32 : ∀ c, c < 32 → wcP cA x y a f kk vv c := ltw_s h31 (wq_31 cA x y a f kk vv)
  have h33 : ∀ c, c < 33 → wcP cA x y a f kk vv c := ltw_s h32 (wq_32 cA x y a f kk vv)
  have h34 : ∀ c, c < 34 → wcP cA x y a f kk vv c := ltw_s h33 (wq_33 cA x y a f kk vv)
  have h35 : ∀ c, c < 35 → wcP cA x y a f kk vv c := ltw_s h34 (wq_34 cA x y a f kk vv)
  have h36 : ∀ c, c < 36 → wcP cA x y a f kk vv c := ltw_s h35 (wq_35 cA x y a f kk vv)
  have h37 : ∀ c, c < 37 → wcP cA x y a f kk vv c := ltw_s h36 (wq_36 cA x y a f kk vv)
  have h38 : ∀ c, c < 38 → wcP cA x y a f kk vv c := ltw_s h37 (wq_37 cA x y a f kk vv)
  have h39 : ∀ c, c < 39 → wcP cA x y a f kk vv c := ltw_s h38 (wq_38 cA x y a f kk vv)
  have h40 : ∀ c, c < 40 → wcP cA x y a f kk vv c := ltw_s h39 (wq_39 cA x y a f kk vv)
  have h41 : ∀ c, c < 41 → wcP cA x y a f kk vv c := ltw_s h40 (wq_40 cA x y a f kk vv)
  have h42 : ∀ c, c < 42 → wcP cA x y a f kk vv c := ltw_s h41 (wq_41 cA x y a f kk vv)
  have h43 : ∀ c, c < 43 → wcP cA x y a f kk vv c := ltw_s h42 (wq_42 cA x y a f kk vv)
  have h44 : ∀ c, c < 44 → wcP cA x y a f kk vv c := ltw_s h43 (wq_43 cA x y a f kk vv)
  have h45 : ∀ c, c < 45 → wcP cA x y a f kk vv c := ltw_s h44 (wq_44 cA x y a f kk vv)
  have h46 : ∀ c, c < 46 → wcP cA x y a f kk vv c := ltw_s h45 (wq_45 cA x y a f kk vv)
  have h47 : ∀ c, c < 47 → wcP cA x y a f kk vv c := ltw_s h46 (wq_46 cA x y a f kk vv)
  have h48 : ∀ c, c < 48 → wcP cA x y a f kk vv c := ltw_s h47 (wq_47 cA x y a f kk vv)
  have h49 : ∀ c, c < 49 → wcP cA x y a f kk vv c := ltw_s h48 (wq_48 cA x y a f kk vv)
  have h50 : ∀ c, c < 50 → wcP cA x y a f kk vv c := ltw_s h49 (wq_49 cA x y a f kk vv)
  have h51 : ∀ c, c < 51 → wcP cA x y a f kk vv c := ltw_s h50 (wq_50 cA x y a f kk vv)
  have h52 : ∀ c, c < 52 → wcP cA x y a f kk vv c := ltw_s h51 (wq_51 cA x y a f kk vv)
  have h53 : ∀ c, c < 53 → wcP cA x y a f kk vv c := ltw_s h52 (wq_52 cA x y a f kk vv)
  have h54 : ∀ c, c < 54 → wcP cA x y a f kk vv c := ltw_s h53 (wq_53 cA x y a f kk vv)
  have h55 : ∀ c, c < 55 → wcP cA x y a f kk vv c := ltw_s h54 (wq_54 cA x y a f kk vv)
  have h56 : ∀ c, c < 56 → wcP cA x y a f kk vv c := ltw_s h55 (wq_55 cA x y a f kk vv)
  have h57 : ∀ c, c < 57 → wcP cA x y a f kk vv c := ltw_s h56 (wq_56 cA x y a f kk vv)
  have h58 : ∀ c, c < 58 → wcP cA x y a f kk vv c := ltw_s h57 (wq_57 cA x y a f kk vv)
  have h59 : ∀ c, c < 59 → wcP cA x y a f kk vv c := ltw_s h58 (wq_58 cA x y a f kk vv)
  have h60 : ∀ c, c < 60 → wcP cA x y a f kk vv c := ltw_s h59 (wq_59 cA x y a f kk vv)
  have h61 : ∀ c, c < 61 → wcP cA x y a f kk vv c := ltw_s h60 (wq_60 cA x y a f kk vv)
  have h62 : ∀ c, c < 62 → wcP cA x y a f kk vv c := ltw_s h61 (wq_61 cA x y a f kk vv)
  have h63 : ∀ c, c < 63 → wcP cA x y a f kk vv c := ltw_s h62 (wq_62 cA x y a f kk vv)
  have h64 : ∀ c, c < 64 → wcP cA x y a f kk vv c := ltw_s h63 (wq_63 cA x y a f kk vv)
  have h65 : ∀ c, c < 65 → wcP cA x y a f kk vv c := ltw_s h64 (wq_64 cA x y a f kk vv)
  have h66 : ∀ c, c < 66 → wcP cA x y a f kk vv c := ltw_s h65 (wq_65 cA x y a f kk vv)
  have h67 : ∀ c, c < 67 → wcP cA x y a f kk vv c := ltw_s h66 (wq_66 cA x y a f kk vv)
  have h68 : ∀ c, c < 68 → wcP cA x y a f kk vv c := ltw_s h67 (wq_67 cA x y a f kk vv)
  have h69 : ∀ c, c < 69 → wcP cA x y a f kk vv c := ltw_s h68 (wq_68 cA x y a f kk vv)
  have h70 : ∀ c, c < 70 → wcP cA x y a f kk vv c := ltw_s h69 (wq_69 cA x y a f kk vv)
  have h71 : ∀ c, c < 71 → wcP cA x y a f kk vv c := ltw_s h70 (wq_70 cA x y a f kk vv)
  have h72 : ∀ c, c < 72 → wcP cA x y a f kk vv c := ltw_s h71 (wq_71 cA x y a f kk vv)
  have h73 : ∀ c, c < 73 → wcP cA x y a f kk vv c := ltw_s h72 (wq_72 cA x y a f kk vv)
  have h74 : ∀ c, c < 74 → wcP cA x y a f kk vv c := ltw_s h73 (wq_73 cA x y a f kk vv)
  have h75 : ∀ c, c < 75 → wcP cA x y a f kk vv c := ltw_s h74 (wq_74 cA x y a f kk vv)
  have h76 : ∀ c, c < 76 → wcP cA x y a f kk vv c := ltw_s h75 (wq_75 cA x y a f kk vv)
  have h77 : ∀ c, c < 77 → wcP cA x y a f kk vv c := ltw_s h76 (wq_76 cA x y a f kk vv)
  have h78 : ∀ c, c < 78 → wcP cA x y a f kk vv c := ltw_s h77 (wq_77 cA x y a f kk vv)
  have h79 : ∀ c, c < 79 → wcP cA x y a f kk vv c := ltw_s h78 (wq_78 cA x y a f kk vv)
  have h80 : ∀ c, c < 80 → wcP cA x y a f kk vv c := ltw_s h79 (wq_79 cA x y a f kk vv)
  have h81 : ∀ c, c < 81 → wcP cA x y a f kk vv c := ltw_s h80 (wq_80 cA x y a f kk vv)
  have h82 : ∀ c, c < 82 → wcP cA x y a f kk vv c := ltw_s h81 (wq_81 cA x y a f kk vv)
  have h83 : ∀ c, c < 83 → wcP cA x y a f kk vv c := ltw_s h82 (wq_82 cA x y a f kk vv)
  have h84 : ∀ c, c < 84 → wcP cA x y a f kk vv c := ltw_s h83 (wq_83 cA x y a f kk vv)
  have h85 : ∀ c, c < 85 → wcP cA x y a f kk vv c := ltw_s h84 (wq_84 cA x y a f kk vv)
  have h86 : ∀ c, c < 86 → wcP cA x y a f kk vv c := ltw_s h85 (wq_85 cA x y a f kk vv)
  have h87 : ∀ c, c < 87 → wcP cA x y a f kk vv c := ltw_s h86 (wq_86 cA x y a f kk vv)
  have h88 : ∀ c, c < 88 → wcP cA x y a f kk vv c := ltw_s h87 (wq_87 cA x y a f kk vv)
  have h89 : ∀ c, c < 89 → wcP cA x y a f kk vv c := ltw_s h88 (wq_88 cA x y a f kk vv)
  have h90 : ∀ c, c < 90 → wcP cA x y a f kk vv c := ltw_s h89 (wq_89 cA x y a f kk vv)
  have h91 : ∀ c, c < 91 → wcP cA x y a f kk vv c := ltw_s h90 (wq_90 cA x y a f kk vv)
  have h92 : ∀ c, c < 92 → wcP cA x y a f kk vv c := ltw_s h91 (wq_91 cA x y a f kk vv)
  have h93 : ∀ c, c < 93 → wcP cA x y a f kk vv c := ltw_s h92 (wq_92 cA x y a f kk vv)
  have h94 : ∀ c, c < 94 → wcP cA x y a f kk vv c := ltw_s h93 (wq_93 cA x y a f kk vv)
  have h95 : ∀ c, c < 95 → wcP cA x y a f kk vv c := ltw_s h94 (wq_94 cA x y a f kk vv)
  have h96 : ∀ c, c < 96 → wcP cA x y a f kk vv c := ltw_s h95 (wq_95 cA x y a f kk vv)
  have h97 : ∀ c, c < 97 → wcP cA x y a f kk vv c := ltw_s h96 (wq_96 cA x y a f kk vv)
  have h98 : ∀ c, c < 98 → wcP cA x y a f kk vv c := ltw_s h97 (wq_97 cA x y a f kk vv)
  have h99 : ∀ c, c < 99 → wcP cA x y a f kk vv c := ltw_s h98 (wq_98 cA x y a f kk vv)
  have h100 : ∀ c, c < 100 → wcP cA x y a f kk vv c := ltw_s h99 (wq_99 cA x y a f kk vv)
  have h101 : ∀ c, c < 101 → wcP cA x y a f kk vv c := ltw_s h100 (wq_100 cA x y a f kk vv)
  have h102 : ∀ c, c < 102 → wcP cA x y a f kk vv c := ltw_s h101 (wq_101 cA x y a f kk vv)
  have h103 : ∀ c, c < 103 → wcP cA x y a f kk vv c := ltw_s h102 (wq_102 cA x y a f kk vv)
  have h104 : ∀ c, c < 104 → wcP cA x y a f kk vv c := ltw_s h103 (wq_103 cA x y a f kk vv)
  have h105 : ∀ c, c < 105 → wcP cA x y a f kk vv c := ltw_s h104 (wq_104 cA x y a f kk vv)
  have h106 : ∀ c, c < 106 → wcP cA x y a f kk vv c := ltw_s h105 (wq_105 cA x y a f kk vv)
  have h107 : ∀ c, c < 107 → wcP cA x y a f kk vv c := ltw_s h106 (wq_106 cA x y a f kk vv)
  have h108 : ∀ c, c < 108 → wcP cA x y a f kk vv c := ltw_s h107 (wq_107 cA x y a f kk vv)
  have h109 : ∀ c, c < 109 → wcP cA x y a f kk vv c := ltw_s h108 (wq_108 cA x y a f kk vv)
  have h110 : ∀ c, c < 110 → wcP cA x y a f kk vv c := ltw_s h109 (wq_109 cA x y a f kk vv)
  have h111 : ∀ c, c < 111 → wcP cA x y a f kk vv c := ltw_s h110 (wq_110 cA x y a f kk vv)
  have h112 : ∀ c, c < 112 → wcP cA x y a f kk vv c := ltw_s h111 (wq_111 cA x y a f kk vv)
  have h113 : ∀ c, c < 113 → wcP cA x y a f kk vv c := ltw_s h112 (wq_112 cA x y a f kk vv)
  have h114 : ∀ c, c < 114 → wcP cA x y a f kk vv c := ltw_s h113 (wq_113 cA x y a f kk vv)
  have h115 : ∀ c, c < 115 → wcP cA x y a f kk vv c := ltw_s h114 (wq_114 cA x y a f kk vv)
  have h116 : ∀ c, c < 116 → wcP cA x y a f kk vv c := ltw_s h115 (wq_115 cA x y a f kk vv)
  have h117 : ∀ c, c < 117 → wcP cA x y a f kk vv c := ltw_s h116 (wq_116 cA x y a f kk vv)
  have h118 : ∀ c, c < 118 → wcP cA x y a f kk vv c := ltw_s h117 (wq_117 cA x y a f kk vv)
  have h119 : ∀ c, c < 119 → wcP cA x y a f kk vv c := ltw_s h118 (wq_118 cA x y a f kk vv)
  have h120 : ∀ c, c < 120 → wcP cA x y a f kk vv c := ltw_s h119 (wq_119 cA x y a f kk vv)
  have h121 : ∀ c, c < 121 → wcP cA x y a f kk vv c := ltw_s h120 (wq_120 cA x y a f kk vv)
  have h122 : ∀ c, c < 122 → wcP cA x y a f kk vv c := ltw_s h121 (wq_121 cA x y a f kk vv)
  have h123 : ∀ c, c < 123 → wcP cA x y a f kk vv c := ltw_s h122 (wq_122 cA x y a f kk vv)
  have h124 : ∀ c, c < 124 → wcP cA x y a f kk vv c := ltw_s h123 (wq_123 cA x y a f kk vv)
  have h125 : ∀ c, c < 125 → wcP cA x y a f kk vv c := ltw_s h124 (wq_124 cA x y a f kk vv)
  have h126 : ∀ c, c < 126 → wcP cA x y a f kk vv c := ltw_s h125 (wq_125 cA x y a f kk vv)
  have h127 : ∀ c, c < 127 → wcP cA x y a f kk vv c := ltw_s h126 (wq_126 cA x y a f kk vv)
  have h128 : ∀ c, c < 128 → wcP cA x y a f kk vv c := ltw_s h127 (wq_127 cA x y a f kk vv)
  have h129 : ∀ c, c < 129 → wcP cA x y a f kk vv c := ltw_s h128 (wq_128 cA x y a f kk vv)
  have h130 : ∀ c, c < 130 → wcP cA x y a f kk vv c := ltw_s h129 (wq_129 cA x y a f kk vv)
  have h131 : ∀ c, c < 131 → wcP cA x y a f kk vv c := ltw_s h130 (wq_130 cA x y a f kk vv)
  have h132 : ∀ c, c < 132 → wcP cA x y a f kk vv c := ltw_s h131 (wq_131 cA x y a f kk vv)
  have h133 : ∀ c, c < 133 → wcP cA x y a f kk vv c := ltw_s h132 (wq_132 cA x y a f kk vv)
  exact h133
theorem w_cell (cA : Nat → ClassId) (x y : Nat) (a f kk vv : Nat → Nat) : ∀ (c : Nat) (q : Nat × va_E), (mws zX (adr0 x y a f kk vv) cA (eh H0z))[c]? = some q → ∃ e : va_E, (w0 cA x y a f)[piL.getD c 0]? = some (q.1, e) ∧ ∀ (D : va_G) (Hp : Heap), va_at D mcl (q.1, e) Hp → va_at D mcl q Hp := by
  intro c q hq
  have hlt : c < 133 := by
    have h1 := (List.getElem?_eq_some_iff.mp hq).1
    rw [mws_len] at h1
    exact h1
  have key : ∀ sh : MSh, zX.1[c]? = some sh → wcl cA x y a f kk vv c sh := fun sh hs => w_all cA x y a f kk vv c hlt sh hs
  have hs : zX.1[c]? = some (zX.1[c]'hlt) := List.getElem?_eq_getElem hlt
  rw [mws_get hs] at hq
  cases hq
  exact key _ hs
theorem w_P0 {D : va_G} {cA : Nat → ClassId} {x y : Nat} {a f kk vv : Nat → Nat} {Hp : Heap} (h : va_P D mcl (w0 cA x y a f) Hp) : va_P D mcl (mws zX (adr0 x y a f kk vv) cA (eh H0z)) Hp := fun c q hq => by
  obtain ⟨e, h1, h2⟩ := w_cell cA x y a f kk vv c q hq
  exact h2 D Hp (h _ _ h1)
theorem w_D0 {A : Nat → Prop} {cA : Nat → ClassId} {x y : Nat} {a f kk vv : Nat → Nat} (h : va_D A (w0 cA x y a f)) : va_D A (mws zX (adr0 x y a f kk vv) cA (eh H0z)) := by
  refine ⟨fun i j p q hi hj e => ?_, fun c q hq => ?_⟩
  · obtain ⟨e1, h1, -⟩ := w_cell cA x y a f kk vv i p hi
    obtain ⟨e2, h2, -⟩ := w_cell cA x y a f kk vv j q hj
    have hπ := h.1 _ _ _ _ h1 h2 e
    have li : i < 133 := by
      have z := (List.getElem?_eq_some_iff.mp hi).1
      rw [mws_len] at z
      exact z
    have lj : j < 133 := by
      have z := (List.getElem?_eq_some_iff.mp hj).1
      rw [mws_len] at z
      exact z
    rw [← pi_inv i li, ← pi_inv j lj, hπ]
  · obtain ⟨e1, h1, -⟩ := w_cell cA x y a f kk vv c q hq
    have h9 := h.2 _ _ h1
    exact h9
