/-! GROUP G3: the law. -/
def fct (A N : Nat → Int) (k v : Int) (c : Nat) : Bool := if 5 ≤ k ∧ k ≤ 12 then decide (A 34 / 2 ^ (k - 5).toNat % 2 = 1) else if k = 22 then decide (N c < v) else if k = 23 then decide (v ≤ N (8 + c)) else if k = 24 then decide (A (2 + c) = v) else if k = 4 then decide (A (26 + c) = v) else if k = 25 then tsm A N (A (2 + c)) (A (2 + c)) (-1) 2 (N c) (A 1).toNat else if k = 26 then tsm A N (A (2 + c) - 1) (A (2 + c) + 1) (A (2 + c)) 2 1000 (A 1).toNat else if k = 27 then tsm A N 0 3 (A (2 + c)) 1 (N c) (A 1).toNat else decide (0 < N 32 ∨ N 33 = 1)
/-- the stack of a TEST's steps -/
def rstep (A N : Nat → Int) (c i : Nat) (st : List Bool) : List Bool := if A (77 + 2 * i) = 21 then (match st with | b :: t => (!b) :: t | [] => []) else if A (77 + 2 * i) = 20 then (match st with | b :: a :: t => (a && b) :: t | _ => []) else if A (77 + 2 * i) = 19 then (match st with | b :: a :: t => (a || b) :: t | _ => []) else fct A N (A (77 + 2 * i)) (A (78 + 2 * i)) c :: st
def rrun (A N : Nat → Int) (c fr : Nat) : Nat → List Bool
  | 0 => []
  | n + 1 => rstep A N c (fr + n) (rrun A N c fr n)
def rdep (A : Nat → Int) (fr : Nat) : Nat → Int
  | 0 => 0
  | n + 1 => rdep A fr n + (if A (77 + 2 * (fr + n)) = 21 then 0 else if A (77 + 2 * (fr + n)) = 20 ∨ A (77 + 2 * (fr + n)) = 19 then -1 else 1)
/-- the law as it must be -/
def WFL (A : Nat → Int) : Prop := (0 ≤ A 40 ∧ A 40 ≤ 12) ∧ ∀ l : Nat, (l : Int) < A 40 → (0 ≤ A (41 + l) ∧ A (41 + l) ≤ 100) ∧ (0 ≤ A (53 + l) ∧ A (53 + l) ≤ A (65 + l) ∧ A (65 + l) ≤ 199) ∧ (A (53 + l) = if l = 0 then 0 else A (65 + (l - 1))) ∧ rdep A (A (53 + l)).toNat (A (65 + l) - A (53 + l)).toNat = 1 ∧ ∀ n : Nat, (n : Int) < A (65 + l) - A (53 + l) → (rdep A (A (53 + l)).toNat n ≤ 30) ∧ (A (77 + 2 * ((A (53 + l)).toNat + n)) = 21 → 1 ≤ rdep A (A (53 + l)).toNat n) ∧ (A (77 + 2 * ((A (53 + l)).toNat + n)) = 20 ∨ A (77 + 2 * ((A (53 + l)).toNat + n)) = 19 → 2 ≤ rdep A (A (53 + l)).toNat n) ∧ ((4 ≤ A (77 + 2 * ((A (53 + l)).toNat + n)) ∧ A (77 + 2 * ((A (53 + l)).toNat + n)) ≤ 12) ∨ (19 ≤ A (77 + 2 * ((A (53 + l)).toNat + n)) ∧ A (77 + 2 * ((A (53 + l)).toNat + n)) ≤ 28)) ∧ (0 ≤ A (78 + 2 * ((A (53 + l)).toNat + n)) ∧ A (78 + 2 * ((A (53 + l)).toNat + n)) ≤ 999)
theorem rrun_len {A N : Nat → Int} {c fr n : Nat} (h : ∀ m : Nat, m < n → (A (77 + 2 * (fr + m)) = 21 → 1 ≤ rdep A fr m) ∧ (A (77 + 2 * (fr + m)) = 20 ∨ A (77 + 2 * (fr + m)) = 19 → 2 ≤ rdep A fr m)) : ((rrun A N c fr n).length : Int) = rdep A fr n := by
  induction n with
  | zero => rfl
  | succ n ih =>
    have i := ih (fun m hm => h m (by omega))
    have hn := h n (by omega)
    show ((rstep A N c (fr + n) (rrun A N c fr n)).length : Int) = rdep A fr n + (if A (77 + 2 * (fr + n)) = 21 then 0 else if A (77 + 2 * (fr + n)) = 20 ∨ A (77 + 2 * (fr + n)) = 19 then -1 else 1)
    unfold rstep
    by_cases q1 : A (77 + 2 * (fr + n)) = 21
    · rw [if_pos q1, if_pos q1]
      have := hn.1 q1
      cases e : rrun A N c fr n with
      | nil => rw [e] at i; simp at i; omega
      | cons b t => rw [e] at i; simp at i ⊢; omega
    · rw [if_neg q1, if_neg q1]
      by_cases q2 : A (77 + 2 * (fr + n)) = 20
      · rw [if_pos q2, if_pos (Or.inl q2)]
        have := hn.2 (Or.inl q2)
        match e : rrun A N c fr n with
        | [] => rw [e] at i; simp at i; omega
        | [b] => rw [e] at i; simp at i; omega
        | b :: a :: t => rw [e] at i; simp at i ⊢; omega
      · rw [if_neg q2]
        by_cases q3 : A (77 + 2 * (fr + n)) = 19
        · rw [if_pos q3, if_pos (Or.inr q3)]
          have := hn.2 (Or.inr q3)
          match e : rrun A N c fr n with
          | [] => rw [e] at i; simp at i; omega
          | [b] => rw [e] at i; simp at i; omega
          | b :: a :: t => rw [e] at i; simp at i ⊢; omega
        · rw [if_neg q3, if_neg (fun q => q.elim q2 q3)]
          simp
          omega
/-- the reference's pile holds the stack -/
def PileIs (f : Nat → Int) : List Bool → Prop
  | [] => True
  | b :: t => f t.length = (if b = true then 1 else 0) ∧ PileIs f t
theorem PileIs_up {f : Nat → Int} {st : List Bool} {j : Nat} {v : Int} (h : PileIs f st) (hj : st.length ≤ j) : PileIs (fun k => if k = j then v else f k) st := by
  induction st with
  | nil => trivial
  | cons b t ih =>
    have hl : t.length < j := by simp at hj; omega
    refine ⟨?_, ih h.2 (by omega)⟩
    show (if t.length = j then v else f t.length) = _
    rw [if_neg (by omega)]
    exact h.1

theorem c_X11_fact {d : Nat} {H : ZH} (ok : okZ H) {k v : Int} {c : Nat} (hk : (4 ≤ k ∧ k ≤ 12) ∨ (22 ≤ k ∧ k ≤ 28)) (hv : 0 ≤ v ∧ v ≤ 999) (hc : (c : Int) < H.1 2 1) (ws : WFS (H.1 2)) (wn : WFN (H.1 2) (H.1 6)) : EvC zX (d + 2) mX11_fact [.ref 0, .int (zN (k)), .int (zN (v)), .int (zN ((c : Int)))] (eh H) (zPi (fun (rz : Int) (Hz : ZH) => rz = (if fct (H.1 2) (H.1 6) k v c = true then 1 else 0) ∧ Hz = H)) := by
  show _ ∧ Ev zX mX11_fact (EvC zX (d + 1)) (zPi (fun (rz : Int) (Hz : ZH) => rz = (if fct (H.1 2) (H.1 6) k v c = true then 1 else 0) ∧ Hz = H)) 0 [(0, .ref 0), (1, .int (zN (k))), (2, .int (zN (v))), (3, .int (zN ((c : Int))))] [] (eh H)
  refine ⟨Nat.le_of_ble_eq_true rfl, ?_⟩
  have wsx := ws
  obtain ⟨ws0, ws1, wsC, ws34, ws35, ws36, ws37, ws38, ws39⟩ := wsx
  have wnx := wn
  obtain ⟨wnC, wn32, wn33, wn34, wn35, wn36, wn37, wn38, wn39⟩ := wnx
  have wc := wsC c hc
  have vc := wnC c hc
  refine x_iload_n (pc := 0) dX11_fact_0 (List.Mem.tail _ (List.Mem.head _)) ?_
  refine z_i2l (pc := 1) dX11_fact_1 (by omega) (by omega) ?_
  refine z_ldc2_w (pc := 2) 5 dX11_fact_2 cl_X11_172 (by decide) ?_
  refine z_ldc2_w (pc := 5) 12 dX11_fact_5 cl_X11_174 (by decide) ?_
  refine z_callSbp (pc := 8) (i := mX11_within) (S := []) [.long (zL (k)), .long (zL (5)), .long (zL (12))] dX11_fact_8 ml_X11_152 ok_X11_within rfl (Or.inr rfl) (Nat.le_of_ble_eq_true rfl) (c_X11_within (d := d) (v := k) (lo := 5) (hi := 12) (v1 := (by omega)) (v2 := (by omega)) (lo1 := (by omega)) (lo2 := (by omega)) (hi1 := (by omega)) (hi2 := (by omega)) (ok := ok)) (fun hc3 ok2 => ?_) (fun hc3 ok2 => ?_)
  · skip
    refine z_if_eq (pc := 11) (tgt := 22) dX11_fact_11 (by decide) (by decide) (by decide) (fun h => absurd h (by decide)) (fun _ => ?_)
    refine x_aload_n (pc := 14) dX11_fact_14 (List.Mem.head _) ?_
    refine x_iload_n (pc := 15) dX11_fact_15 (List.Mem.tail _ (List.Mem.head _)) ?_
    refine z_iconst (pc := 16) dX11_fact_16 ?_
    refine z_isub (pc := 17) dX11_fact_17 ?_
    refine z_callVbp (pc := 18) (i := mX11_hasTrait) (S := []) [.int (zN ((k - 5)))] dX11_fact_18 ml_X11_225 ok_X11_hasTrait rfl sh_0 rfl (Or.inr rfl) (Nat.le_of_ble_eq_true rfl) (by have qz := c_X11_hasTrait (d := d) (k := ((k - 5).toNat)) (hk := (by omega)) (ok := ok2) (ws := (by first | assumption | omega)); rw [show (((k - 5).toNat : Nat) : Int) = (k - 5) by omega] at qz; exact qz) (fun hc7 ok6 => ?_) (fun hc7 ok6 => ?_)
    · skip
      have hT := hc7
      refine z_ireturn (pc := 21) dX11_fact_21 rfl (Or.inr ⟨rfl, by omega⟩) ok6 (by decide) (by decide) ?_
      have e : fct (H.1 2) (H.1 6) k v c = decide (H.1 2 34 / 2 ^ (k - 5).toNat % 2 = 1) := by unfold fct; rw [if_pos (by omega)]
      rw [e]
      refine ⟨?_, rfl⟩
      first | (rw [decide_eq_true (by omega)]; rfl) | (rw [decide_eq_false (by omega)]; rfl) | (rw [hT]; rfl) | (rw [hF]; rfl)
    · skip
      have hF := hc7
      refine z_ireturn (pc := 21) dX11_fact_21 rfl (Or.inr ⟨rfl, by omega⟩) ok6 (by decide) (by decide) ?_
      have e : fct (H.1 2) (H.1 6) k v c = decide (H.1 2 34 / 2 ^ (k - 5).toNat % 2 = 1) := by unfold fct; rw [if_pos (by omega)]
      rw [e]
      refine ⟨?_, rfl⟩
      first | (rw [decide_eq_true (by omega)]; rfl) | (rw [decide_eq_false (by omega)]; rfl) | (rw [hT]; rfl) | (rw [hF]; rfl)
  · skip
    refine z_if_eq (pc := 11) (tgt := 22) dX11_fact_11 (by decide) (by decide) (by decide) (fun _ => ?_) (fun h => absurd h (by decide))
    refine x_aload_n (pc := 22) dX11_fact_22 (List.Mem.head _) ?_
    refine z_getR (pc := 23) (k := 2) (r := 2) dX11_fact_23 lf_X11_17 sh_0 rfl rf_0_2 ?_
    refine z_iconst (pc := 26) dX11_fact_26 ?_
    refine x_iload_n (pc := 27) dX11_fact_27 (List.Mem.tail _ (List.Mem.tail _ (List.Mem.tail _ (List.Mem.head _)))) ?_
    refine z_iadd (pc := 28) dX11_fact_28 ?_
    have rd9 := ok2.1 2 (2 + c)
    refine z_iald (pc := 29) (j := 2 + c) (v := H.1 2 (2 + c)) dX11_fact_29 sh_2 (by omega) (by omega) (by decide) rfl ?_
    refine x_istore (pc := 30) dX11_fact_30 (Nat.le_of_ble_eq_true rfl) ?_
    show Ev _ _ _ _ _ [(4, .int (zN ((H.1 2 (2 + c))))), (0, .ref 0), (1, .int (zN (k))), (2, .int (zN (v))), (3, .int (zN ((c : Int))))] _ _
    refine x_iload_n (pc := 32) dX11_fact_32 (List.Mem.tail _ (List.Mem.tail _ (List.Mem.head _))) ?_
    rcases Int.decEq (k) (4) with hk10_0 | hk10_0
    rotate_left
    · skip
      refine z_tabIn (pc := 33) (4) (tgt := 193) dX11_fact_33 hk10_0 (by omega) (by omega) (by decide) (by decide) rfl (by decide) ?_
      refine x_aload_n (pc := 193) dX11_fact_193 (List.Mem.tail _ (List.Mem.head _)) ?_
      refine z_getR (pc := 194) (k := 2) (r := 2) dX11_fact_194 lf_X11_17 sh_0 rfl rf_0_2 ?_
      refine z_bipush (pc := 197) dX11_fact_197 bp_26 ?_
      refine x_iload_n (pc := 199) dX11_fact_199 (List.Mem.tail _ (List.Mem.tail _ (List.Mem.tail _ (List.Mem.tail _ (List.Mem.head _))))) ?_
      refine z_iadd (pc := 200) dX11_fact_200 ?_
      have rd11 := ok2.1 2 (26 + c)
      refine z_iald (pc := 201) (j := 26 + c) (v := H.1 2 (26 + c)) dX11_fact_201 sh_2 (by omega) (by omega) (by decide) rfl ?_
      refine x_iload_n (pc := 202) dX11_fact_202 (List.Mem.tail _ (List.Mem.tail _ (List.Mem.tail _ (List.Mem.head _)))) ?_
      refine z_icmp_ne (pc := 203) (tgt := 210) dX11_fact_203 (by decide) (by omega) (by omega) (by omega) (by omega) (fun hb12 => ?_) (fun hb12 => ?_)
      · skip
        refine z_iconst (pc := 210) dX11_fact_210 ?_
        refine z_ireturn (pc := 211) dX11_fact_211 rfl (Or.inr ⟨rfl, by omega⟩) ok2 (by decide) (by decide) ?_
        have e : fct (H.1 2) (H.1 6) k v c = decide (H.1 2 (26 + c) = v) := by unfold fct; rw [if_neg (by omega), if_neg (by omega), if_neg (by omega), if_neg (by omega), if_pos (by omega)]
        rw [e]
        refine ⟨?_, rfl⟩
        first | (rw [decide_eq_true (by omega)]; rfl) | (rw [decide_eq_false (by omega)]; rfl) | (rw [hT]; rfl) | (rw [hF]; rfl)
      · skip
        refine z_iconst (pc := 206) dX11_fact_206 ?_
        refine x_goto (pc := 207) (tgt := 211) dX11_fact_207 (by decide) ?_
        refine z_ireturn (pc := 211) dX11_fact_211 rfl (Or.inr ⟨rfl, by omega⟩) ok2 (by decide) (by decide) ?_
        have e : fct (H.1 2) (H.1 6) k v c = decide (H.1 2 (26 + c) = v) := by unfold fct; rw [if_neg (by omega), if_neg (by omega), if_neg (by omega), if_neg (by omega), if_pos (by omega)]
        rw [e]
        refine ⟨?_, rfl⟩
        first | (rw [decide_eq_true (by omega)]; rfl) | (rw [decide_eq_false (by omega)]; rfl) | (rw [hT]; rfl) | (rw [hF]; rfl)
    rcases Int.decEq (k) (22) with hk10_18 | hk10_18
    rotate_left
    · skip
      refine z_tabIn (pc := 33) (22) (tgt := 144) dX11_fact_33 hk10_18 (by omega) (by omega) (by decide) (by decide) rfl (by decide) ?_
      refine x_aload_n (pc := 144) dX11_fact_144 (List.Mem.tail _ (List.Mem.head _)) ?_
      refine z_getR (pc := 145) (k := 18) (r := 6) dX11_fact_145 lf_X11_33 sh_0 rfl rf_0_18 ?_
      refine z_iconst (pc := 148) dX11_fact_148 ?_
      refine x_iload_n (pc := 149) dX11_fact_149 (List.Mem.tail _ (List.Mem.tail _ (List.Mem.tail _ (List.Mem.tail _ (List.Mem.head _))))) ?_
      refine z_iadd (pc := 150) dX11_fact_150 ?_
      have rd13 := ok2.1 6 c
      refine z_iald (pc := 151) (j := c) (v := H.1 6 c) dX11_fact_151 sh_6 (by omega) (by omega) (by decide) rfl ?_
      refine x_iload_n (pc := 152) dX11_fact_152 (List.Mem.tail _ (List.Mem.tail _ (List.Mem.tail _ (List.Mem.head _)))) ?_
      refine z_icmp_ge (pc := 153) (tgt := 160) dX11_fact_153 (by decide) (by omega) (by omega) (by omega) (by omega) (fun hb14 => ?_) (fun hb14 => ?_)
      · skip
        refine z_iconst (pc := 160) dX11_fact_160 ?_
        refine z_ireturn (pc := 161) dX11_fact_161 rfl (Or.inr ⟨rfl, by omega⟩) ok2 (by decide) (by decide) ?_
        have e : fct (H.1 2) (H.1 6) k v c = decide (H.1 6 c < v) := by unfold fct; rw [if_neg (by omega), if_pos (by omega)]
        rw [e]
        refine ⟨?_, rfl⟩
        first | (rw [decide_eq_true (by omega)]; rfl) | (rw [decide_eq_false (by omega)]; rfl) | (rw [hT]; rfl) | (rw [hF]; rfl)
      · skip
        refine z_iconst (pc := 156) dX11_fact_156 ?_
        refine x_goto (pc := 157) (tgt := 161) dX11_fact_157 (by decide) ?_
        refine z_ireturn (pc := 161) dX11_fact_161 rfl (Or.inr ⟨rfl, by omega⟩) ok2 (by decide) (by decide) ?_
        have e : fct (H.1 2) (H.1 6) k v c = decide (H.1 6 c < v) := by unfold fct; rw [if_neg (by omega), if_pos (by omega)]
        rw [e]
        refine ⟨?_, rfl⟩
        first | (rw [decide_eq_true (by omega)]; rfl) | (rw [decide_eq_false (by omega)]; rfl) | (rw [hT]; rfl) | (rw [hF]; rfl)
    rcases Int.decEq (k) (23) with hk10_19 | hk10_19
    rotate_left
    · skip
      refine z_tabIn (pc := 33) (23) (tgt := 162) dX11_fact_33 hk10_19 (by omega) (by omega) (by decide) (by decide) rfl (by decide) ?_
      refine x_aload_n (pc := 162) dX11_fact_162 (List.Mem.tail _ (List.Mem.head _)) ?_
      refine z_getR (pc := 163) (k := 18) (r := 6) dX11_fact_163 lf_X11_33 sh_0 rfl rf_0_18 ?_
      refine z_bipush (pc := 166) dX11_fact_166 bp_8 ?_
      refine x_iload_n (pc := 168) dX11_fact_168 (List.Mem.tail _ (List.Mem.tail _ (List.Mem.tail _ (List.Mem.tail _ (List.Mem.head _))))) ?_
      refine z_iadd (pc := 169) dX11_fact_169 ?_
      have rd15 := ok2.1 6 (8 + c)
      refine z_iald (pc := 170) (j := 8 + c) (v := H.1 6 (8 + c)) dX11_fact_170 sh_6 (by omega) (by omega) (by decide) rfl ?_
      refine x_iload_n (pc := 171) dX11_fact_171 (List.Mem.tail _ (List.Mem.tail _ (List.Mem.tail _ (List.Mem.head _)))) ?_
      refine z_icmp_lt (pc := 172) (tgt := 179) dX11_fact_172 (by decide) (by omega) (by omega) (by omega) (by omega) (fun hb16 => ?_) (fun hb16 => ?_)
      · skip
        refine z_iconst (pc := 179) dX11_fact_179 ?_
        refine z_ireturn (pc := 180) dX11_fact_180 rfl (Or.inr ⟨rfl, by omega⟩) ok2 (by decide) (by decide) ?_
        have e : fct (H.1 2) (H.1 6) k v c = decide (v ≤ H.1 6 (8 + c)) := by unfold fct; rw [if_neg (by omega), if_neg (by omega), if_pos (by omega)]
        rw [e]
        refine ⟨?_, rfl⟩
        first | (rw [decide_eq_true (by omega)]; rfl) | (rw [decide_eq_false (by omega)]; rfl) | (rw [hT]; rfl) | (rw [hF]; rfl)
      · skip
        refine z_iconst (pc := 175) dX11_fact_175 ?_
        refine x_goto (pc := 176) (tgt := 180) dX11_fact_176 (by decide) ?_
        refine z_ireturn (pc := 180) dX11_fact_180 rfl (Or.inr ⟨rfl, by omega⟩) ok2 (by decide) (by decide) ?_
        have e : fct (H.1 2) (H.1 6) k v c = decide (v ≤ H.1 6 (8 + c)) := by unfold fct; rw [if_neg (by omega), if_neg (by omega), if_pos (by omega)]
        rw [e]
        refine ⟨?_, rfl⟩
        first | (rw [decide_eq_true (by omega)]; rfl) | (rw [decide_eq_false (by omega)]; rfl) | (rw [hT]; rfl) | (rw [hF]; rfl)
    rcases Int.decEq (k) (24) with hk10_20 | hk10_20
    rotate_left
    · skip
      refine z_tabIn (pc := 33) (24) (tgt := 181) dX11_fact_33 hk10_20 (by omega) (by omega) (by decide) (by decide) rfl (by decide) ?_
      refine x_iload (pc := 181) dX11_fact_181 (List.Mem.head _) ?_
      refine x_iload_n (pc := 183) dX11_fact_183 (List.Mem.tail _ (List.Mem.tail _ (List.Mem.tail _ (List.Mem.head _)))) ?_
      refine z_icmp_ne (pc := 184) (tgt := 191) dX11_fact_184 (by decide) (by omega) (by omega) (by omega) (by omega) (fun hb17 => ?_) (fun hb17 => ?_)
      · skip
        refine z_iconst (pc := 191) dX11_fact_191 ?_
        refine z_ireturn (pc := 192) dX11_fact_192 rfl (Or.inr ⟨rfl, by omega⟩) ok2 (by decide) (by decide) ?_
        have e : fct (H.1 2) (H.1 6) k v c = decide ((H.1 2 (2 + c)) = v) := by unfold fct; rw [if_neg (by omega), if_neg (by omega), if_neg (by omega), if_pos (by omega)]
        rw [e]
        refine ⟨?_, rfl⟩
        first | (rw [decide_eq_true (by omega)]; rfl) | (rw [decide_eq_false (by omega)]; rfl) | (rw [hT]; rfl) | (rw [hF]; rfl)
      · skip
        refine z_iconst (pc := 187) dX11_fact_187 ?_
        refine x_goto (pc := 188) (tgt := 192) dX11_fact_188 (by decide) ?_
        refine z_ireturn (pc := 192) dX11_fact_192 rfl (Or.inr ⟨rfl, by omega⟩) ok2 (by decide) (by decide) ?_
        have e : fct (H.1 2) (H.1 6) k v c = decide ((H.1 2 (2 + c)) = v) := by unfold fct; rw [if_neg (by omega), if_neg (by omega), if_neg (by omega), if_pos (by omega)]
        rw [e]
        refine ⟨?_, rfl⟩
        first | (rw [decide_eq_true (by omega)]; rfl) | (rw [decide_eq_false (by omega)]; rfl) | (rw [hT]; rfl) | (rw [hF]; rfl)
    rcases Int.decEq (k) (25) with hk10_21 | hk10_21
    rotate_left
    · skip
      refine z_tabIn (pc := 33) (25) (tgt := 212) dX11_fact_33 hk10_21 (by omega) (by omega) (by decide) (by decide) rfl (by decide) ?_
      refine x_aload_n (pc := 212) dX11_fact_212 (List.Mem.tail _ (List.Mem.head _)) ?_
      refine x_iload (pc := 213) dX11_fact_213 (List.Mem.head _) ?_
      refine x_iload (pc := 215) dX11_fact_215 (List.Mem.head _) ?_
      refine z_iconst (pc := 217) dX11_fact_217 ?_
      refine z_iconst (pc := 218) dX11_fact_218 ?_
      refine x_aload_n (pc := 219) dX11_fact_219 (List.Mem.tail _ (List.Mem.head _)) ?_
      refine z_getR (pc := 220) (k := 18) (r := 6) dX11_fact_220 lf_X11_33 sh_0 rfl rf_0_18 ?_
      refine z_iconst (pc := 223) dX11_fact_223 ?_
      refine x_iload_n (pc := 224) dX11_fact_224 (List.Mem.tail _ (List.Mem.tail _ (List.Mem.tail _ (List.Mem.tail _ (List.Mem.head _))))) ?_
      refine z_iadd (pc := 225) dX11_fact_225 ?_
      have rd18 := ok2.1 6 c
      refine z_iald (pc := 226) (j := c) (v := H.1 6 c) dX11_fact_226 sh_6 (by omega) (by omega) (by decide) rfl ?_
      refine z_callVbp (pc := 227) (i := mX11_isSome) (S := []) [.int (zN ((H.1 2 (2 + c)))), .int (zN ((H.1 2 (2 + c)))), .int (zN ((-1))), .int (zN (2)), .int (zN ((H.1 6 c)))] dX11_fact_227 ml_X11_228 ok_X11_isSome rfl sh_0 rfl (Or.inr rfl) (Nat.le_of_ble_eq_true rfl) (c_X11_isSome (d := d) (fr := ((H.1 2 (2 + c)))) (to := ((H.1 2 (2 + c)))) (but := ((-1))) (dc := 2) (bl := ((H.1 6 c))) (fr1 := (by omega)) (fr2 := (by omega)) (to1 := (by omega)) (to2 := (by omega)) (but1 := (by omega)) (but2 := (by omega)) (dc1 := (by omega)) (dc2 := (by omega)) (bl1 := (by omega)) (bl2 := (by omega)) (ok := ok2) (ws := (by first | assumption | omega)) (wn := (by first | assumption | omega))) (fun hc21 ok20 => ?_) (fun hc21 ok20 => ?_)
      · skip
        have hT := hc21
        refine z_ireturn (pc := 230) dX11_fact_230 rfl (Or.inr ⟨rfl, by omega⟩) ok20 (by decide) (by decide) ?_
        have e : fct (H.1 2) (H.1 6) k v c = tsm (H.1 2) (H.1 6) (H.1 2 (2 + c)) (H.1 2 (2 + c)) (-1) 2 (H.1 6 c) (H.1 2 1).toNat := by unfold fct; rw [if_neg (by omega), if_neg (by omega), if_neg (by omega), if_neg (by omega), if_neg (by omega), if_pos (by omega)]
        rw [e]
        refine ⟨?_, rfl⟩
        first | (rw [decide_eq_true (by omega)]; rfl) | (rw [decide_eq_false (by omega)]; rfl) | (rw [hT]; rfl) | (rw [hF]; rfl)
      · skip
        have hF := Bool.eq_false_iff.mpr hc21
        refine z_ireturn (pc := 230) dX11_fact_230 rfl (Or.inr ⟨rfl, by omega⟩) ok20 (by decide) (by decide) ?_
        have e : fct (H.1 2) (H.1 6) k v c = tsm (H.1 2) (H.1 6) (H.1 2 (2 + c)) (H.1 2 (2 + c)) (-1) 2 (H.1 6 c) (H.1 2 1).toNat := by unfold fct; rw [if_neg (by omega), if_neg (by omega), if_neg (by omega), if_neg (by omega), if_neg (by omega), if_pos (by omega)]
        rw [e]
        refine ⟨?_, rfl⟩
        first | (rw [decide_eq_true (by omega)]; rfl) | (rw [decide_eq_false (by omega)]; rfl) | (rw [hT]; rfl) | (rw [hF]; rfl)
    rcases Int.decEq (k) (26) with hk10_22 | hk10_22
    rotate_left
    · skip
      refine z_tabIn (pc := 33) (26) (tgt := 231) dX11_fact_33 hk10_22 (by omega) (by omega) (by decide) (by decide) rfl (by decide) ?_
      refine x_aload_n (pc := 231) dX11_fact_231 (List.Mem.tail _ (List.Mem.head _)) ?_
      refine x_iload (pc := 232) dX11_fact_232 (List.Mem.head _) ?_
      refine z_iconst (pc := 234) dX11_fact_234 ?_
      refine z_isub (pc := 235) dX11_fact_235 ?_
      refine x_iload (pc := 236) dX11_fact_236 (List.Mem.head _) ?_
      refine z_iconst (pc := 238) dX11_fact_238 ?_
      refine z_iadd (pc := 239) dX11_fact_239 ?_
      refine x_iload (pc := 240) dX11_fact_240 (List.Mem.head _) ?_
      refine z_iconst (pc := 242) dX11_fact_242 ?_
      refine z_sipush (pc := 243) dX11_fact_243 sp_1000 ?_
      refine z_callVbp (pc := 246) (i := mX11_isSome) (S := []) [.int (zN (((H.1 2 (2 + c)) - 1))), .int (zN (((H.1 2 (2 + c)) + 1))), .int (zN ((H.1 2 (2 + c)))), .int (zN (2)), .int (zN (1000))] dX11_fact_246 ml_X11_228 ok_X11_isSome rfl sh_0 rfl (Or.inr rfl) (Nat.le_of_ble_eq_true rfl) (c_X11_isSome (d := d) (fr := (((H.1 2 (2 + c)) - 1))) (to := (((H.1 2 (2 + c)) + 1))) (but := ((H.1 2 (2 + c)))) (dc := 2) (bl := 1000) (fr1 := (by omega)) (fr2 := (by omega)) (to1 := (by omega)) (to2 := (by omega)) (but1 := (by omega)) (but2 := (by omega)) (dc1 := (by omega)) (dc2 := (by omega)) (bl1 := (by omega)) (bl2 := (by omega)) (ok := ok2) (ws := (by first | assumption | omega)) (wn := (by first | assumption | omega))) (fun hc24 ok23 => ?_) (fun hc24 ok23 => ?_)
      · skip
        have hT := hc24
        refine z_ireturn (pc := 249) dX11_fact_249 rfl (Or.inr ⟨rfl, by omega⟩) ok23 (by decide) (by decide) ?_
        have e : fct (H.1 2) (H.1 6) k v c = tsm (H.1 2) (H.1 6) ((H.1 2 (2 + c)) - 1) ((H.1 2 (2 + c)) + 1) (H.1 2 (2 + c)) 2 1000 (H.1 2 1).toNat := by unfold fct; rw [if_neg (by omega), if_neg (by omega), if_neg (by omega), if_neg (by omega), if_neg (by omega), if_neg (by omega), if_pos (by omega)]
        rw [e]
        refine ⟨?_, rfl⟩
        first | (rw [decide_eq_true (by omega)]; rfl) | (rw [decide_eq_false (by omega)]; rfl) | (rw [hT]; rfl) | (rw [hF]; rfl)
      · skip
        have hF := Bool.eq_false_iff.mpr hc24
        refine z_ireturn (pc := 249) dX11_fact_249 rfl (Or.inr ⟨rfl, by omega⟩) ok23 (by decide) (by decide) ?_
        have e : fct (H.1 2) (H.1 6) k v c = tsm (H.1 2) (H.1 6) ((H.1 2 (2 + c)) - 1) ((H.1 2 (2 + c)) + 1) (H.1 2 (2 + c)) 2 1000 (H.1 2 1).toNat := by unfold fct; rw [if_neg (by omega), if_neg (by omega), if_neg (by omega), if_neg (by omega), if_neg (by omega), if_neg (by omega), if_pos (by omega)]
        rw [e]
        refine ⟨?_, rfl⟩
        first | (rw [decide_eq_true (by omega)]; rfl) | (rw [decide_eq_false (by omega)]; rfl) | (rw [hT]; rfl) | (rw [hF]; rfl)
    rcases Int.decEq (k) (27) with hk10_23 | hk10_23
    rotate_left
    · skip
      refine z_tabIn (pc := 33) (27) (tgt := 250) dX11_fact_33 hk10_23 (by omega) (by omega) (by decide) (by decide) rfl (by decide) ?_
      refine x_aload_n (pc := 250) dX11_fact_250 (List.Mem.tail _ (List.Mem.head _)) ?_
      refine z_iconst (pc := 251) dX11_fact_251 ?_
      refine z_iconst (pc := 252) dX11_fact_252 ?_
      refine x_iload (pc := 253) dX11_fact_253 (List.Mem.head _) ?_
      refine z_iconst (pc := 255) dX11_fact_255 ?_
      refine x_aload_n (pc := 256) dX11_fact_256 (List.Mem.tail _ (List.Mem.head _)) ?_
      refine z_getR (pc := 257) (k := 18) (r := 6) dX11_fact_257 lf_X11_33 sh_0 rfl rf_0_18 ?_
      refine z_iconst (pc := 260) dX11_fact_260 ?_
      refine x_iload_n (pc := 261) dX11_fact_261 (List.Mem.tail _ (List.Mem.tail _ (List.Mem.tail _ (List.Mem.tail _ (List.Mem.head _))))) ?_
      refine z_iadd (pc := 262) dX11_fact_262 ?_
      have rd25 := ok2.1 6 c
      refine z_iald (pc := 263) (j := c) (v := H.1 6 c) dX11_fact_263 sh_6 (by omega) (by omega) (by decide) rfl ?_
      refine z_callVbp (pc := 264) (i := mX11_isSome) (S := []) [.int (zN (0)), .int (zN (3)), .int (zN ((H.1 2 (2 + c)))), .int (zN (1)), .int (zN ((H.1 6 c)))] dX11_fact_264 ml_X11_228 ok_X11_isSome rfl sh_0 rfl (Or.inr rfl) (Nat.le_of_ble_eq_true rfl) (c_X11_isSome (d := d) (fr := 0) (to := 3) (but := ((H.1 2 (2 + c)))) (dc := 1) (bl := ((H.1 6 c))) (fr1 := (by omega)) (fr2 := (by omega)) (to1 := (by omega)) (to2 := (by omega)) (but1 := (by omega)) (but2 := (by omega)) (dc1 := (by omega)) (dc2 := (by omega)) (bl1 := (by omega)) (bl2 := (by omega)) (ok := ok2) (ws := (by first | assumption | omega)) (wn := (by first | assumption | omega))) (fun hc28 ok27 => ?_) (fun hc28 ok27 => ?_)
      · skip
        have hT := hc28
        refine z_ireturn (pc := 267) dX11_fact_267 rfl (Or.inr ⟨rfl, by omega⟩) ok27 (by decide) (by decide) ?_
        have e : fct (H.1 2) (H.1 6) k v c = tsm (H.1 2) (H.1 6) 0 3 (H.1 2 (2 + c)) 1 (H.1 6 c) (H.1 2 1).toNat := by unfold fct; rw [if_neg (by omega), if_neg (by omega), if_neg (by omega), if_neg (by omega), if_neg (by omega), if_neg (by omega), if_neg (by omega), if_pos (by omega)]
        rw [e]
        refine ⟨?_, rfl⟩
        first | (rw [decide_eq_true (by omega)]; rfl) | (rw [decide_eq_false (by omega)]; rfl) | (rw [hT]; rfl) | (rw [hF]; rfl)
      · skip
        have hF := Bool.eq_false_iff.mpr hc28
        refine z_ireturn (pc := 267) dX11_fact_267 rfl (Or.inr ⟨rfl, by omega⟩) ok27 (by decide) (by decide) ?_
        have e : fct (H.1 2) (H.1 6) k v c = tsm (H.1 2) (H.1 6) 0 3 (H.1 2 (2 + c)) 1 (H.1 6 c) (H.1 2 1).toNat := by unfold fct; rw [if_neg (by omega), if_neg (by omega), if_neg (by omega), if_neg (by omega), if_neg (by omega), if_neg (by omega), if_neg (by omega), if_pos (by omega)]
        rw [e]
        refine ⟨?_, rfl⟩
        first | (rw [decide_eq_true (by omega)]; rfl) | (rw [decide_eq_false (by omega)]; rfl) | (rw [hT]; rfl) | (rw [hF]; rfl)
    have hk10x : k < 4 ∨ 27 < k := by omega
    refine z_tabOut (pc := 33) (tgt := 268) dX11_fact_33 (by omega) (by omega) hk10x (by decide) ?_
    refine x_aload_n (pc := 268) dX11_fact_268 (List.Mem.tail _ (List.Mem.head _)) ?_
    refine z_getR (pc := 269) (k := 18) (r := 6) dX11_fact_269 lf_X11_33 sh_0 rfl rf_0_18 ?_
    refine z_bipush (pc := 272) dX11_fact_272 bp_32 ?_
    have rd29 := ok2.1 6 32
    refine z_iald (pc := 274) (j := 32) (v := H.1 6 32) dX11_fact_274 sh_6 rfl (Nat.le_of_ble_eq_true rfl) (by decide) rfl ?_
    refine z_if_gt (pc := 275) (tgt := 289) dX11_fact_275 (by decide) (by omega) (by omega) (fun hb30 => ?_) (fun hb30 => ?_)
    · skip
      refine z_iconst (pc := 289) dX11_fact_289 ?_
      refine x_goto (pc := 290) (tgt := 294) dX11_fact_290 (by decide) ?_
      refine z_ireturn (pc := 294) dX11_fact_294 rfl (Or.inr ⟨rfl, by omega⟩) ok2 (by decide) (by decide) ?_
      have e : fct (H.1 2) (H.1 6) k v c = decide (0 < H.1 6 32 ∨ H.1 6 33 = 1) := by unfold fct; rw [if_neg (by omega), if_neg (by omega), if_neg (by omega), if_neg (by omega), if_neg (by omega), if_neg (by omega), if_neg (by omega), if_neg (by omega)]
      rw [e]
      refine ⟨?_, rfl⟩
      first | (rw [decide_eq_true (by omega)]; rfl) | (rw [decide_eq_false (by omega)]; rfl) | (rw [hT]; rfl) | (rw [hF]; rfl)
    · skip
      refine x_aload_n (pc := 278) dX11_fact_278 (List.Mem.tail _ (List.Mem.head _)) ?_
      refine z_getR (pc := 279) (k := 18) (r := 6) dX11_fact_279 lf_X11_33 sh_0 rfl rf_0_18 ?_
      refine z_bipush (pc := 282) dX11_fact_282 bp_33 ?_
      have rd31 := ok2.1 6 33
      refine z_iald (pc := 284) (j := 33) (v := H.1 6 33) dX11_fact_284 sh_6 rfl (Nat.le_of_ble_eq_true rfl) (by decide) rfl ?_
      refine z_iconst (pc := 285) dX11_fact_285 ?_
      refine z_icmp_ne (pc := 286) (tgt := 293) dX11_fact_286 (by decide) (by omega) (by omega) (by decide) (by decide) (fun hb32 => ?_) (fun hb32 => ?_)
      · skip
        refine z_iconst (pc := 293) dX11_fact_293 ?_
        refine z_ireturn (pc := 294) dX11_fact_294 rfl (Or.inr ⟨rfl, by omega⟩) ok2 (by decide) (by decide) ?_
        have e : fct (H.1 2) (H.1 6) k v c = decide (0 < H.1 6 32 ∨ H.1 6 33 = 1) := by unfold fct; rw [if_neg (by omega), if_neg (by omega), if_neg (by omega), if_neg (by omega), if_neg (by omega), if_neg (by omega), if_neg (by omega), if_neg (by omega)]
        rw [e]
        refine ⟨?_, rfl⟩
        first | (rw [decide_eq_true (by omega)]; rfl) | (rw [decide_eq_false (by omega)]; rfl) | (rw [hT]; rfl) | (rw [hF]; rfl)
      · skip
        refine z_iconst (pc := 289) dX11_fact_289 ?_
        refine x_goto (pc := 290) (tgt := 294) dX11_fact_290 (by decide) ?_
        refine z_ireturn (pc := 294) dX11_fact_294 rfl (Or.inr ⟨rfl, by omega⟩) ok2 (by decide) (by decide) ?_
        have e : fct (H.1 2) (H.1 6) k v c = decide (0 < H.1 6 32 ∨ H.1 6 33 = 1) := by unfold fct; rw [if_neg (by omega), if_neg (by omega), if_neg (by omega), if_neg (by omega), if_neg (by omega), if_neg (by omega), if_neg (by omega), if_neg (by omega)]
        rw [e]
        refine ⟨?_, rfl⟩
        first | (rw [decide_eq_true (by omega)]; rfl) | (rw [decide_eq_false (by omega)]; rfl) | (rw [hT]; rfl) | (rw [hF]; rfl)
