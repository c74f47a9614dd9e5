/-! GROUP G13: one tick of the reference. -/
theorem lea_bd (h : Nat → Bool) (n : Nat) : -1 ≤ lea h n ∧ lea h n ≤ (n : Int) - 1 := by
  rcases lea_cases h n with ⟨e, _⟩ | ⟨k, hk, e, _⟩ <;> omega
theorem knF_bd {A N : Nat → Int} (h : 0 ≤ A 1 ∧ A 1 ≤ 8) : -1 ≤ knF A N ∧ knF A N < A 1 ∨ knF A N = -1 := by
  have := lea_bd (fun c => decide (0 < N c) && hitB A N c) (A 1).toNat
  unfold knF
  omega
theorem mvN_hi {A N : Nat → Int} (h : A 1 ≤ 8) {j : Nat} (hj : 32 ≤ j) : mvN A N j = N j := by
  unfold mvN
  rw [if_neg (by omega), if_neg (by omega), if_neg (by omega)]
theorem mvN_md {A N : Nat → Int} (h : A 1 ≤ 8) {j : Nat} (hj : 16 ≤ j ∧ j < 24) : mvN A N j = N j := by
  unfold mvN
  rw [if_neg (by omega), if_neg (by omega), if_neg (by omega)]
theorem mvN_0 {A N : Nat → Int} {c : Nat} (hc : (c : Int) < A 1) : mvN A N c = if 0 < N c then ndi N c (wl A N c) else N c := by
  unfold mvN
  exact if_pos (by omega)
theorem mvN_8 {A N : Nat → Int} {c : Nat} (h : A 1 ≤ 8) (hc : (c : Int) < A 1) : mvN A N (8 + c) = if 0 < N c then nsp N c else N (8 + c) := by
  unfold mvN
  rw [if_neg (by omega), if_pos (by omega), show 8 + c - 8 = c by omega]
theorem mvN_24 {A N : Nat → Int} {c : Nat} (h : A 1 ≤ 8) (hc : (c : Int) < A 1) : mvN A N (24 + c) = if 0 < N c ∧ hld N c (wl A N c) = true then 1 else 0 := by
  unfold mvN
  rw [if_neg (by omega), if_neg (by omega), if_pos (by omega), show 24 + c - 24 = c by omega]
  by_cases q : 0 < N c ∧ hld N c (wl A N c) = true
  · rw [if_pos q, if_pos ⟨⟨by omega, q.1⟩, q.2⟩]
  · rw [if_neg q, if_neg (fun z => q ⟨z.1.2, z.2⟩)]
/-- she enters -/
def entB (A N : Nat → Int) : Bool := decide (N 33 = 0) && (tfr A N (N 32) (A 1).toNat || decide (N 32 = 0 ∧ A 37 ≤ N 35))
def tk1 (A N : Nat → Int) (j : Nat) : Int := if entB A N = true then (if j = 34 then 0 else if j = 33 then 1 else N j) else N j
def ned (A : Nat → Int) : Int := if A 34 / 2 ^ 0 % 2 = 1 then 2 else 1
/-- she is knocked, or gets on -/
def tk2 (A M : Nat → Int) (j : Nat) : Int := if knF A M ≠ -1 then (if j = 38 then mvN A M (8 + (knF A M).toNat) * mvN A M (8 + (knF A M).toNat) * ned A else if j = 39 then knF A M else if j = 37 then 2 else mvN A M j) else if mvN A M 33 = 1 then (if mvN A M 34 + 1 < ned A then (if j = 34 then mvN A M 34 + 1 else mvN A M j) else (if j = 37 then (if mvN A M 32 + 1 = A 0 then 1 else 0) else if j = 32 then mvN A M 32 + 1 else if j = 33 then 0 else if j = 34 then mvN A M 34 + 1 else mvN A M j)) else mvN A M j
def tk3 (Q : Nat → Int) (j : Nat) : Int := if j = 41 then 0 else if j = 37 then (if Q 37 = 0 ∧ Q 36 + 1 = 99 then 3 else Q 37) else if j = 36 then Q 36 + 1 else if j = 35 then Q 35 + (if Q 33 = 0 ∧ Q 32 = 0 then 1 else 0) else Q j
/-- one tick behind the deciding -/
def tickF (A N : Nat → Int) : Nat → Int := tk3 (tk2 A (tk1 A N))
theorem tk1_wfn {A N : Nat → Int} (h : WFN A N) (h8 : A 1 ≤ 8) : WFN A (tk1 A N) := by
  have e : ∀ j, j ≠ 33 → j ≠ 34 → tk1 A N j = N j := by
    intro j h1 h2
    unfold tk1
    rw [if_neg h2, if_neg h1]
    split <;> rfl
  obtain ⟨hC, h32, h33, h34, h35, h36, h37, h38, h39⟩ := h
  refine ⟨fun c hc => ?_, ?_, ?_, ?_, ?_, ?_, ?_, ?_, ?_⟩
  · rw [e c (by omega) (by omega), e (8 + c) (by omega) (by omega), e (16 + c) (by omega) (by omega), e (24 + c) (by omega) (by omega)]
    exact hC c hc
  · rw [e 32 (by omega) (by omega)]; exact h32
  · show (if entB A N = true then 1 else N 33) = 0 ∨ (if entB A N = true then 1 else N 33) = 1
    split
    · exact Or.inr rfl
    · exact h33
  · show 0 ≤ (if entB A N = true then 0 else N 34) ∧ (if entB A N = true then 0 else N 34) ≤ 2
    split
    · decide
    · exact h34
  · rw [e 35 (by omega) (by omega)]; exact h35
  · rw [e 36 (by omega) (by omega)]; exact h36
  · rw [e 37 (by omega) (by omega)]; exact h37
  · rw [e 38 (by omega) (by omega)]; exact h38
  · rw [e 39 (by omega) (by omega)]; exact h39
theorem tk2_k {A M : Nat → Int} {X : Int} (h : knF A M ≠ -1) (hX : X = mvN A M (8 + (knF A M).toNat) * mvN A M (8 + (knF A M).toNat) * ned A) : (fun j : Nat => if j = 38 then X else if j = 39 then knF A M else if j = 37 then 2 else mvN A M j) = tk2 A M := by
  funext j
  unfold tk2
  rw [if_pos h, hX]
theorem tk2_i {A M : Nat → Int} (h : knF A M = -1) (hI : mvN A M 33 = 1) (hn : mvN A M 34 + 1 < ned A) : (fun j : Nat => if j = 34 then mvN A M 34 + 1 else mvN A M j) = tk2 A M := by
  funext j
  unfold tk2
  rw [if_neg (show ¬ knF A M ≠ -1 from fun q => q h), if_pos hI, if_pos hn]
theorem tk2_o {A M : Nat → Int} {X : Int} (h : knF A M = -1) (hI : mvN A M 33 = 1) (hn : ¬ mvN A M 34 + 1 < ned A) (hX : X = if mvN A M 32 + 1 = A 0 then 1 else 0) : (fun j : Nat => if j = 37 then X else if j = 32 then mvN A M 32 + 1 else if j = 33 then 0 else if j = 34 then mvN A M 34 + 1 else mvN A M j) = tk2 A M := by
  funext j
  unfold tk2
  rw [if_neg (show ¬ knF A M ≠ -1 from fun q => q h), if_pos hI, if_neg hn, hX]
theorem tk2_n {A M : Nat → Int} (h : knF A M = -1) (hI : mvN A M 33 ≠ 1) : mvN A M = tk2 A M := by
  funext j
  unfold tk2
  rw [if_neg (show ¬ knF A M ≠ -1 from fun q => q h), if_neg hI]
theorem tk3_l {Q : Nat → Int} {a : Int} (ha : a = Q 35 + (if Q 33 = 0 ∧ Q 32 = 0 then 1 else 0)) (h : Q 37 = 0 ∧ Q 36 + 1 = 99) : (fun j : Nat => if j = 41 then 0 else if j = 37 then 3 else if j = 36 then Q 36 + 1 else if j = 35 then a else Q j) = tk3 Q := by
  funext j
  unfold tk3
  rw [if_pos h, ha]
theorem tk3_n {Q : Nat → Int} {a : Int} (ha : a = Q 35 + (if Q 33 = 0 ∧ Q 32 = 0 then 1 else 0)) (h : ¬ (Q 37 = 0 ∧ Q 36 + 1 = 99)) : (fun j : Nat => if j = 41 then 0 else if j = 36 then Q 36 + 1 else if j = 35 then a else Q j) = tk3 Q := by
  funext j
  unfold tk3
  rw [if_neg h, ha]
  by_cases q : j = 37
  · rw [q]; rfl
  · rw [if_neg q]
/-- what holds between ticks, beyond WFN -/
def WFX (A N : Nat → Int) : Prop := (∀ c : Nat, (c : Int) < A 1 → N c ≤ 0 → N (24 + c) = 0) ∧ (N 37 = 0 → N 32 < A 0) ∧ (N 33 = 1 → N 34 < ned A) ∧ (N 33 = 1 → N 32 < A 0) ∧ N 35 ≤ N 36 ∧ (N 37 = 0 → N 36 < 99)
theorem tk2_at {A M : Nat → Int} {j : Nat} (h : j ≠ 32 ∧ j ≠ 33 ∧ j ≠ 34 ∧ j ≠ 37 ∧ j ≠ 38 ∧ j ≠ 39) : tk2 A M j = mvN A M j := by
  unfold tk2
  (repeat' split) <;> first | rfl | omega
theorem tk3_at {Q : Nat → Int} {j : Nat} (h : j ≠ 35 ∧ j ≠ 36 ∧ j ≠ 37 ∧ j ≠ 41) : tk3 Q j = Q j := by
  unfold tk3
  rw [if_neg h.2.2.2, if_neg h.2.2.1, if_neg h.2.1, if_neg h.1]
theorem tk1_at {A N : Nat → Int} {j : Nat} (h : j ≠ 33 ∧ j ≠ 34) : tk1 A N j = N j := by
  unfold tk1
  rw [if_neg h.2, if_neg h.1]
  split <;> rfl
theorem wl_w0 {A N : Nat → Int} (h8 : A 1 ≤ 8) {c : Nat} (hc : (c : Int) < A 1) : 0 < N c ∧ N c ≤ 200 → 0 ≤ wl A N c := fun h => wl_nn h8 hc h.2
/-- a tick keeps the state as it must be -/
theorem tickF_wf {A N : Nat → Int} (ws1 : 0 ≤ A 1 ∧ A 1 ≤ 8) (ws0 : 1 ≤ A 0 ∧ A 0 ≤ 4) (h : WFN A N) (hx : WFX A N) (he : N 37 = 0) : WFN A (tickF A N) ∧ WFX A (tickF A N) ∧ (tickF A N) 36 = N 36 + 1 ∧ (tickF A N) 40 = N 40 := by
  have hm := tk1_wfn h ws1.2
  have en : ned A = 2 ∨ ned A = 1 := by unfold ned; split <;> simp
  have hx' : (∀ c : Nat, (c : Int) < A 1 → tk1 A N c ≤ 0 → tk1 A N (24 + c) = 0) ∧ tk1 A N 32 < A 0 ∧ (tk1 A N 33 = 1 → tk1 A N 34 < ned A) ∧ tk1 A N 35 ≤ tk1 A N 36 ∧ tk1 A N 36 < 99 ∧ tk1 A N 37 = 0 ∧ tk1 A N 36 = N 36 ∧ tk1 A N 40 = N 40 := by
    obtain ⟨x1, x2, x3, x4, x5, x6⟩ := hx
    refine ⟨fun c hc => ?_, ?_, ?_, ?_, ?_, ?_, tk1_at (by omega), tk1_at (by omega)⟩
    · rw [tk1_at (by omega), tk1_at (by omega)]; exact x1 c hc
    · rw [tk1_at (by omega)]; exact x2 he
    · show (if entB A N = true then 1 else N 33) = 1 → (if entB A N = true then 0 else N 34) < ned A
      split
      · intro _; omega
      · exact x3
    · rw [tk1_at (by omega), tk1_at (by omega)]; exact x5
    · rw [tk1_at (by omega)]; exact x6 he
    · rw [tk1_at (by omega)]; exact he
  generalize hM : tk1 A N = M at hm hx'
  obtain ⟨x1, x2, x3, x5, x6, x7, e36, e40⟩ := hx'
  obtain ⟨hC, h32, h33, h34, h35, h36, h37, h38, h39⟩ := hm
  have eh : ∀ j, 32 ≤ j → mvN A M j = M j := fun j hj => mvN_hi ws1.2 hj
  have eT : tickF A N = tk3 (tk2 A M) := by unfold tickF; rw [hM]
  have kb := knF_bd (A := A) (N := M) ws1
  have mC : ∀ c : Nat, (c : Int) < A 1 → (-9 ≤ mvN A M c ∧ mvN A M c ≤ 200) ∧ (0 ≤ mvN A M (8 + c) ∧ mvN A M (8 + c) ≤ 9) ∧ (M (16 + c) ≠ 2 → 1 ≤ mvN A M (8 + c)) ∧ (mvN A M (24 + c) = 0 ∨ mvN A M (24 + c) = 1) ∧ (mvN A M c ≤ 0 → mvN A M (24 + c) = 0) := by
    intro c hc
    obtain ⟨a1, a2, a3, a4, a5⟩ := hC c hc
    have xc := x1 c hc
    rw [mvN_0 hc, mvN_8 ws1.2 hc, mvN_24 ws1.2 hc]
    by_cases q : 0 < M c
    · have b1 := ndi_bd (V := M) (c := c) (w := wl A M c) ⟨q, a1.2⟩ a2
      have b2 := nsp_bd (V := M) (c := c) a2
      rw [if_pos q, if_pos q]
      refine ⟨by omega, b2, fun z => ?_, ?_, fun z => ?_⟩
      · unfold nsp
        rw [if_neg z]
        exact a4 z
      · split
        · exact Or.inr rfl
        · exact Or.inl rfl
      · refine if_neg (fun w => ?_)
        have w2 := of_decide_eq_true w.2
        unfold ndi at z
        rw [if_neg w2.1, if_pos w2.2] at z
        revert z
        split <;> omega
    · rw [if_neg q, if_neg q, if_neg (fun z => q z.1)]
      exact ⟨a1, a2, a4, Or.inl rfl, fun _ => rfl⟩
  -- the middle
  have q38 : 0 ≤ tk2 A M 38 ∧ tk2 A M 38 ≤ 162 := by
    by_cases k : knF A M ≠ -1
    · have e : tk2 A M 38 = mvN A M (8 + (knF A M).toNat) * mvN A M (8 + (knF A M).toNat) * ned A := by
        unfold tk2
        rw [if_pos k]; rfl
      have b := (mC (knF A M).toNat (by omega)).2.1
      have m := nn2 (x := mvN A M (8 + (knF A M).toNat)) (y := mvN A M (8 + (knF A M).toNat)) (A := 9) (B := 9) b.1 b.2 b.1 b.2
      rw [e]
      rcases en with q | q <;> rw [q] <;> omega
    · have e : tk2 A M 38 = mvN A M 38 := by
        unfold tk2
        rw [if_neg k]
        (repeat' split) <;> first | rfl | omega
      rw [e, eh 38 (by omega)]; exact h38
  have q39 : -1 ≤ tk2 A M 39 ∧ tk2 A M 39 ≤ 7 := by
    by_cases k : knF A M ≠ -1
    · have e : tk2 A M 39 = knF A M := by
        unfold tk2
        rw [if_pos k]; rfl
      rw [e]; omega
    · have e : tk2 A M 39 = mvN A M 39 := by
        unfold tk2
        rw [if_neg k]
        (repeat' split) <;> first | rfl | omega
      rw [e, eh 39 (by omega)]; exact h39
  have qq : (0 ≤ tk2 A M 32 ∧ tk2 A M 32 ≤ 4) ∧ (tk2 A M 33 = 0 ∨ tk2 A M 33 = 1) ∧ (0 ≤ tk2 A M 34 ∧ tk2 A M 34 ≤ 2) ∧ (0 ≤ tk2 A M 37 ∧ tk2 A M 37 ≤ 2) ∧ (tk2 A M 37 = 0 → tk2 A M 32 < A 0) ∧ (tk2 A M 33 = 1 → tk2 A M 34 < ned A) ∧ (tk2 A M 33 = 1 → tk2 A M 32 < A 0) := by
    unfold tk2
    rw [eh 32 (by omega), eh 33 (by omega), eh 34 (by omega), eh 37 (by omega)]
    by_cases k : knF A M ≠ -1
    · rw [if_pos k, if_pos k, if_pos k, if_pos k]
      refine ⟨h32, h33, h34, (show (0 : Int) ≤ 2 ∧ (2 : Int) ≤ 2 by decide), fun z => absurd z (show ¬ (2 : Int) = 0 by decide), x3, fun _ => x2⟩
    · rw [if_neg k, if_neg k, if_neg k, if_neg k]
      by_cases i : M 33 = 1
      · rw [if_pos i, if_pos i, if_pos i, if_pos i]
        have := x3 i
        by_cases w : M 34 + 1 < ned A
        · rw [if_pos w, if_pos w, if_pos w, if_pos w]
          refine ⟨h32, h33, ?_, ?_, fun _ => x2, fun _ => w, fun _ => x2⟩
          · show 0 ≤ M 34 + 1 ∧ M 34 + 1 ≤ 2; omega
          · show 0 ≤ M 37 ∧ M 37 ≤ 2; omega
        · rw [if_neg w, if_neg w, if_neg w, if_neg w]
          refine ⟨?_, Or.inl rfl, ?_, ?_, ?_, fun z => absurd z (show ¬ (0 : Int) = 1 by decide), fun z => absurd z (show ¬ (0 : Int) = 1 by decide)⟩
          · show 0 ≤ M 32 + 1 ∧ M 32 + 1 ≤ 4; omega
          · show 0 ≤ M 34 + 1 ∧ M 34 + 1 ≤ 2; omega
          · show 0 ≤ (if M 32 + 1 = A 0 then (1 : Int) else 0) ∧ (if M 32 + 1 = A 0 then (1 : Int) else 0) ≤ 2
            split <;> omega
          · show (if M 32 + 1 = A 0 then (1 : Int) else 0) = 0 → M 32 + 1 < A 0
            split <;> omega
      · rw [if_neg i, if_neg i, if_neg i, if_neg i]
        exact ⟨h32, h33, h34, by omega, fun _ => x2, fun z => absurd z i, fun z => absurd z i⟩
  rw [eT]
  have p35 : tk2 A M 35 = M 35 := by rw [tk2_at (by omega), eh 35 (by omega)]
  have p36 : tk2 A M 36 = M 36 := by rw [tk2_at (by omega), eh 36 (by omega)]
  have p40 : tk2 A M 40 = M 40 := by rw [tk2_at (by omega), eh 40 (by omega)]
  obtain ⟨q32, q33, q34, q37, qa, qb, qc⟩ := qq
  have t35 : tk3 (tk2 A M) 35 = M 35 ∨ tk3 (tk2 A M) 35 = M 35 + 1 := by
    show tk2 A M 35 + (if _ then 1 else 0) = _ ∨ tk2 A M 35 + (if _ then 1 else 0) = _
    rw [p35]
    split
    · exact Or.inr rfl
    · exact Or.inl (Int.add_zero _)
  have t36 : tk3 (tk2 A M) 36 = M 36 + 1 := by
    show tk2 A M 36 + 1 = _
    rw [p36]
  have t37 : tk3 (tk2 A M) 37 = (if tk2 A M 37 = 0 ∧ tk2 A M 36 + 1 = 99 then 3 else tk2 A M 37) := rfl
  have t32 : tk3 (tk2 A M) 32 = tk2 A M 32 := rfl
  have t33 : tk3 (tk2 A M) 33 = tk2 A M 33 := rfl
  have t34 : tk3 (tk2 A M) 34 = tk2 A M 34 := rfl
  have t38 : tk3 (tk2 A M) 38 = tk2 A M 38 := rfl
  have t39 : tk3 (tk2 A M) 39 = tk2 A M 39 := rfl
  have tc : ∀ c : Nat, (c : Int) < A 1 → tk3 (tk2 A M) c = mvN A M c ∧ tk3 (tk2 A M) (8 + c) = mvN A M (8 + c) ∧ tk3 (tk2 A M) (16 + c) = M (16 + c) ∧ tk3 (tk2 A M) (24 + c) = mvN A M (24 + c) := by
    intro c hc
    rw [tk3_at (by omega), tk3_at (by omega), tk3_at (by omega), tk3_at (by omega), tk2_at (by omega), tk2_at (by omega), tk2_at (by omega), tk2_at (by omega), mvN_md (j := 16 + c) ws1.2 (by omega)]
    exact ⟨rfl, rfl, rfl, rfl⟩
  refine ⟨⟨fun c hc => ?_, ?_, ?_, ?_, ?_, ?_, ?_, ?_, ?_⟩, ⟨fun c hc => ?_, ?_, ?_, ?_, ?_, ?_⟩, ?_, ?_⟩
  · obtain ⟨c0, c1, c2, c3⟩ := tc c hc
    obtain ⟨m1, m2, m3, m4, m5⟩ := mC c hc
    rw [c0, c1, c2, c3]
    exact ⟨m1, m2, (hC c hc).2.2.1, m3, m4⟩
  · rw [t32]; exact q32
  · rw [t33]; exact q33
  · rw [t34]; exact q34
  · omega
  · omega
  · rw [t37]; split <;> omega
  · rw [t38]; exact q38
  · rw [t39]; exact q39
  · obtain ⟨c0, c1, c2, c3⟩ := tc c hc
    rw [c0, c3]
    exact (mC c hc).2.2.2.2
  · rw [t37, t32]
    intro z
    apply qa
    revert z
    split <;> omega
  · rw [t33, t34]; exact qb
  · rw [t33, t32]; exact qc
  · omega
  · rw [t37, t36, p36]
    split <;> omega
  · rw [t36, e36]
  · rw [show tk3 (tk2 A M) 40 = tk2 A M 40 from rfl, p40, e40]

theorem tk1_t {H : ZH} (h : entB (H.1 2) (H.1 6) = true) : wI (wI H 6 33 1) 6 34 0 = wA H 6 (tk1 (H.1 2) (H.1 6)) := by
  have e : H = wA H 6 (H.1 6) := (wA_self H 6).symm
  refine (congrArg (fun z => wI (wI z 6 33 1) 6 34 0) e).trans ?_
  rw [wI_wA, wI_wA]
  refine congrArg (wA H 6) (funext (fun j => ?_))
  unfold tk1
  rw [if_pos h]
theorem tk1_f {H : ZH} (h : entB (H.1 2) (H.1 6) = false) : H = wA H 6 (tk1 (H.1 2) (H.1 6)) := by
  have e : tk1 (H.1 2) (H.1 6) = H.1 6 := by
    funext j
    unfold tk1
    rw [if_neg (by rw [h]; decide)]
  rw [e, wA_self]

theorem c_X11_ticks {d : Nat} {H : ZH} (ok : okZ H)  (ws : WFS (H.1 2)) (wn : WFN (H.1 2) (H.1 6)) (wx : WFX (H.1 2) (H.1 6)) (he : H.1 6 37 = 0) : EvC zX (d + 4) mX11_ticks [.ref 0] (eh H) (zPv (fun (H1 : ZH) => FrC H H1 ∧ H1.1 6 = tickF (H.1 2) (H.1 6))) := by
  show _ ∧ Ev zX mX11_ticks (EvC zX (d + 3)) (zPv (fun (H1 : ZH) => FrC H H1 ∧ H1.1 6 = tickF (H.1 2) (H.1 6))) 0 [(0, .ref 0)] [] (eh H)
  refine ⟨Nat.le_of_ble_eq_true rfl, ?_⟩
  have wsx := ws
  obtain ⟨ws0, ws1, wsC, ws34, ws35, ws36, ws37, ws38, ws39⟩ := wsx
  have wnx := wn
  obtain ⟨wnC, wn32, wn33, wn34, wn35, wn36, wn37, wn38, wn39⟩ := wnx
  have wm := tk1_wfn wn ws1.2
  have jn67 : okZ (wA H 6 ((tk1 (H.1 2) (H.1 6)))) → Ev zX mX11_ticks (EvC zX (d + 3)) (zPv (fun (H1 : ZH) => FrC H H1 ∧ H1.1 6 = tickF (H.1 2) (H.1 6))) 67 [(0, .ref 0)] [] (eh (wA H 6 ((tk1 (H.1 2) (H.1 6))))) := by
    intro okj67
    refine x_aload_n (pc := 67) dX11_ticks_67 (List.Mem.head _) ?_
    refine z_callVv (pc := 68) (i := mX11_carsGo) (S := []) [] dX11_ticks_68 ml_X11_265 ok_X11_carsGo rfl sh_0 rfl rfl (Nat.le_of_ble_eq_true rfl) (c_X11_carsGo (d := d + 1) (ok := okj67) (ws := (show WFS (H.1 2) from ws)) (wn := (show WFN (H.1 2) (tk1 (H.1 2) (H.1 6)) from wm))) ?_
    intro H2 ok2 hp3
    obtain ⟨fr0, e6, ek⟩ := hp3
    have fr : FrC H H2 := ⟨fr0.1, fun cc k h => (fr0.2 cc k h).trans (by rw [wA1c (by omega)])⟩
    have e6b : H2.1 6 = (mvN (H.1 2) (tk1 (H.1 2) (H.1 6))) := e6
    have ekb : H2.1 0 26 = (knF (H.1 2) (tk1 (H.1 2) (H.1 6))) := ek
    have okx := ok2
    have eH2 : H2 = wA H2 6 (mvN (H.1 2) (tk1 (H.1 2) (H.1 6))) := by rw [← e6b, wA_self]
    have okp : okZ (wA H2 6 (mvN (H.1 2) (tk1 (H.1 2) (H.1 6)))) := by rw [← eH2]; exact okx
    refine Ev_heq eH2 ?_
    have eT : H2.1 2 = H.1 2 := funext (fun k => fr.2 2 k (by omega))
    have kb := knF_bd (A := H.1 2) (N := (tk1 (H.1 2) (H.1 6))) ws1
    have mb : ∀ c : Nat, (c : Int) < H.1 2 1 → 0 ≤ (mvN (H.1 2) (tk1 (H.1 2) (H.1 6))) (8 + c) ∧ (mvN (H.1 2) (tk1 (H.1 2) (H.1 6))) (8 + c) ≤ 9 := fun c hc => by
      have b := (wm.1 c hc).2.1
      have b2 := nsp_bd (c := c) b
      rw [mvN_8 ws1.2 hc]
      split
      · exact b2
      · exact b
    have p33 : (mvN (H.1 2) (tk1 (H.1 2) (H.1 6))) 33 = (tk1 (H.1 2) (H.1 6)) 33 := mvN_hi ws1.2 (by omega)
    have p34 : (mvN (H.1 2) (tk1 (H.1 2) (H.1 6))) 34 = (tk1 (H.1 2) (H.1 6)) 34 := mvN_hi ws1.2 (by omega)
    have p32 : (mvN (H.1 2) (tk1 (H.1 2) (H.1 6))) 32 = (tk1 (H.1 2) (H.1 6)) 32 := mvN_hi ws1.2 (by omega)
    have wmx := wm
    obtain ⟨wmC, wm32, wm33, wm34, wm35, wm36, wm37, wm38, wm39⟩ := wmx
    have jn239 : okZ (wA H2 6 ((tk2 (H.1 2) (tk1 (H.1 2) (H.1 6))))) → Ev zX mX11_ticks (EvC zX (d + 3)) (zPv (fun (H1 : ZH) => FrC H H1 ∧ H1.1 6 = tickF (H.1 2) (H.1 6))) 239 [(0, .ref 0)] [] (eh (wA H2 6 ((tk2 (H.1 2) (tk1 (H.1 2) (H.1 6)))))) := by
      intro okj239
      have r33 : -2147483648 ≤ (tk2 (H.1 2) (tk1 (H.1 2) (H.1 6))) 33 ∧ (tk2 (H.1 2) (tk1 (H.1 2) (H.1 6))) 33 ≤ 2147483647 := okj239.1 6 33
      have r32 : -2147483648 ≤ (tk2 (H.1 2) (tk1 (H.1 2) (H.1 6))) 32 ∧ (tk2 (H.1 2) (tk1 (H.1 2) (H.1 6))) 32 ≤ 2147483647 := okj239.1 6 32
      have r37 : -2147483648 ≤ (tk2 (H.1 2) (tk1 (H.1 2) (H.1 6))) 37 ∧ (tk2 (H.1 2) (tk1 (H.1 2) (H.1 6))) 37 ≤ 2147483647 := okj239.1 6 37
      have p35 : (tk2 (H.1 2) (tk1 (H.1 2) (H.1 6))) 35 = (tk1 (H.1 2) (H.1 6)) 35 := by rw [tk2_at (by omega), mvN_hi ws1.2 (by omega)]
      have p36 : (tk2 (H.1 2) (tk1 (H.1 2) (H.1 6))) 36 = (tk1 (H.1 2) (H.1 6)) 36 := by rw [tk2_at (by omega), mvN_hi ws1.2 (by omega)]
      refine x_aload_n (pc := 239) dX11_ticks_239 (List.Mem.head _) ?_
      refine z_getR (pc := 240) (k := 18) (r := 6) dX11_ticks_240 lf_X11_33 sh_0 rfl rf_0_18 ?_
      refine z_bipush (pc := 243) dX11_ticks_243 bp_35 ?_
      refine x_dup2 (pc := 245) dX11_ticks_245 rfl rfl ?_
      refine z_iald (pc := 246) (j := 35) (v := ((tk2 (H.1 2) (tk1 (H.1 2) (H.1 6)))) 35) dX11_ticks_246 sh_6 rfl (Nat.le_of_ble_eq_true rfl) (by decide) (by rw [wA1]) ?_
      refine x_aload_n (pc := 247) dX11_ticks_247 (List.Mem.head _) ?_
      refine z_getR (pc := 248) (k := 18) (r := 6) dX11_ticks_248 lf_X11_33 sh_0 rfl rf_0_18 ?_
      refine z_bipush (pc := 251) dX11_ticks_251 bp_33 ?_
      refine z_iald (pc := 253) (j := 33) (v := ((tk2 (H.1 2) (tk1 (H.1 2) (H.1 6)))) 33) dX11_ticks_253 sh_6 rfl (Nat.le_of_ble_eq_true rfl) (by decide) (by rw [wA1]) ?_
      refine z_if_ne (pc := 254) (tgt := 271) dX11_ticks_254 (by decide) (by omega) (by omega) (fun hb4 => ?_) (fun hb4 => ?_)
      · skip
        refine z_iconst (pc := 271) dX11_ticks_271 ?_
        refine z_iadd (pc := 272) dX11_ticks_272 ?_
        refine z_iast (pc := 273) (j := 35) (v := ((((tk2 (H.1 2) (tk1 (H.1 2) (H.1 6)))) 35) + 0)) dX11_ticks_273 sh_6 rfl (Nat.le_of_ble_eq_true rfl) (by decide) ?_
        have ok5 := okI okj239 6 35 (v := ((((tk2 (H.1 2) (tk1 (H.1 2) (H.1 6)))) 35) + 0)) (by omega) (by omega)
        refine x_aload_n (pc := 274) dX11_ticks_274 (List.Mem.head _) ?_
        refine z_getR (pc := 275) (k := 18) (r := 6) dX11_ticks_275 lf_X11_33 sh_0 rfl rf_0_18 ?_
        refine z_bipush (pc := 278) dX11_ticks_278 bp_36 ?_
        refine x_dup2 (pc := 280) dX11_ticks_280 rfl rfl ?_
        refine z_iald (pc := 281) (j := 36) (v := ((tk2 (H.1 2) (tk1 (H.1 2) (H.1 6)))) 36) dX11_ticks_281 sh_6 rfl (Nat.le_of_ble_eq_true rfl) (by decide) (by rw [wI1k (by omega), wA1]) ?_
        refine z_iconst (pc := 282) dX11_ticks_282 ?_
        refine z_iadd (pc := 283) dX11_ticks_283 ?_
        refine z_iast (pc := 284) (j := 36) (v := ((((tk2 (H.1 2) (tk1 (H.1 2) (H.1 6)))) 36) + 1)) dX11_ticks_284 sh_6 rfl (Nat.le_of_ble_eq_true rfl) (by decide) ?_
        have ok6 := okI ok5 6 36 (v := ((((tk2 (H.1 2) (tk1 (H.1 2) (H.1 6)))) 36) + 1)) (by omega) (by omega)
        refine x_aload_n (pc := 285) dX11_ticks_285 (List.Mem.head _) ?_
        refine z_getR (pc := 286) (k := 18) (r := 6) dX11_ticks_286 lf_X11_33 sh_0 rfl rf_0_18 ?_
        refine z_bipush (pc := 289) dX11_ticks_289 bp_37 ?_
        refine z_iald (pc := 291) (j := 37) (v := ((tk2 (H.1 2) (tk1 (H.1 2) (H.1 6)))) 37) dX11_ticks_291 sh_6 rfl (Nat.le_of_ble_eq_true rfl) (by decide) (by rw [wI1k (by omega), wI1k (by omega), wA1]) ?_
        refine z_if_ne (pc := 292) (tgt := 315) dX11_ticks_292 (by decide) (by omega) (by omega) (fun hb7 => ?_) (fun hb7 => ?_)
        · skip
          refine x_aload_n (pc := 315) dX11_ticks_315 (List.Mem.head _) ?_
          refine z_getR (pc := 316) (k := 18) (r := 6) dX11_ticks_316 lf_X11_33 sh_0 rfl rf_0_18 ?_
          refine z_bipush (pc := 319) dX11_ticks_319 bp_41 ?_
          refine z_iconst (pc := 321) dX11_ticks_321 ?_
          refine z_iast (pc := 322) (j := 41) (v := 0) dX11_ticks_322 sh_6 rfl (Nat.le_of_ble_eq_true rfl) (by decide) ?_
          have ok8 := okI ok6 6 41 (v := 0) (by decide) (by decide)
          refine z_vreturn (pc := 323) dX11_ticks_323 rfl ok8 ?_
          have hz : (((((tk2 (H.1 2) (tk1 (H.1 2) (H.1 6)))) 35) + 0) : Int) = (tk2 (H.1 2) (tk1 (H.1 2) (H.1 6))) 35 + (if (tk2 (H.1 2) (tk1 (H.1 2) (H.1 6))) 33 = 0 ∧ (tk2 (H.1 2) (tk1 (H.1 2) (H.1 6))) 32 = 0 then 1 else 0) := by first | (rw [if_pos (by omega)]; done) | (rw [if_neg (by omega)]; done)
          have hT := tk3_n hz (by omega)
          have eF : (wI (wI (wI (wA H2 6 ((tk2 (H.1 2) (tk1 (H.1 2) (H.1 6))))) 6 35 (((((tk2 (H.1 2) (tk1 (H.1 2) (H.1 6)))) 35) + 0))) 6 36 (((((tk2 (H.1 2) (tk1 (H.1 2) (H.1 6)))) 36) + 1))) 6 41 (0)) = wA H2 6 (tickF (H.1 2) (H.1 6)) := by (repeat rw [wI_wA]); exact congrArg (wA H2 6) hT
          rw [eF]
          exact ⟨⟨fr.1, fun cc j h => by rw [wA1c (by omega)]; exact fr.2 cc j h⟩, by rw [wA1]⟩
        · skip
          refine x_aload_n (pc := 295) dX11_ticks_295 (List.Mem.head _) ?_
          refine z_getR (pc := 296) (k := 18) (r := 6) dX11_ticks_296 lf_X11_33 sh_0 rfl rf_0_18 ?_
          refine z_bipush (pc := 299) dX11_ticks_299 bp_36 ?_
          refine z_iald (pc := 301) (j := 36) (v := ((((tk2 (H.1 2) (tk1 (H.1 2) (H.1 6)))) 36) + 1)) dX11_ticks_301 sh_6 rfl (Nat.le_of_ble_eq_true rfl) (by decide) (by rw [wI1]) ?_
          refine z_bipush (pc := 302) dX11_ticks_302 bp_99 ?_
          refine z_icmp_ne (pc := 304) (tgt := 315) dX11_ticks_304 (by decide) (by omega) (by omega) (by decide) (by decide) (fun hb9 => ?_) (fun hb9 => ?_)
          · skip
            refine x_aload_n (pc := 315) dX11_ticks_315 (List.Mem.head _) ?_
            refine z_getR (pc := 316) (k := 18) (r := 6) dX11_ticks_316 lf_X11_33 sh_0 rfl rf_0_18 ?_
            refine z_bipush (pc := 319) dX11_ticks_319 bp_41 ?_
            refine z_iconst (pc := 321) dX11_ticks_321 ?_
            refine z_iast (pc := 322) (j := 41) (v := 0) dX11_ticks_322 sh_6 rfl (Nat.le_of_ble_eq_true rfl) (by decide) ?_
            have ok10 := okI ok6 6 41 (v := 0) (by decide) (by decide)
            refine z_vreturn (pc := 323) dX11_ticks_323 rfl ok10 ?_
            have hz : (((((tk2 (H.1 2) (tk1 (H.1 2) (H.1 6)))) 35) + 0) : Int) = (tk2 (H.1 2) (tk1 (H.1 2) (H.1 6))) 35 + (if (tk2 (H.1 2) (tk1 (H.1 2) (H.1 6))) 33 = 0 ∧ (tk2 (H.1 2) (tk1 (H.1 2) (H.1 6))) 32 = 0 then 1 else 0) := by first | (rw [if_pos (by omega)]; done) | (rw [if_neg (by omega)]; done)
            have hT := tk3_n hz (by omega)
            have eF : (wI (wI (wI (wA H2 6 ((tk2 (H.1 2) (tk1 (H.1 2) (H.1 6))))) 6 35 (((((tk2 (H.1 2) (tk1 (H.1 2) (H.1 6)))) 35) + 0))) 6 36 (((((tk2 (H.1 2) (tk1 (H.1 2) (H.1 6)))) 36) + 1))) 6 41 (0)) = wA H2 6 (tickF (H.1 2) (H.1 6)) := by (repeat rw [wI_wA]); exact congrArg (wA H2 6) hT
            rw [eF]
            exact ⟨⟨fr.1, fun cc j h => by rw [wA1c (by omega)]; exact fr.2 cc j h⟩, by rw [wA1]⟩
          · skip
            refine x_aload_n (pc := 307) dX11_ticks_307 (List.Mem.head _) ?_
            refine z_getR (pc := 308) (k := 18) (r := 6) dX11_ticks_308 lf_X11_33 sh_0 rfl rf_0_18 ?_
            refine z_bipush (pc := 311) dX11_ticks_311 bp_37 ?_
            refine z_iconst (pc := 313) dX11_ticks_313 ?_
            refine z_iast (pc := 314) (j := 37) (v := 3) dX11_ticks_314 sh_6 rfl (Nat.le_of_ble_eq_true rfl) (by decide) ?_
            have ok11 := okI ok6 6 37 (v := 3) (by decide) (by decide)
            refine x_aload_n (pc := 315) dX11_ticks_315 (List.Mem.head _) ?_
            refine z_getR (pc := 316) (k := 18) (r := 6) dX11_ticks_316 lf_X11_33 sh_0 rfl rf_0_18 ?_
            refine z_bipush (pc := 319) dX11_ticks_319 bp_41 ?_
            refine z_iconst (pc := 321) dX11_ticks_321 ?_
            refine z_iast (pc := 322) (j := 41) (v := 0) dX11_ticks_322 sh_6 rfl (Nat.le_of_ble_eq_true rfl) (by decide) ?_
            have ok12 := okI ok11 6 41 (v := 0) (by decide) (by decide)
            refine z_vreturn (pc := 323) dX11_ticks_323 rfl ok12 ?_
            have hz : (((((tk2 (H.1 2) (tk1 (H.1 2) (H.1 6)))) 35) + 0) : Int) = (tk2 (H.1 2) (tk1 (H.1 2) (H.1 6))) 35 + (if (tk2 (H.1 2) (tk1 (H.1 2) (H.1 6))) 33 = 0 ∧ (tk2 (H.1 2) (tk1 (H.1 2) (H.1 6))) 32 = 0 then 1 else 0) := by first | (rw [if_pos (by omega)]; done) | (rw [if_neg (by omega)]; done)
            have hT := tk3_l hz (by omega)
            have eF : (wI (wI (wI (wI (wA H2 6 ((tk2 (H.1 2) (tk1 (H.1 2) (H.1 6))))) 6 35 (((((tk2 (H.1 2) (tk1 (H.1 2) (H.1 6)))) 35) + 0))) 6 36 (((((tk2 (H.1 2) (tk1 (H.1 2) (H.1 6)))) 36) + 1))) 6 37 (3)) 6 41 (0)) = wA H2 6 (tickF (H.1 2) (H.1 6)) := by (repeat rw [wI_wA]); exact congrArg (wA H2 6) hT
            rw [eF]
            exact ⟨⟨fr.1, fun cc j h => by rw [wA1c (by omega)]; exact fr.2 cc j h⟩, by rw [wA1]⟩
      · skip
        refine x_aload_n (pc := 257) dX11_ticks_257 (List.Mem.head _) ?_
        refine z_getR (pc := 258) (k := 18) (r := 6) dX11_ticks_258 lf_X11_33 sh_0 rfl rf_0_18 ?_
        refine z_bipush (pc := 261) dX11_ticks_261 bp_32 ?_
        refine z_iald (pc := 263) (j := 32) (v := ((tk2 (H.1 2) (tk1 (H.1 2) (H.1 6)))) 32) dX11_ticks_263 sh_6 rfl (Nat.le_of_ble_eq_true rfl) (by decide) (by rw [wA1]) ?_
        refine z_if_ne (pc := 264) (tgt := 271) dX11_ticks_264 (by decide) (by omega) (by omega) (fun hb13 => ?_) (fun hb13 => ?_)
        · skip
          refine z_iconst (pc := 271) dX11_ticks_271 ?_
          refine z_iadd (pc := 272) dX11_ticks_272 ?_
          refine z_iast (pc := 273) (j := 35) (v := ((((tk2 (H.1 2) (tk1 (H.1 2) (H.1 6)))) 35) + 0)) dX11_ticks_273 sh_6 rfl (Nat.le_of_ble_eq_true rfl) (by decide) ?_
          have ok14 := okI okj239 6 35 (v := ((((tk2 (H.1 2) (tk1 (H.1 2) (H.1 6)))) 35) + 0)) (by omega) (by omega)
          refine x_aload_n (pc := 274) dX11_ticks_274 (List.Mem.head _) ?_
          refine z_getR (pc := 275) (k := 18) (r := 6) dX11_ticks_275 lf_X11_33 sh_0 rfl rf_0_18 ?_
          refine z_bipush (pc := 278) dX11_ticks_278 bp_36 ?_
          refine x_dup2 (pc := 280) dX11_ticks_280 rfl rfl ?_
          refine z_iald (pc := 281) (j := 36) (v := ((tk2 (H.1 2) (tk1 (H.1 2) (H.1 6)))) 36) dX11_ticks_281 sh_6 rfl (Nat.le_of_ble_eq_true rfl) (by decide) (by rw [wI1k (by omega), wA1]) ?_
          refine z_iconst (pc := 282) dX11_ticks_282 ?_
          refine z_iadd (pc := 283) dX11_ticks_283 ?_
          refine z_iast (pc := 284) (j := 36) (v := ((((tk2 (H.1 2) (tk1 (H.1 2) (H.1 6)))) 36) + 1)) dX11_ticks_284 sh_6 rfl (Nat.le_of_ble_eq_true rfl) (by decide) ?_
          have ok15 := okI ok14 6 36 (v := ((((tk2 (H.1 2) (tk1 (H.1 2) (H.1 6)))) 36) + 1)) (by omega) (by omega)
          refine x_aload_n (pc := 285) dX11_ticks_285 (List.Mem.head _) ?_
          refine z_getR (pc := 286) (k := 18) (r := 6) dX11_ticks_286 lf_X11_33 sh_0 rfl rf_0_18 ?_
          refine z_bipush (pc := 289) dX11_ticks_289 bp_37 ?_
          refine z_iald (pc := 291) (j := 37) (v := ((tk2 (H.1 2) (tk1 (H.1 2) (H.1 6)))) 37) dX11_ticks_291 sh_6 rfl (Nat.le_of_ble_eq_true rfl) (by decide) (by rw [wI1k (by omega), wI1k (by omega), wA1]) ?_
          refine z_if_ne (pc := 292) (tgt := 315) dX11_ticks_292 (by decide) (by omega) (by omega) (fun hb16 => ?_) (fun hb16 => ?_)
          · skip
            refine x_aload_n (pc := 315) dX11_ticks_315 (List.Mem.head _) ?_
            refine z_getR (pc := 316) (k := 18) (r := 6) dX11_ticks_316 lf_X11_33 sh_0 rfl rf_0_18 ?_
            refine z_bipush (pc := 319) dX11_ticks_319 bp_41 ?_
            refine z_iconst (pc := 321) dX11_ticks_321 ?_
            refine z_iast (pc := 322) (j := 41) (v := 0) dX11_ticks_322 sh_6 rfl (Nat.le_of_ble_eq_true rfl) (by decide) ?_
            have ok17 := okI ok15 6 41 (v := 0) (by decide) (by decide)
            refine z_vreturn (pc := 323) dX11_ticks_323 rfl ok17 ?_
            have hz : (((((tk2 (H.1 2) (tk1 (H.1 2) (H.1 6)))) 35) + 0) : Int) = (tk2 (H.1 2) (tk1 (H.1 2) (H.1 6))) 35 + (if (tk2 (H.1 2) (tk1 (H.1 2) (H.1 6))) 33 = 0 ∧ (tk2 (H.1 2) (tk1 (H.1 2) (H.1 6))) 32 = 0 then 1 else 0) := by first | (rw [if_pos (by omega)]; done) | (rw [if_neg (by omega)]; done)
            have hT := tk3_n hz (by omega)
            have eF : (wI (wI (wI (wA H2 6 ((tk2 (H.1 2) (tk1 (H.1 2) (H.1 6))))) 6 35 (((((tk2 (H.1 2) (tk1 (H.1 2) (H.1 6)))) 35) + 0))) 6 36 (((((tk2 (H.1 2) (tk1 (H.1 2) (H.1 6)))) 36) + 1))) 6 41 (0)) = wA H2 6 (tickF (H.1 2) (H.1 6)) := by (repeat rw [wI_wA]); exact congrArg (wA H2 6) hT
            rw [eF]
            exact ⟨⟨fr.1, fun cc j h => by rw [wA1c (by omega)]; exact fr.2 cc j h⟩, by rw [wA1]⟩
          · skip
            refine x_aload_n (pc := 295) dX11_ticks_295 (List.Mem.head _) ?_
            refine z_getR (pc := 296) (k := 18) (r := 6) dX11_ticks_296 lf_X11_33 sh_0 rfl rf_0_18 ?_
            refine z_bipush (pc := 299) dX11_ticks_299 bp_36 ?_
            refine z_iald (pc := 301) (j := 36) (v := ((((tk2 (H.1 2) (tk1 (H.1 2) (H.1 6)))) 36) + 1)) dX11_ticks_301 sh_6 rfl (Nat.le_of_ble_eq_true rfl) (by decide) (by rw [wI1]) ?_
            refine z_bipush (pc := 302) dX11_ticks_302 bp_99 ?_
            refine z_icmp_ne (pc := 304) (tgt := 315) dX11_ticks_304 (by decide) (by omega) (by omega) (by decide) (by decide) (fun hb18 => ?_) (fun hb18 => ?_)
            · skip
              refine x_aload_n (pc := 315) dX11_ticks_315 (List.Mem.head _) ?_
              refine z_getR (pc := 316) (k := 18) (r := 6) dX11_ticks_316 lf_X11_33 sh_0 rfl rf_0_18 ?_
              refine z_bipush (pc := 319) dX11_ticks_319 bp_41 ?_
              refine z_iconst (pc := 321) dX11_ticks_321 ?_
              refine z_iast (pc := 322) (j := 41) (v := 0) dX11_ticks_322 sh_6 rfl (Nat.le_of_ble_eq_true rfl) (by decide) ?_
              have ok19 := okI ok15 6 41 (v := 0) (by decide) (by decide)
              refine z_vreturn (pc := 323) dX11_ticks_323 rfl ok19 ?_
              have hz : (((((tk2 (H.1 2) (tk1 (H.1 2) (H.1 6)))) 35) + 0) : Int) = (tk2 (H.1 2) (tk1 (H.1 2) (H.1 6))) 35 + (if (tk2 (H.1 2) (tk1 (H.1 2) (H.1 6))) 33 = 0 ∧ (tk2 (H.1 2) (tk1 (H.1 2) (H.1 6))) 32 = 0 then 1 else 0) := by first | (rw [if_pos (by omega)]; done) | (rw [if_neg (by omega)]; done)
              have hT := tk3_n hz (by omega)
              have eF : (wI (wI (wI (wA H2 6 ((tk2 (H.1 2) (tk1 (H.1 2) (H.1 6))))) 6 35 (((((tk2 (H.1 2) (tk1 (H.1 2) (H.1 6)))) 35) + 0))) 6 36 (((((tk2 (H.1 2) (tk1 (H.1 2) (H.1 6)))) 36) + 1))) 6 41 (0)) = wA H2 6 (tickF (H.1 2) (H.1 6)) := by (repeat rw [wI_wA]); exact congrArg (wA H2 6) hT
              rw [eF]
              exact ⟨⟨fr.1, fun cc j h => by rw [wA1c (by omega)]; exact fr.2 cc j h⟩, by rw [wA1]⟩
            · skip
              refine x_aload_n (pc := 307) dX11_ticks_307 (List.Mem.head _) ?_
              refine z_getR (pc := 308) (k := 18) (r := 6) dX11_ticks_308 lf_X11_33 sh_0 rfl rf_0_18 ?_
              refine z_bipush (pc := 311) dX11_ticks_311 bp_37 ?_
              refine z_iconst (pc := 313) dX11_ticks_313 ?_
              refine z_iast (pc := 314) (j := 37) (v := 3) dX11_ticks_314 sh_6 rfl (Nat.le_of_ble_eq_true rfl) (by decide) ?_
              have ok20 := okI ok15 6 37 (v := 3) (by decide) (by decide)
              refine x_aload_n (pc := 315) dX11_ticks_315 (List.Mem.head _) ?_
              refine z_getR (pc := 316) (k := 18) (r := 6) dX11_ticks_316 lf_X11_33 sh_0 rfl rf_0_18 ?_
              refine z_bipush (pc := 319) dX11_ticks_319 bp_41 ?_
              refine z_iconst (pc := 321) dX11_ticks_321 ?_
              refine z_iast (pc := 322) (j := 41) (v := 0) dX11_ticks_322 sh_6 rfl (Nat.le_of_ble_eq_true rfl) (by decide) ?_
              have ok21 := okI ok20 6 41 (v := 0) (by decide) (by decide)
              refine z_vreturn (pc := 323) dX11_ticks_323 rfl ok21 ?_
              have hz : (((((tk2 (H.1 2) (tk1 (H.1 2) (H.1 6)))) 35) + 0) : Int) = (tk2 (H.1 2) (tk1 (H.1 2) (H.1 6))) 35 + (if (tk2 (H.1 2) (tk1 (H.1 2) (H.1 6))) 33 = 0 ∧ (tk2 (H.1 2) (tk1 (H.1 2) (H.1 6))) 32 = 0 then 1 else 0) := by first | (rw [if_pos (by omega)]; done) | (rw [if_neg (by omega)]; done)
              have hT := tk3_l hz (by omega)
              have eF : (wI (wI (wI (wI (wA H2 6 ((tk2 (H.1 2) (tk1 (H.1 2) (H.1 6))))) 6 35 (((((tk2 (H.1 2) (tk1 (H.1 2) (H.1 6)))) 35) + 0))) 6 36 (((((tk2 (H.1 2) (tk1 (H.1 2) (H.1 6)))) 36) + 1))) 6 37 (3)) 6 41 (0)) = wA H2 6 (tickF (H.1 2) (H.1 6)) := by (repeat rw [wI_wA]); exact congrArg (wA H2 6) hT
              rw [eF]
              exact ⟨⟨fr.1, fun cc j h => by rw [wA1c (by omega)]; exact fr.2 cc j h⟩, by rw [wA1]⟩
        · skip
          refine z_iconst (pc := 267) dX11_ticks_267 ?_
          refine x_goto (pc := 268) (tgt := 272) dX11_ticks_268 (by decide) ?_
          refine z_iadd (pc := 272) dX11_ticks_272 ?_
          refine z_iast (pc := 273) (j := 35) (v := ((((tk2 (H.1 2) (tk1 (H.1 2) (H.1 6)))) 35) + 1)) dX11_ticks_273 sh_6 rfl (Nat.le_of_ble_eq_true rfl) (by decide) ?_
          have ok22 := okI okj239 6 35 (v := ((((tk2 (H.1 2) (tk1 (H.1 2) (H.1 6)))) 35) + 1)) (by omega) (by omega)
          refine x_aload_n (pc := 274) dX11_ticks_274 (List.Mem.head _) ?_
          refine z_getR (pc := 275) (k := 18) (r := 6) dX11_ticks_275 lf_X11_33 sh_0 rfl rf_0_18 ?_
          refine z_bipush (pc := 278) dX11_ticks_278 bp_36 ?_
          refine x_dup2 (pc := 280) dX11_ticks_280 rfl rfl ?_
          refine z_iald (pc := 281) (j := 36) (v := ((tk2 (H.1 2) (tk1 (H.1 2) (H.1 6)))) 36) dX11_ticks_281 sh_6 rfl (Nat.le_of_ble_eq_true rfl) (by decide) (by rw [wI1k (by omega), wA1]) ?_
          refine z_iconst (pc := 282) dX11_ticks_282 ?_
          refine z_iadd (pc := 283) dX11_ticks_283 ?_
          refine z_iast (pc := 284) (j := 36) (v := ((((tk2 (H.1 2) (tk1 (H.1 2) (H.1 6)))) 36) + 1)) dX11_ticks_284 sh_6 rfl (Nat.le_of_ble_eq_true rfl) (by decide) ?_
          have ok23 := okI ok22 6 36 (v := ((((tk2 (H.1 2) (tk1 (H.1 2) (H.1 6)))) 36) + 1)) (by omega) (by omega)
          refine x_aload_n (pc := 285) dX11_ticks_285 (List.Mem.head _) ?_
          refine z_getR (pc := 286) (k := 18) (r := 6) dX11_ticks_286 lf_X11_33 sh_0 rfl rf_0_18 ?_
          refine z_bipush (pc := 289) dX11_ticks_289 bp_37 ?_
          refine z_iald (pc := 291) (j := 37) (v := ((tk2 (H.1 2) (tk1 (H.1 2) (H.1 6)))) 37) dX11_ticks_291 sh_6 rfl (Nat.le_of_ble_eq_true rfl) (by decide) (by rw [wI1k (by omega), wI1k (by omega), wA1]) ?_
          refine z_if_ne (pc := 292) (tgt := 315) dX11_ticks_292 (by decide) (by omega) (by omega) (fun hb24 => ?_) (fun hb24 => ?_)
          · skip
            refine x_aload_n (pc := 315) dX11_ticks_315 (List.Mem.head _) ?_
            refine z_getR (pc := 316) (k := 18) (r := 6) dX11_ticks_316 lf_X11_33 sh_0 rfl rf_0_18 ?_
            refine z_bipush (pc := 319) dX11_ticks_319 bp_41 ?_
            refine z_iconst (pc := 321) dX11_ticks_321 ?_
            refine z_iast (pc := 322) (j := 41) (v := 0) dX11_ticks_322 sh_6 rfl (Nat.le_of_ble_eq_true rfl) (by decide) ?_
            have ok25 := okI ok23 6 41 (v := 0) (by decide) (by decide)
            refine z_vreturn (pc := 323) dX11_ticks_323 rfl ok25 ?_
            have hz : (((((tk2 (H.1 2) (tk1 (H.1 2) (H.1 6)))) 35) + 1) : Int) = (tk2 (H.1 2) (tk1 (H.1 2) (H.1 6))) 35 + (if (tk2 (H.1 2) (tk1 (H.1 2) (H.1 6))) 33 = 0 ∧ (tk2 (H.1 2) (tk1 (H.1 2) (H.1 6))) 32 = 0 then 1 else 0) := by first | (rw [if_pos (by omega)]; done) | (rw [if_neg (by omega)]; done)
            have hT := tk3_n hz (by omega)
            have eF : (wI (wI (wI (wA H2 6 ((tk2 (H.1 2) (tk1 (H.1 2) (H.1 6))))) 6 35 (((((tk2 (H.1 2) (tk1 (H.1 2) (H.1 6)))) 35) + 1))) 6 36 (((((tk2 (H.1 2) (tk1 (H.1 2) (H.1 6)))) 36) + 1))) 6 41 (0)) = wA H2 6 (tickF (H.1 2) (H.1 6)) := by (repeat rw [wI_wA]); exact congrArg (wA H2 6) hT
            rw [eF]
            exact ⟨⟨fr.1, fun cc j h => by rw [wA1c (by omega)]; exact fr.2 cc j h⟩, by rw [wA1]⟩
          · skip
            refine x_aload_n (pc := 295) dX11_ticks_295 (List.Mem.head _) ?_
            refine z_getR (pc := 296) (k := 18) (r := 6) dX11_ticks_296 lf_X11_33 sh_0 rfl rf_0_18 ?_
            refine z_bipush (pc := 299) dX11_ticks_299 bp_36 ?_
            refine z_iald (pc := 301) (j := 36) (v := ((((tk2 (H.1 2) (tk1 (H.1 2) (H.1 6)))) 36) + 1)) dX11_ticks_301 sh_6 rfl (Nat.le_of_ble_eq_true rfl) (by decide) (by rw [wI1]) ?_
            refine z_bipush (pc := 302) dX11_ticks_302 bp_99 ?_
            refine z_icmp_ne (pc := 304) (tgt := 315) dX11_ticks_304 (by decide) (by omega) (by omega) (by decide) (by decide) (fun hb26 => ?_) (fun hb26 => ?_)
            · skip
              refine x_aload_n (pc := 315) dX11_ticks_315 (List.Mem.head _) ?_
              refine z_getR (pc := 316) (k := 18) (r := 6) dX11_ticks_316 lf_X11_33 sh_0 rfl rf_0_18 ?_
              refine z_bipush (pc := 319) dX11_ticks_319 bp_41 ?_
              refine z_iconst (pc := 321) dX11_ticks_321 ?_
              refine z_iast (pc := 322) (j := 41) (v := 0) dX11_ticks_322 sh_6 rfl (Nat.le_of_ble_eq_true rfl) (by decide) ?_
              have ok27 := okI ok23 6 41 (v := 0) (by decide) (by decide)
              refine z_vreturn (pc := 323) dX11_ticks_323 rfl ok27 ?_
              have hz : (((((tk2 (H.1 2) (tk1 (H.1 2) (H.1 6)))) 35) + 1) : Int) = (tk2 (H.1 2) (tk1 (H.1 2) (H.1 6))) 35 + (if (tk2 (H.1 2) (tk1 (H.1 2) (H.1 6))) 33 = 0 ∧ (tk2 (H.1 2) (tk1 (H.1 2) (H.1 6))) 32 = 0 then 1 else 0) := by first | (rw [if_pos (by omega)]; done) | (rw [if_neg (by omega)]; done)
              have hT := tk3_n hz (by omega)
              have eF : (wI (wI (wI (wA H2 6 ((tk2 (H.1 2) (tk1 (H.1 2) (H.1 6))))) 6 35 (((((tk2 (H.1 2) (tk1 (H.1 2) (H.1 6)))) 35) + 1))) 6 36 (((((tk2 (H.1 2) (tk1 (H.1 2) (H.1 6)))) 36) + 1))) 6 41 (0)) = wA H2 6 (tickF (H.1 2) (H.1 6)) := by (repeat rw [wI_wA]); exact congrArg (wA H2 6) hT
              rw [eF]
              exact ⟨⟨fr.1, fun cc j h => by rw [wA1c (by omega)]; exact fr.2 cc j h⟩, by rw [wA1]⟩
            · skip
              refine x_aload_n (pc := 307) dX11_ticks_307 (List.Mem.head _) ?_
              refine z_getR (pc := 308) (k := 18) (r := 6) dX11_ticks_308 lf_X11_33 sh_0 rfl rf_0_18 ?_
              refine z_bipush (pc := 311) dX11_ticks_311 bp_37 ?_
              refine z_iconst (pc := 313) dX11_ticks_313 ?_
              refine z_iast (pc := 314) (j := 37) (v := 3) dX11_ticks_314 sh_6 rfl (Nat.le_of_ble_eq_true rfl) (by decide) ?_
              have ok28 := okI ok23 6 37 (v := 3) (by decide) (by decide)
              refine x_aload_n (pc := 315) dX11_ticks_315 (List.Mem.head _) ?_
              refine z_getR (pc := 316) (k := 18) (r := 6) dX11_ticks_316 lf_X11_33 sh_0 rfl rf_0_18 ?_
              refine z_bipush (pc := 319) dX11_ticks_319 bp_41 ?_
              refine z_iconst (pc := 321) dX11_ticks_321 ?_
              refine z_iast (pc := 322) (j := 41) (v := 0) dX11_ticks_322 sh_6 rfl (Nat.le_of_ble_eq_true rfl) (by decide) ?_
              have ok29 := okI ok28 6 41 (v := 0) (by decide) (by decide)
              refine z_vreturn (pc := 323) dX11_ticks_323 rfl ok29 ?_
              have hz : (((((tk2 (H.1 2) (tk1 (H.1 2) (H.1 6)))) 35) + 1) : Int) = (tk2 (H.1 2) (tk1 (H.1 2) (H.1 6))) 35 + (if (tk2 (H.1 2) (tk1 (H.1 2) (H.1 6))) 33 = 0 ∧ (tk2 (H.1 2) (tk1 (H.1 2) (H.1 6))) 32 = 0 then 1 else 0) := by first | (rw [if_pos (by omega)]; done) | (rw [if_neg (by omega)]; done)
              have hT := tk3_l hz (by omega)
              have eF : (wI (wI (wI (wI (wA H2 6 ((tk2 (H.1 2) (tk1 (H.1 2) (H.1 6))))) 6 35 (((((tk2 (H.1 2) (tk1 (H.1 2) (H.1 6)))) 35) + 1))) 6 36 (((((tk2 (H.1 2) (tk1 (H.1 2) (H.1 6)))) 36) + 1))) 6 37 (3)) 6 41 (0)) = wA H2 6 (tickF (H.1 2) (H.1 6)) := by (repeat rw [wI_wA]); exact congrArg (wA H2 6) hT
              rw [eF]
              exact ⟨⟨fr.1, fun cc j h => by rw [wA1c (by omega)]; exact fr.2 cc j h⟩, by rw [wA1]⟩
    refine x_aload_n (pc := 71) dX11_ticks_71 (List.Mem.head _) ?_
    refine z_getI (pc := 72) (k := 26) (v := (knF (H.1 2) (tk1 (H.1 2) (H.1 6)))) dX11_ticks_72 lf_X11_256 sh_0 rfl (by rw [wA1c (by omega)]; exact ekb) ?_
    refine z_iconst (pc := 75) dX11_ticks_75 ?_
    refine z_icmp_eq (pc := 76) (tgt := 147) dX11_ticks_76 (by decide) (by omega) (by omega) (by decide) (by decide) (fun hb30 => ?_) (fun hb30 => ?_)
    · skip
      refine x_aload_n (pc := 147) dX11_ticks_147 (List.Mem.head _) ?_
      refine z_getR (pc := 148) (k := 18) (r := 6) dX11_ticks_148 lf_X11_33 sh_0 rfl rf_0_18 ?_
      refine z_bipush (pc := 151) dX11_ticks_151 bp_33 ?_
      refine z_iald (pc := 153) (j := 33) (v := ((mvN (H.1 2) (tk1 (H.1 2) (H.1 6)))) 33) dX11_ticks_153 sh_6 rfl (Nat.le_of_ble_eq_true rfl) (by decide) (by rw [wA1]) ?_
      refine z_iconst (pc := 154) dX11_ticks_154 ?_
      refine z_icmp_ne (pc := 155) (tgt := 239) dX11_ticks_155 (by decide) (by omega) (by omega) (by decide) (by decide) (fun hb31 => ?_) (fun hb31 => ?_)
      · skip
        have hQ := tk2_n (A := H.1 2) (M := (tk1 (H.1 2) (H.1 6))) (by omega) (by omega)
        refine x_weaken (L1 := [(0, .ref 0)]) (List.forall_mem_cons.mpr ⟨(List.Mem.head _), (fun _ h => absurd h List.not_mem_nil)⟩) ?_
        have he32 : (wA H2 6 ((mvN (H.1 2) (tk1 (H.1 2) (H.1 6))))) = (wA H2 6 ((tk2 (H.1 2) (tk1 (H.1 2) (H.1 6))))) := by (repeat rw [wI_wA]); exact congrArg (wA _ 6) hQ
        refine Ev_heq he32 ?_
        have ok33 : okZ (wA H2 6 ((tk2 (H.1 2) (tk1 (H.1 2) (H.1 6))))) := by rw [← he32]; exact okp
        exact jn239  ok33 
      · skip
        refine x_aload_n (pc := 158) dX11_ticks_158 (List.Mem.head _) ?_
        refine z_getR (pc := 159) (k := 18) (r := 6) dX11_ticks_159 lf_X11_33 sh_0 rfl rf_0_18 ?_
        refine z_bipush (pc := 162) dX11_ticks_162 bp_34 ?_
        refine x_dup2 (pc := 164) dX11_ticks_164 rfl rfl ?_
        refine z_iald (pc := 165) (j := 34) (v := ((mvN (H.1 2) (tk1 (H.1 2) (H.1 6)))) 34) dX11_ticks_165 sh_6 rfl (Nat.le_of_ble_eq_true rfl) (by decide) (by rw [wA1]) ?_
        refine z_iconst (pc := 166) dX11_ticks_166 ?_
        refine z_iadd (pc := 167) dX11_ticks_167 ?_
        refine z_iast (pc := 168) (j := 34) (v := ((((mvN (H.1 2) (tk1 (H.1 2) (H.1 6)))) 34) + 1)) dX11_ticks_168 sh_6 rfl (Nat.le_of_ble_eq_true rfl) (by decide) ?_
        have ok34 := okI okp 6 34 (v := ((((mvN (H.1 2) (tk1 (H.1 2) (H.1 6)))) 34) + 1)) (by omega) (by omega)
        refine x_aload_n (pc := 169) dX11_ticks_169 (List.Mem.head _) ?_
        refine z_getR (pc := 170) (k := 18) (r := 6) dX11_ticks_170 lf_X11_33 sh_0 rfl rf_0_18 ?_
        refine z_bipush (pc := 173) dX11_ticks_173 bp_34 ?_
        refine z_iald (pc := 175) (j := 34) (v := ((((mvN (H.1 2) (tk1 (H.1 2) (H.1 6)))) 34) + 1)) dX11_ticks_175 sh_6 rfl (Nat.le_of_ble_eq_true rfl) (by decide) (by rw [wI1]) ?_
        refine x_aload_n (pc := 176) dX11_ticks_176 (List.Mem.head _) ?_
        refine z_iconst (pc := 177) dX11_ticks_177 ?_
        refine z_callVbp (pc := 178) (i := mX11_hasTrait) (S := [.int (zN ((((((mvN (H.1 2) (tk1 (H.1 2) (H.1 6)))) 34) + 1))))]) [.int (zN (0))] dX11_ticks_178 ml_X11_225 ok_X11_hasTrait rfl sh_0 rfl (Or.inr rfl) (Nat.le_of_ble_eq_true rfl) (c_X11_hasTrait (d := d + 2) (k := 0) (hk := (by omega)) (ok := ok34) (ws := (show WFS (H2.1 2) by rw [eT]; exact ws))) (fun hc37 ok36 => ?_) (fun hc37 ok36 => ?_)
        · skip
          have hn : ned (H.1 2) = 2 := if_pos (by have z : H2.1 2 34 / 2 ^ 0 % 2 = 1 := hc37; rw [eT] at z; exact z)
          refine z_if_eq (pc := 181) (tgt := 188) dX11_ticks_181 (by decide) (by decide) (by decide) (fun h => absurd h (by decide)) (fun _ => ?_)
          refine z_iconst (pc := 184) dX11_ticks_184 ?_
          refine x_goto (pc := 185) (tgt := 189) dX11_ticks_185 (by decide) ?_
          refine z_icmp_lt (pc := 189) (tgt := 239) dX11_ticks_189 (by decide) (by omega) (by omega) (by decide) (by decide) (fun hb39 => ?_) (fun hb39 => ?_)
          · skip
            have hQ := tk2_i (A := H.1 2) (M := (tk1 (H.1 2) (H.1 6))) (by omega) (by omega) (by omega)
            refine x_weaken (L1 := [(0, .ref 0)]) (List.forall_mem_cons.mpr ⟨(List.Mem.head _), (fun _ h => absurd h List.not_mem_nil)⟩) ?_
            have he40 : (wI (wA H2 6 ((mvN (H.1 2) (tk1 (H.1 2) (H.1 6))))) 6 34 (((((mvN (H.1 2) (tk1 (H.1 2) (H.1 6)))) 34) + 1))) = (wA H2 6 ((tk2 (H.1 2) (tk1 (H.1 2) (H.1 6))))) := by (repeat rw [wI_wA]); exact congrArg (wA _ 6) hQ
            refine Ev_heq he40 ?_
            have ok41 : okZ (wA H2 6 ((tk2 (H.1 2) (tk1 (H.1 2) (H.1 6))))) := by rw [← he40]; exact ok36
            exact jn239  ok41 
          · skip
            refine x_aload_n (pc := 192) dX11_ticks_192 (List.Mem.head _) ?_
            refine z_getR (pc := 193) (k := 18) (r := 6) dX11_ticks_193 lf_X11_33 sh_0 rfl rf_0_18 ?_
            refine z_bipush (pc := 196) dX11_ticks_196 bp_33 ?_
            refine z_iconst (pc := 198) dX11_ticks_198 ?_
            refine z_iast (pc := 199) (j := 33) (v := 0) dX11_ticks_199 sh_6 rfl (Nat.le_of_ble_eq_true rfl) (by decide) ?_
            have ok42 := okI ok36 6 33 (v := 0) (by decide) (by decide)
            refine x_aload_n (pc := 200) dX11_ticks_200 (List.Mem.head _) ?_
            refine z_getR (pc := 201) (k := 18) (r := 6) dX11_ticks_201 lf_X11_33 sh_0 rfl rf_0_18 ?_
            refine z_bipush (pc := 204) dX11_ticks_204 bp_32 ?_
            refine x_dup2 (pc := 206) dX11_ticks_206 rfl rfl ?_
            refine z_iald (pc := 207) (j := 32) (v := ((mvN (H.1 2) (tk1 (H.1 2) (H.1 6)))) 32) dX11_ticks_207 sh_6 rfl (Nat.le_of_ble_eq_true rfl) (by decide) (by rw [wI1k (by omega), wI1k (by omega), wA1]) ?_
            refine z_iconst (pc := 208) dX11_ticks_208 ?_
            refine z_iadd (pc := 209) dX11_ticks_209 ?_
            refine z_iast (pc := 210) (j := 32) (v := ((((mvN (H.1 2) (tk1 (H.1 2) (H.1 6)))) 32) + 1)) dX11_ticks_210 sh_6 rfl (Nat.le_of_ble_eq_true rfl) (by decide) ?_
            have ok43 := okI ok42 6 32 (v := ((((mvN (H.1 2) (tk1 (H.1 2) (H.1 6)))) 32) + 1)) (by omega) (by omega)
            refine x_aload_n (pc := 211) dX11_ticks_211 (List.Mem.head _) ?_
            refine z_getR (pc := 212) (k := 18) (r := 6) dX11_ticks_212 lf_X11_33 sh_0 rfl rf_0_18 ?_
            refine z_bipush (pc := 215) dX11_ticks_215 bp_37 ?_
            refine x_aload_n (pc := 217) dX11_ticks_217 (List.Mem.head _) ?_
            refine z_getR (pc := 218) (k := 18) (r := 6) dX11_ticks_218 lf_X11_33 sh_0 rfl rf_0_18 ?_
            refine z_bipush (pc := 221) dX11_ticks_221 bp_32 ?_
            refine z_iald (pc := 223) (j := 32) (v := ((((mvN (H.1 2) (tk1 (H.1 2) (H.1 6)))) 32) + 1)) dX11_ticks_223 sh_6 rfl (Nat.le_of_ble_eq_true rfl) (by decide) (by rw [wI1]) ?_
            refine x_aload_n (pc := 224) dX11_ticks_224 (List.Mem.head _) ?_
            refine z_getR (pc := 225) (k := 2) (r := 2) dX11_ticks_225 lf_X11_17 sh_0 rfl rf_0_2 ?_
            refine z_iconst (pc := 228) dX11_ticks_228 ?_
            refine z_iald (pc := 229) (j := 0) (v := (H.1 2 0)) dX11_ticks_229 sh_2 rfl (Nat.le_of_ble_eq_true rfl) (by decide) (by rw [wI1c (by omega), wI1c (by omega), wI1c (by omega), wA1c (by omega)]; exact congrFun eT 0) ?_
            refine z_icmp_ne (pc := 230) (tgt := 237) dX11_ticks_230 (by decide) (by omega) (by omega) (by omega) (by omega) (fun hb44 => ?_) (fun hb44 => ?_)
            · skip
              have hQ := tk2_o (A := H.1 2) (M := (tk1 (H.1 2) (H.1 6))) (X := 0) (by omega) (by omega) (by omega) (if_neg (by omega)).symm
              refine z_iconst (pc := 237) dX11_ticks_237 ?_
              refine z_iast (pc := 238) (j := 37) (v := 0) dX11_ticks_238 sh_6 rfl (Nat.le_of_ble_eq_true rfl) (by decide) ?_
              have ok45 := okI ok43 6 37 (v := 0) (by decide) (by decide)
              refine x_weaken (L1 := [(0, .ref 0)]) (List.forall_mem_cons.mpr ⟨(List.Mem.head _), (fun _ h => absurd h List.not_mem_nil)⟩) ?_
              have he46 : (wI (wI (wI (wI (wA H2 6 ((mvN (H.1 2) (tk1 (H.1 2) (H.1 6))))) 6 34 (((((mvN (H.1 2) (tk1 (H.1 2) (H.1 6)))) 34) + 1))) 6 33 (0)) 6 32 (((((mvN (H.1 2) (tk1 (H.1 2) (H.1 6)))) 32) + 1))) 6 37 (0)) = (wA H2 6 ((tk2 (H.1 2) (tk1 (H.1 2) (H.1 6))))) := by (repeat rw [wI_wA]); exact congrArg (wA _ 6) hQ
              refine Ev_heq he46 ?_
              have ok47 : okZ (wA H2 6 ((tk2 (H.1 2) (tk1 (H.1 2) (H.1 6))))) := by rw [← he46]; exact ok45
              exact jn239  ok47 
            · skip
              have hQ := tk2_o (A := H.1 2) (M := (tk1 (H.1 2) (H.1 6))) (X := 1) (by omega) (by omega) (by omega) (if_pos (by omega)).symm
              refine z_iconst (pc := 233) dX11_ticks_233 ?_
              refine x_goto (pc := 234) (tgt := 238) dX11_ticks_234 (by decide) ?_
              refine z_iast (pc := 238) (j := 37) (v := 1) dX11_ticks_238 sh_6 rfl (Nat.le_of_ble_eq_true rfl) (by decide) ?_
              have ok48 := okI ok43 6 37 (v := 1) (by decide) (by decide)
              refine x_weaken (L1 := [(0, .ref 0)]) (List.forall_mem_cons.mpr ⟨(List.Mem.head _), (fun _ h => absurd h List.not_mem_nil)⟩) ?_
              have he49 : (wI (wI (wI (wI (wA H2 6 ((mvN (H.1 2) (tk1 (H.1 2) (H.1 6))))) 6 34 (((((mvN (H.1 2) (tk1 (H.1 2) (H.1 6)))) 34) + 1))) 6 33 (0)) 6 32 (((((mvN (H.1 2) (tk1 (H.1 2) (H.1 6)))) 32) + 1))) 6 37 (1)) = (wA H2 6 ((tk2 (H.1 2) (tk1 (H.1 2) (H.1 6))))) := by (repeat rw [wI_wA]); exact congrArg (wA _ 6) hQ
              refine Ev_heq he49 ?_
              have ok50 : okZ (wA H2 6 ((tk2 (H.1 2) (tk1 (H.1 2) (H.1 6))))) := by rw [← he49]; exact ok48
              exact jn239  ok50 
        · skip
          have hn : ned (H.1 2) = 1 := if_neg (by have z : ¬ H2.1 2 34 / 2 ^ 0 % 2 = 1 := hc37; rw [eT] at z; exact z)
          refine z_if_eq (pc := 181) (tgt := 188) dX11_ticks_181 (by decide) (by decide) (by decide) (fun _ => ?_) (fun h => absurd h (by decide))
          refine z_iconst (pc := 188) dX11_ticks_188 ?_
          refine z_icmp_lt (pc := 189) (tgt := 239) dX11_ticks_189 (by decide) (by omega) (by omega) (by decide) (by decide) (fun hb52 => ?_) (fun hb52 => ?_)
          · skip
            have hQ := tk2_i (A := H.1 2) (M := (tk1 (H.1 2) (H.1 6))) (by omega) (by omega) (by omega)
            refine x_weaken (L1 := [(0, .ref 0)]) (List.forall_mem_cons.mpr ⟨(List.Mem.head _), (fun _ h => absurd h List.not_mem_nil)⟩) ?_
            have he53 : (wI (wA H2 6 ((mvN (H.1 2) (tk1 (H.1 2) (H.1 6))))) 6 34 (((((mvN (H.1 2) (tk1 (H.1 2) (H.1 6)))) 34) + 1))) = (wA H2 6 ((tk2 (H.1 2) (tk1 (H.1 2) (H.1 6))))) := by (repeat rw [wI_wA]); exact congrArg (wA _ 6) hQ
            refine Ev_heq he53 ?_
            have ok54 : okZ (wA H2 6 ((tk2 (H.1 2) (tk1 (H.1 2) (H.1 6))))) := by rw [← he53]; exact ok36
            exact jn239  ok54 
          · skip
            refine x_aload_n (pc := 192) dX11_ticks_192 (List.Mem.head _) ?_
            refine z_getR (pc := 193) (k := 18) (r := 6) dX11_ticks_193 lf_X11_33 sh_0 rfl rf_0_18 ?_
            refine z_bipush (pc := 196) dX11_ticks_196 bp_33 ?_
            refine z_iconst (pc := 198) dX11_ticks_198 ?_
            refine z_iast (pc := 199) (j := 33) (v := 0) dX11_ticks_199 sh_6 rfl (Nat.le_of_ble_eq_true rfl) (by decide) ?_
            have ok55 := okI ok36 6 33 (v := 0) (by decide) (by decide)
            refine x_aload_n (pc := 200) dX11_ticks_200 (List.Mem.head _) ?_
            refine z_getR (pc := 201) (k := 18) (r := 6) dX11_ticks_201 lf_X11_33 sh_0 rfl rf_0_18 ?_
            refine z_bipush (pc := 204) dX11_ticks_204 bp_32 ?_
            refine x_dup2 (pc := 206) dX11_ticks_206 rfl rfl ?_
            refine z_iald (pc := 207) (j := 32) (v := ((mvN (H.1 2) (tk1 (H.1 2) (H.1 6)))) 32) dX11_ticks_207 sh_6 rfl (Nat.le_of_ble_eq_true rfl) (by decide) (by rw [wI1k (by omega), wI1k (by omega), wA1]) ?_
            refine z_iconst (pc := 208) dX11_ticks_208 ?_
            refine z_iadd (pc := 209) dX11_ticks_209 ?_
            refine z_iast (pc := 210) (j := 32) (v := ((((mvN (H.1 2) (tk1 (H.1 2) (H.1 6)))) 32) + 1)) dX11_ticks_210 sh_6 rfl (Nat.le_of_ble_eq_true rfl) (by decide) ?_
            have ok56 := okI ok55 6 32 (v := ((((mvN (H.1 2) (tk1 (H.1 2) (H.1 6)))) 32) + 1)) (by omega) (by omega)
            refine x_aload_n (pc := 211) dX11_ticks_211 (List.Mem.head _) ?_
            refine z_getR (pc := 212) (k := 18) (r := 6) dX11_ticks_212 lf_X11_33 sh_0 rfl rf_0_18 ?_
            refine z_bipush (pc := 215) dX11_ticks_215 bp_37 ?_
            refine x_aload_n (pc := 217) dX11_ticks_217 (List.Mem.head _) ?_
            refine z_getR (pc := 218) (k := 18) (r := 6) dX11_ticks_218 lf_X11_33 sh_0 rfl rf_0_18 ?_
            refine z_bipush (pc := 221) dX11_ticks_221 bp_32 ?_
            refine z_iald (pc := 223) (j := 32) (v := ((((mvN (H.1 2) (tk1 (H.1 2) (H.1 6)))) 32) + 1)) dX11_ticks_223 sh_6 rfl (Nat.le_of_ble_eq_true rfl) (by decide) (by rw [wI1]) ?_
            refine x_aload_n (pc := 224) dX11_ticks_224 (List.Mem.head _) ?_
            refine z_getR (pc := 225) (k := 2) (r := 2) dX11_ticks_225 lf_X11_17 sh_0 rfl rf_0_2 ?_
            refine z_iconst (pc := 228) dX11_ticks_228 ?_
            refine z_iald (pc := 229) (j := 0) (v := (H.1 2 0)) dX11_ticks_229 sh_2 rfl (Nat.le_of_ble_eq_true rfl) (by decide) (by rw [wI1c (by omega), wI1c (by omega), wI1c (by omega), wA1c (by omega)]; exact congrFun eT 0) ?_
            refine z_icmp_ne (pc := 230) (tgt := 237) dX11_ticks_230 (by decide) (by omega) (by omega) (by omega) (by omega) (fun hb57 => ?_) (fun hb57 => ?_)
            · skip
              have hQ := tk2_o (A := H.1 2) (M := (tk1 (H.1 2) (H.1 6))) (X := 0) (by omega) (by omega) (by omega) (if_neg (by omega)).symm
              refine z_iconst (pc := 237) dX11_ticks_237 ?_
              refine z_iast (pc := 238) (j := 37) (v := 0) dX11_ticks_238 sh_6 rfl (Nat.le_of_ble_eq_true rfl) (by decide) ?_
              have ok58 := okI ok56 6 37 (v := 0) (by decide) (by decide)
              refine x_weaken (L1 := [(0, .ref 0)]) (List.forall_mem_cons.mpr ⟨(List.Mem.head _), (fun _ h => absurd h List.not_mem_nil)⟩) ?_
              have he59 : (wI (wI (wI (wI (wA H2 6 ((mvN (H.1 2) (tk1 (H.1 2) (H.1 6))))) 6 34 (((((mvN (H.1 2) (tk1 (H.1 2) (H.1 6)))) 34) + 1))) 6 33 (0)) 6 32 (((((mvN (H.1 2) (tk1 (H.1 2) (H.1 6)))) 32) + 1))) 6 37 (0)) = (wA H2 6 ((tk2 (H.1 2) (tk1 (H.1 2) (H.1 6))))) := by (repeat rw [wI_wA]); exact congrArg (wA _ 6) hQ
              refine Ev_heq he59 ?_
              have ok60 : okZ (wA H2 6 ((tk2 (H.1 2) (tk1 (H.1 2) (H.1 6))))) := by rw [← he59]; exact ok58
              exact jn239  ok60 
            · skip
              have hQ := tk2_o (A := H.1 2) (M := (tk1 (H.1 2) (H.1 6))) (X := 1) (by omega) (by omega) (by omega) (if_pos (by omega)).symm
              refine z_iconst (pc := 233) dX11_ticks_233 ?_
              refine x_goto (pc := 234) (tgt := 238) dX11_ticks_234 (by decide) ?_
              refine z_iast (pc := 238) (j := 37) (v := 1) dX11_ticks_238 sh_6 rfl (Nat.le_of_ble_eq_true rfl) (by decide) ?_
              have ok61 := okI ok56 6 37 (v := 1) (by decide) (by decide)
              refine x_weaken (L1 := [(0, .ref 0)]) (List.forall_mem_cons.mpr ⟨(List.Mem.head _), (fun _ h => absurd h List.not_mem_nil)⟩) ?_
              have he62 : (wI (wI (wI (wI (wA H2 6 ((mvN (H.1 2) (tk1 (H.1 2) (H.1 6))))) 6 34 (((((mvN (H.1 2) (tk1 (H.1 2) (H.1 6)))) 34) + 1))) 6 33 (0)) 6 32 (((((mvN (H.1 2) (tk1 (H.1 2) (H.1 6)))) 32) + 1))) 6 37 (1)) = (wA H2 6 ((tk2 (H.1 2) (tk1 (H.1 2) (H.1 6))))) := by (repeat rw [wI_wA]); exact congrArg (wA _ 6) hQ
              refine Ev_heq he62 ?_
              have ok63 : okZ (wA H2 6 ((tk2 (H.1 2) (tk1 (H.1 2) (H.1 6))))) := by rw [← he62]; exact ok61
              exact jn239  ok63 
    · skip
      have mk := mb (knF (H.1 2) (tk1 (H.1 2) (H.1 6))).toNat (by omega)
      have mm := nn2 (x := (mvN (H.1 2) (tk1 (H.1 2) (H.1 6))) (8 + (knF (H.1 2) (tk1 (H.1 2) (H.1 6))).toNat)) (y := (mvN (H.1 2) (tk1 (H.1 2) (H.1 6))) (8 + (knF (H.1 2) (tk1 (H.1 2) (H.1 6))).toNat)) (A := 9) (B := 9) mk.1 mk.2 mk.1 mk.2
      refine x_aload_n (pc := 79) dX11_ticks_79 (List.Mem.head _) ?_
      refine z_getR (pc := 80) (k := 18) (r := 6) dX11_ticks_80 lf_X11_33 sh_0 rfl rf_0_18 ?_
      refine z_bipush (pc := 83) dX11_ticks_83 bp_37 ?_
      refine z_iconst (pc := 85) dX11_ticks_85 ?_
      refine z_iast (pc := 86) (j := 37) (v := 2) dX11_ticks_86 sh_6 rfl (Nat.le_of_ble_eq_true rfl) (by decide) ?_
      have ok64 := okI okp 6 37 (v := 2) (by decide) (by decide)
      refine x_aload_n (pc := 87) dX11_ticks_87 (List.Mem.head _) ?_
      refine z_getR (pc := 88) (k := 18) (r := 6) dX11_ticks_88 lf_X11_33 sh_0 rfl rf_0_18 ?_
      refine z_bipush (pc := 91) dX11_ticks_91 bp_39 ?_
      refine x_aload_n (pc := 93) dX11_ticks_93 (List.Mem.head _) ?_
      refine z_getI (pc := 94) (k := 26) (v := (knF (H.1 2) (tk1 (H.1 2) (H.1 6)))) dX11_ticks_94 lf_X11_256 sh_0 rfl (by rw [wI1c (by omega), wA1c (by omega)]; exact ekb) ?_
      refine z_iast (pc := 97) (j := 39) (v := ((knF (H.1 2) (tk1 (H.1 2) (H.1 6))))) dX11_ticks_97 sh_6 rfl (Nat.le_of_ble_eq_true rfl) (by decide) ?_
      have ok65 := okI ok64 6 39 (v := ((knF (H.1 2) (tk1 (H.1 2) (H.1 6))))) (by omega) (by omega)
      refine x_aload_n (pc := 98) dX11_ticks_98 (List.Mem.head _) ?_
      refine z_getR (pc := 99) (k := 18) (r := 6) dX11_ticks_99 lf_X11_33 sh_0 rfl rf_0_18 ?_
      refine z_bipush (pc := 102) dX11_ticks_102 bp_38 ?_
      refine x_aload_n (pc := 104) dX11_ticks_104 (List.Mem.head _) ?_
      refine z_getR (pc := 105) (k := 18) (r := 6) dX11_ticks_105 lf_X11_33 sh_0 rfl rf_0_18 ?_
      refine z_bipush (pc := 108) dX11_ticks_108 bp_8 ?_
      refine x_aload_n (pc := 110) dX11_ticks_110 (List.Mem.head _) ?_
      refine z_getI (pc := 111) (k := 26) (v := (knF (H.1 2) (tk1 (H.1 2) (H.1 6)))) dX11_ticks_111 lf_X11_256 sh_0 rfl (by rw [wI1c (by omega), wI1c (by omega), wA1c (by omega)]; exact ekb) ?_
      refine z_iadd (pc := 114) dX11_ticks_114 ?_
      refine z_iald (pc := 115) (j := 8 + (knF (H.1 2) (tk1 (H.1 2) (H.1 6))).toNat) (v := ((mvN (H.1 2) (tk1 (H.1 2) (H.1 6))) (8 + (knF (H.1 2) (tk1 (H.1 2) (H.1 6))).toNat))) dX11_ticks_115 sh_6 (by omega) (by omega) (by decide) (by rw [wI1k (by omega), wI1k (by omega), wA1]) ?_
      refine x_aload_n (pc := 116) dX11_ticks_116 (List.Mem.head _) ?_
      refine z_getR (pc := 117) (k := 18) (r := 6) dX11_ticks_117 lf_X11_33 sh_0 rfl rf_0_18 ?_
      refine z_bipush (pc := 120) dX11_ticks_120 bp_8 ?_
      refine x_aload_n (pc := 122) dX11_ticks_122 (List.Mem.head _) ?_
      refine z_getI (pc := 123) (k := 26) (v := (knF (H.1 2) (tk1 (H.1 2) (H.1 6)))) dX11_ticks_123 lf_X11_256 sh_0 rfl (by rw [wI1c (by omega), wI1c (by omega), wA1c (by omega)]; exact ekb) ?_
      refine z_iadd (pc := 126) dX11_ticks_126 ?_
      refine z_iald (pc := 127) (j := 8 + (knF (H.1 2) (tk1 (H.1 2) (H.1 6))).toNat) (v := ((mvN (H.1 2) (tk1 (H.1 2) (H.1 6))) (8 + (knF (H.1 2) (tk1 (H.1 2) (H.1 6))).toNat))) dX11_ticks_127 sh_6 (by omega) (by omega) (by decide) (by rw [wI1k (by omega), wI1k (by omega), wA1]) ?_
      refine z_imul (pc := 128) dX11_ticks_128 ?_
      refine x_aload_n (pc := 129) dX11_ticks_129 (List.Mem.head _) ?_
      refine z_iconst (pc := 130) dX11_ticks_130 ?_
      refine z_callVbp (pc := 131) (i := mX11_hasTrait) (S := [.int (zN (((((mvN (H.1 2) (tk1 (H.1 2) (H.1 6))) (8 + (knF (H.1 2) (tk1 (H.1 2) (H.1 6))).toNat))) * (((mvN (H.1 2) (tk1 (H.1 2) (H.1 6))) (8 + (knF (H.1 2) (tk1 (H.1 2) (H.1 6))).toNat)))))), .int (zN (38)), .ref 6]) [.int (zN (0))] dX11_ticks_131 ml_X11_225 ok_X11_hasTrait rfl sh_0 rfl (Or.inr rfl) (Nat.le_of_ble_eq_true rfl) (c_X11_hasTrait (d := d + 2) (k := 0) (hk := (by omega)) (ok := ok65) (ws := (show WFS (H2.1 2) by rw [eT]; exact ws))) (fun hc68 ok67 => ?_) (fun hc68 ok67 => ?_)
      · skip
        have hn : ned (H.1 2) = 2 := if_pos (by have z : H2.1 2 34 / 2 ^ 0 % 2 = 1 := hc68; rw [eT] at z; exact z)
        have hQ := tk2_k (A := H.1 2) (M := (tk1 (H.1 2) (H.1 6))) (X := (mvN (H.1 2) (tk1 (H.1 2) (H.1 6))) (8 + (knF (H.1 2) (tk1 (H.1 2) (H.1 6))).toNat) * (mvN (H.1 2) (tk1 (H.1 2) (H.1 6))) (8 + (knF (H.1 2) (tk1 (H.1 2) (H.1 6))).toNat) * 2) (by omega) (by rw [hn])
        refine z_if_eq (pc := 134) (tgt := 141) dX11_ticks_134 (by decide) (by decide) (by decide) (fun h => absurd h (by decide)) (fun _ => ?_)
        refine z_iconst (pc := 137) dX11_ticks_137 ?_
        refine x_goto (pc := 138) (tgt := 142) dX11_ticks_138 (by decide) ?_
        refine z_imul (pc := 142) dX11_ticks_142 ?_
        refine z_iast (pc := 143) (j := 38) (v := (((((mvN (H.1 2) (tk1 (H.1 2) (H.1 6))) (8 + (knF (H.1 2) (tk1 (H.1 2) (H.1 6))).toNat))) * (((mvN (H.1 2) (tk1 (H.1 2) (H.1 6))) (8 + (knF (H.1 2) (tk1 (H.1 2) (H.1 6))).toNat)))) * 2)) dX11_ticks_143 sh_6 rfl (Nat.le_of_ble_eq_true rfl) (by decide) ?_
        have ok70 := okI ok67 6 38 (v := (((((mvN (H.1 2) (tk1 (H.1 2) (H.1 6))) (8 + (knF (H.1 2) (tk1 (H.1 2) (H.1 6))).toNat))) * (((mvN (H.1 2) (tk1 (H.1 2) (H.1 6))) (8 + (knF (H.1 2) (tk1 (H.1 2) (H.1 6))).toNat)))) * 2)) (by omega) (by omega)
        refine x_goto (pc := 144) (tgt := 239) dX11_ticks_144 (by decide) ?_
        refine x_weaken (L1 := [(0, .ref 0)]) (List.forall_mem_cons.mpr ⟨(List.Mem.head _), (fun _ h => absurd h List.not_mem_nil)⟩) ?_
        have he71 : (wI (wI (wI (wA H2 6 ((mvN (H.1 2) (tk1 (H.1 2) (H.1 6))))) 6 37 (2)) 6 39 (((knF (H.1 2) (tk1 (H.1 2) (H.1 6)))))) 6 38 ((((((mvN (H.1 2) (tk1 (H.1 2) (H.1 6))) (8 + (knF (H.1 2) (tk1 (H.1 2) (H.1 6))).toNat))) * (((mvN (H.1 2) (tk1 (H.1 2) (H.1 6))) (8 + (knF (H.1 2) (tk1 (H.1 2) (H.1 6))).toNat)))) * 2))) = (wA H2 6 ((tk2 (H.1 2) (tk1 (H.1 2) (H.1 6))))) := by (repeat rw [wI_wA]); exact congrArg (wA _ 6) hQ
        refine Ev_heq he71 ?_
        have ok72 : okZ (wA H2 6 ((tk2 (H.1 2) (tk1 (H.1 2) (H.1 6))))) := by rw [← he71]; exact ok70
        exact jn239  ok72 
      · skip
        have hn : ned (H.1 2) = 1 := if_neg (by have z : ¬ H2.1 2 34 / 2 ^ 0 % 2 = 1 := hc68; rw [eT] at z; exact z)
        have hQ := tk2_k (A := H.1 2) (M := (tk1 (H.1 2) (H.1 6))) (X := (mvN (H.1 2) (tk1 (H.1 2) (H.1 6))) (8 + (knF (H.1 2) (tk1 (H.1 2) (H.1 6))).toNat) * (mvN (H.1 2) (tk1 (H.1 2) (H.1 6))) (8 + (knF (H.1 2) (tk1 (H.1 2) (H.1 6))).toNat) * 1) (by omega) (by rw [hn])
        refine z_if_eq (pc := 134) (tgt := 141) dX11_ticks_134 (by decide) (by decide) (by decide) (fun _ => ?_) (fun h => absurd h (by decide))
        refine z_iconst (pc := 141) dX11_ticks_141 ?_
        refine z_imul (pc := 142) dX11_ticks_142 ?_
        refine z_iast (pc := 143) (j := 38) (v := (((((mvN (H.1 2) (tk1 (H.1 2) (H.1 6))) (8 + (knF (H.1 2) (tk1 (H.1 2) (H.1 6))).toNat))) * (((mvN (H.1 2) (tk1 (H.1 2) (H.1 6))) (8 + (knF (H.1 2) (tk1 (H.1 2) (H.1 6))).toNat)))) * 1)) dX11_ticks_143 sh_6 rfl (Nat.le_of_ble_eq_true rfl) (by decide) ?_
        have ok74 := okI ok67 6 38 (v := (((((mvN (H.1 2) (tk1 (H.1 2) (H.1 6))) (8 + (knF (H.1 2) (tk1 (H.1 2) (H.1 6))).toNat))) * (((mvN (H.1 2) (tk1 (H.1 2) (H.1 6))) (8 + (knF (H.1 2) (tk1 (H.1 2) (H.1 6))).toNat)))) * 1)) (by omega) (by omega)
        refine x_goto (pc := 144) (tgt := 239) dX11_ticks_144 (by decide) ?_
        refine x_weaken (L1 := [(0, .ref 0)]) (List.forall_mem_cons.mpr ⟨(List.Mem.head _), (fun _ h => absurd h List.not_mem_nil)⟩) ?_
        have he75 : (wI (wI (wI (wA H2 6 ((mvN (H.1 2) (tk1 (H.1 2) (H.1 6))))) 6 37 (2)) 6 39 (((knF (H.1 2) (tk1 (H.1 2) (H.1 6)))))) 6 38 ((((((mvN (H.1 2) (tk1 (H.1 2) (H.1 6))) (8 + (knF (H.1 2) (tk1 (H.1 2) (H.1 6))).toNat))) * (((mvN (H.1 2) (tk1 (H.1 2) (H.1 6))) (8 + (knF (H.1 2) (tk1 (H.1 2) (H.1 6))).toNat)))) * 1))) = (wA H2 6 ((tk2 (H.1 2) (tk1 (H.1 2) (H.1 6))))) := by (repeat rw [wI_wA]); exact congrArg (wA _ 6) hQ
        refine Ev_heq he75 ?_
        have ok76 : okZ (wA H2 6 ((tk2 (H.1 2) (tk1 (H.1 2) (H.1 6))))) := by rw [← he75]; exact ok74
        exact jn239  ok76 
  refine x_aload_n (pc := 0) dX11_ticks_0 (List.Mem.head _) ?_
  refine z_getR (pc := 1) (k := 18) (r := 6) dX11_ticks_1 lf_X11_33 sh_0 rfl rf_0_18 ?_
  refine z_bipush (pc := 4) dX11_ticks_4 bp_33 ?_
  have rd77 := ok.1 6 33
  refine z_iald (pc := 6) (j := 33) (v := H.1 6 33) dX11_ticks_6 sh_6 rfl (Nat.le_of_ble_eq_true rfl) (by decide) rfl ?_
  refine z_if_ne (pc := 7) (tgt := 67) dX11_ticks_7 (by decide) (by omega) (by omega) (fun hb78 => ?_) (fun hb78 => ?_)
  · skip
    have hE : entB (H.1 2) (H.1 6) = false := by unfold entB; rw [decide_eq_false (by omega : ¬ H.1 6 33 = 0)]; rfl
    refine x_weaken (L1 := [(0, .ref 0)]) (List.forall_mem_cons.mpr ⟨(List.Mem.head _), (fun _ h => absurd h List.not_mem_nil)⟩) ?_
    have he79 : H = (wA H 6 ((tk1 (H.1 2) (H.1 6)))) := by first | exact tk1_t hE | exact tk1_f hE
    refine Ev_heq he79 ?_
    have ok80 : okZ (wA H 6 ((tk1 (H.1 2) (H.1 6)))) := by rw [← he79]; exact ok
    exact jn67  ok80 
  · skip
    refine x_aload_n (pc := 10) dX11_ticks_10 (List.Mem.head _) ?_
    refine x_aload_n (pc := 11) dX11_ticks_11 (List.Mem.head _) ?_
    refine z_getR (pc := 12) (k := 18) (r := 6) dX11_ticks_12 lf_X11_33 sh_0 rfl rf_0_18 ?_
    refine z_bipush (pc := 15) dX11_ticks_15 bp_32 ?_
    have rd81 := ok.1 6 32
    refine z_iald (pc := 17) (j := 32) (v := H.1 6 32) dX11_ticks_17 sh_6 rfl (Nat.le_of_ble_eq_true rfl) (by decide) rfl ?_
    refine z_callVbp (pc := 18) (i := mX11_isFree) (S := []) [.int (zN ((H.1 6 32)))] dX11_ticks_18 ml_X11_262 ok_X11_isFree rfl sh_0 rfl (Or.inr rfl) (Nat.le_of_ble_eq_true rfl) (c_X11_isFree (d := d) (ln := ((H.1 6 32))) (ln1 := (by omega)) (ln2 := (by omega)) (ok := ok) (ws := (by first | assumption | omega)) (wn := (by first | assumption | omega))) (fun hc84 ok83 => ?_) (fun hc84 ok83 => ?_)
    · skip
      have hfr : tfr (H.1 2) (H.1 6) (H.1 6 32) (H.1 2 1).toNat = true := hc84
      have hE : entB (H.1 2) (H.1 6) = true := by unfold entB; rw [decide_eq_true (by omega : H.1 6 33 = 0), hfr]; rfl
      refine z_if_ne (pc := 21) (tgt := 51) dX11_ticks_21 (by decide) (by decide) (by decide) (fun _ => ?_) (fun h => absurd h (by decide))
      refine x_aload_n (pc := 51) dX11_ticks_51 (List.Mem.head _) ?_
      refine z_getR (pc := 52) (k := 18) (r := 6) dX11_ticks_52 lf_X11_33 sh_0 rfl rf_0_18 ?_
      refine z_bipush (pc := 55) dX11_ticks_55 bp_33 ?_
      refine z_iconst (pc := 57) dX11_ticks_57 ?_
      refine z_iast (pc := 58) (j := 33) (v := 1) dX11_ticks_58 sh_6 rfl (Nat.le_of_ble_eq_true rfl) (by decide) ?_
      have ok86 := okI ok83 6 33 (v := 1) (by decide) (by decide)
      refine x_aload_n (pc := 59) dX11_ticks_59 (List.Mem.head _) ?_
      refine z_getR (pc := 60) (k := 18) (r := 6) dX11_ticks_60 lf_X11_33 sh_0 rfl rf_0_18 ?_
      refine z_bipush (pc := 63) dX11_ticks_63 bp_34 ?_
      refine z_iconst (pc := 65) dX11_ticks_65 ?_
      refine z_iast (pc := 66) (j := 34) (v := 0) dX11_ticks_66 sh_6 rfl (Nat.le_of_ble_eq_true rfl) (by decide) ?_
      have ok87 := okI ok86 6 34 (v := 0) (by decide) (by decide)
      refine x_weaken (L1 := [(0, .ref 0)]) (List.forall_mem_cons.mpr ⟨(List.Mem.head _), (fun _ h => absurd h List.not_mem_nil)⟩) ?_
      have he88 : (wI (wI H 6 33 (1)) 6 34 (0)) = (wA H 6 ((tk1 (H.1 2) (H.1 6)))) := by first | exact tk1_t hE | exact tk1_f hE
      refine Ev_heq he88 ?_
      have ok89 : okZ (wA H 6 ((tk1 (H.1 2) (H.1 6)))) := by rw [← he88]; exact ok87
      exact jn67  ok89 
    · skip
      have hfr : tfr (H.1 2) (H.1 6) (H.1 6 32) (H.1 2 1).toNat = false := Bool.eq_false_iff.mpr hc84
      refine z_if_ne (pc := 21) (tgt := 51) dX11_ticks_21 (by decide) (by decide) (by decide) (fun h => absurd h (by decide)) (fun _ => ?_)
      refine x_aload_n (pc := 24) dX11_ticks_24 (List.Mem.head _) ?_
      refine z_getR (pc := 25) (k := 18) (r := 6) dX11_ticks_25 lf_X11_33 sh_0 rfl rf_0_18 ?_
      refine z_bipush (pc := 28) dX11_ticks_28 bp_32 ?_
      have rd91 := ok83.1 6 32
      refine z_iald (pc := 30) (j := 32) (v := H.1 6 32) dX11_ticks_30 sh_6 rfl (Nat.le_of_ble_eq_true rfl) (by decide) rfl ?_
      refine z_if_ne (pc := 31) (tgt := 67) dX11_ticks_31 (by decide) (by omega) (by omega) (fun hb92 => ?_) (fun hb92 => ?_)
      · skip
        have hE : entB (H.1 2) (H.1 6) = false := by unfold entB; rw [hfr, decide_eq_false (by omega : ¬ (H.1 6 32 = 0 ∧ H.1 2 37 ≤ H.1 6 35)), Bool.or_false, Bool.and_false]
        refine x_weaken (L1 := [(0, .ref 0)]) (List.forall_mem_cons.mpr ⟨(List.Mem.head _), (fun _ h => absurd h List.not_mem_nil)⟩) ?_
        have he93 : H = (wA H 6 ((tk1 (H.1 2) (H.1 6)))) := by first | exact tk1_t hE | exact tk1_f hE
        refine Ev_heq he93 ?_
        have ok94 : okZ (wA H 6 ((tk1 (H.1 2) (H.1 6)))) := by rw [← he93]; exact ok83
        exact jn67  ok94 
      · skip
        refine x_aload_n (pc := 34) dX11_ticks_34 (List.Mem.head _) ?_
        refine z_getR (pc := 35) (k := 18) (r := 6) dX11_ticks_35 lf_X11_33 sh_0 rfl rf_0_18 ?_
        refine z_bipush (pc := 38) dX11_ticks_38 bp_35 ?_
        have rd95 := ok83.1 6 35
        refine z_iald (pc := 40) (j := 35) (v := H.1 6 35) dX11_ticks_40 sh_6 rfl (Nat.le_of_ble_eq_true rfl) (by decide) rfl ?_
        refine x_aload_n (pc := 41) dX11_ticks_41 (List.Mem.head _) ?_
        refine z_getR (pc := 42) (k := 2) (r := 2) dX11_ticks_42 lf_X11_17 sh_0 rfl rf_0_2 ?_
        refine z_bipush (pc := 45) dX11_ticks_45 bp_37 ?_
        have rd96 := ok83.1 2 37
        refine z_iald (pc := 47) (j := 37) (v := H.1 2 37) dX11_ticks_47 sh_2 rfl (Nat.le_of_ble_eq_true rfl) (by decide) rfl ?_
        refine z_icmp_lt (pc := 48) (tgt := 67) dX11_ticks_48 (by decide) (by omega) (by omega) (by omega) (by omega) (fun hb97 => ?_) (fun hb97 => ?_)
        · skip
          have hE : entB (H.1 2) (H.1 6) = false := by unfold entB; rw [hfr, decide_eq_false (by omega : ¬ (H.1 6 32 = 0 ∧ H.1 2 37 ≤ H.1 6 35)), Bool.or_false, Bool.and_false]
          refine x_weaken (L1 := [(0, .ref 0)]) (List.forall_mem_cons.mpr ⟨(List.Mem.head _), (fun _ h => absurd h List.not_mem_nil)⟩) ?_
          have he98 : H = (wA H 6 ((tk1 (H.1 2) (H.1 6)))) := by first | exact tk1_t hE | exact tk1_f hE
          refine Ev_heq he98 ?_
          have ok99 : okZ (wA H 6 ((tk1 (H.1 2) (H.1 6)))) := by rw [← he98]; exact ok83
          exact jn67  ok99 
        · skip
          have hE : entB (H.1 2) (H.1 6) = true := by unfold entB; rw [decide_eq_true (by omega : H.1 6 33 = 0), decide_eq_true (by omega : H.1 6 32 = 0 ∧ H.1 2 37 ≤ H.1 6 35), Bool.or_true]; rfl
          refine x_aload_n (pc := 51) dX11_ticks_51 (List.Mem.head _) ?_
          refine z_getR (pc := 52) (k := 18) (r := 6) dX11_ticks_52 lf_X11_33 sh_0 rfl rf_0_18 ?_
          refine z_bipush (pc := 55) dX11_ticks_55 bp_33 ?_
          refine z_iconst (pc := 57) dX11_ticks_57 ?_
          refine z_iast (pc := 58) (j := 33) (v := 1) dX11_ticks_58 sh_6 rfl (Nat.le_of_ble_eq_true rfl) (by decide) ?_
          have ok100 := okI ok83 6 33 (v := 1) (by decide) (by decide)
          refine x_aload_n (pc := 59) dX11_ticks_59 (List.Mem.head _) ?_
          refine z_getR (pc := 60) (k := 18) (r := 6) dX11_ticks_60 lf_X11_33 sh_0 rfl rf_0_18 ?_
          refine z_bipush (pc := 63) dX11_ticks_63 bp_34 ?_
          refine z_iconst (pc := 65) dX11_ticks_65 ?_
          refine z_iast (pc := 66) (j := 34) (v := 0) dX11_ticks_66 sh_6 rfl (Nat.le_of_ble_eq_true rfl) (by decide) ?_
          have ok101 := okI ok100 6 34 (v := 0) (by decide) (by decide)
          refine x_weaken (L1 := [(0, .ref 0)]) (List.forall_mem_cons.mpr ⟨(List.Mem.head _), (fun _ h => absurd h List.not_mem_nil)⟩) ?_
          have he102 : (wI (wI H 6 33 (1)) 6 34 (0)) = (wA H 6 ((tk1 (H.1 2) (H.1 6)))) := by first | exact tk1_t hE | exact tk1_f hE
          refine Ev_heq he102 ?_
          have ok103 : okZ (wA H 6 ((tk1 (H.1 2) (H.1 6)))) := by rw [← he102]; exact ok101
          exact jn67  ok103 
