/-! GROUP G35: a car at DIST 0 is as a car left out. -/
def sg (c j : Nat) : Nat := if j < c then j else j + 1
theorem sg_ne (c j : Nat) : sg c j ≠ c := by unfold sg; split <;> omega
theorem sg_lt {c j n : Nat} (hc : c < n) (hj : j < n - 1) : sg c j < n := by unfold sg; split <;> omega
theorem sg_mono {c i j : Nat} : sg c i < sg c j ↔ i < j := by unfold sg; (repeat' split) <;> omega
theorem sg_inj {c i j : Nat} (h : sg c i = sg c j) : i = j := by unfold sg at h; revert h; (repeat' split) <;> omega
theorem sg_sur {c d n : Nat} (hd : d < n) (h : d ≠ c) (hc : c < n) : ∃ j, j < n - 1 ∧ sg c j = d := by
  by_cases z : d < c
  · exact ⟨d, by omega, if_pos z⟩
  · exact ⟨d - 1, by omega, by unfold sg; rw [if_neg (by omega)]; omega⟩
/-- N1 is N without car c -/
def RLo (A : Nat → Int) (c : Nat) (N N1 : Nat → Int) : Prop := (∀ j : Nat, (j : Int) < A 1 - 1 → N1 j = N (sg c j) ∧ N1 (8 + j) = N (8 + sg c j) ∧ N1 (16 + j) = N (16 + sg c j) ∧ N1 (24 + j) = N (24 + sg c j)) ∧ (N c = 0 ∧ N (16 + c) = 0 ∧ N (24 + c) = 0) ∧ ∀ j, 32 ≤ j → j < 39 → N1 j = N j
theorem lvo_at {A : Nat → Int} {c j b : Nat} (hb : b = 2 ∨ b = 10 ∨ b = 18 ∨ b = 26) (hj : j < 8) : lvo A c (b + j) = A (b + sg c j) := by
  rw [lvo_c hb hj]
  unfold sg
  split <;> rfl
theorem bool_eq {a b : Bool} (h : a = true ↔ b = true) : a = b := by
  cases a <;> cases b <;> first | rfl | exact absurd (h.mp rfl) (by decide) | exact absurd (h.mpr rfl) (by decide)
theorem tsm_iff {A N : Nat → Int} {fr to but dc bl : Int} (n : Nat) : tsm A N fr to but dc bl n = true ↔ ∃ d, d < n ∧ (((fr ≤ A (2 + d) ∧ A (2 + d) ≤ to) ∧ A (2 + d) ≠ but) ∧ N (16 + d) = dc ∧ 0 < N d ∧ N d < bl) := by
  constructor
  · intro h
    cases Classical.em (∃ d, d < n ∧ (((fr ≤ A (2 + d) ∧ A (2 + d) ≤ to) ∧ A (2 + d) ≠ but) ∧ N (16 + d) = dc ∧ 0 < N d ∧ N d < bl)) with
    | inl z => exact z
    | inr z => rw [tsm_f (fun d hd q => z ⟨d, hd, q⟩)] at h; exact absurd h (by decide)
  · rintro ⟨d, hd, h⟩
    exact tsm_t hd h
theorem thd_iff {A N : Nat → Int} {c : Nat} (n : Nat) : thd A N c n = true ↔ ∃ d, d < n ∧ (A (2 + d) = A (2 + c) - 1 ∧ 0 < A (26 + d) ∧ N (16 + d) = 2 ∧ N (8 + d) = 0 ∧ (1 ≤ N d ∧ N d ≤ 3) ∧ N d < N c) := by
  constructor
  · intro h
    cases Classical.em (∃ d, d < n ∧ (A (2 + d) = A (2 + c) - 1 ∧ 0 < A (26 + d) ∧ N (16 + d) = 2 ∧ N (8 + d) = 0 ∧ (1 ≤ N d ∧ N d ≤ 3) ∧ N d < N c)) with
    | inl z => exact z
    | inr z => rw [thd_f (fun d hd q => z ⟨d, hd, q⟩)] at h; exact absurd h (by decide)
  · rintro ⟨d, hd, h⟩
    exact thd_t hd h
theorem tsm_lv {A N N1 : Nat → Int} {c : Nat} (h : RLo A c N N1) (h8 : A 1 ≤ 8) (hc : (c : Int) < A 1) {fr to but dc bl : Int} : tsm (lvo A c) N1 fr to but dc bl (lvo A c 1).toNat = tsm A N fr to but dc bl (A 1).toNat := by
  refine bool_eq ?_
  rw [tsm_iff, tsm_iff, lvo_1]
  constructor
  · rintro ⟨d, hd, q⟩
    obtain ⟨e1, e2, e3, e4⟩ := h.1 d (by omega)
    rw [lvo_at (b := 2) (by omega) (by omega), e1, e3] at q
    exact ⟨sg c d, sg_lt (by omega) (by omega), q⟩
  · rintro ⟨d, hd, q⟩
    obtain ⟨j, hj, e⟩ := sg_sur hd (fun z => by have := h.2.1.1; rw [z] at q; omega) (show c < (A 1).toNat by omega)
    subst e
    obtain ⟨e1, e2, e3, e4⟩ := h.1 j (by omega)
    refine ⟨j, by omega, ?_⟩
    rw [lvo_at (b := 2) (by omega) (by omega), e1, e3]
    exact q
theorem thd_lv {A N N1 : Nat → Int} {c i : Nat} (h : RLo A c N N1) (h8 : A 1 ≤ 8) (hc : (c : Int) < A 1) (hi : (i : Int) < A 1 - 1) : thd (lvo A c) N1 i (lvo A c 1).toNat = thd A N (sg c i) (A 1).toNat := by
  refine bool_eq ?_
  rw [thd_iff, thd_iff, lvo_1, lvo_at (b := 2) (j := i) (by omega) (by omega), (h.1 i hi).1]
  constructor
  · rintro ⟨d, hd, q⟩
    obtain ⟨e1, e2, e3, e4⟩ := h.1 d (by omega)
    rw [lvo_at (b := 2) (by omega) (by omega), lvo_at (b := 26) (by omega) (by omega), e1, e2, e3] at q
    exact ⟨sg c d, sg_lt (by omega) (by omega), q⟩
  · rintro ⟨d, hd, q⟩
    obtain ⟨j, hj, e⟩ := sg_sur hd (fun z => by have := h.2.1.1; rw [z] at q; omega) (show c < (A 1).toNat by omega)
    subst e
    obtain ⟨e1, e2, e3, e4⟩ := h.1 j (by omega)
    refine ⟨j, by omega, ?_⟩
    rw [lvo_at (b := 2) (by omega) (by omega), lvo_at (b := 26) (by omega) (by omega), e1, e2, e3]
    exact q
theorem tfr_lv {A N N1 : Nat → Int} {c : Nat} (h : RLo A c N N1) (h8 : A 1 ≤ 8) (hc : (c : Int) < A 1) {ln : Int} : tfr (lvo A c) N1 ln (lvo A c 1).toNat = tfr A N ln (A 1).toNat := by
  have e36 : lvo A c 36 = A 36 := lvo_o (by omega)
  cases Classical.em (∃ d, d < (A 1).toNat ∧ (A (2 + d) = ln ∧ 0 < N d ∧ N (16 + d) ≠ 2 ∧ N (24 + d) ≠ 1 ∧ thd A N d (A 1).toNat = false ∧ N d ≤ A 36 * N (8 + d))) with
  | inl z =>
    obtain ⟨d, hd, q⟩ := z
    rw [tfr_f hd q]
    obtain ⟨j, hj, e⟩ := sg_sur hd (fun z => by have := h.2.1.1; rw [z] at q; omega) (show c < (A 1).toNat by omega)
    subst e
    obtain ⟨e1, e2, e3, e4⟩ := h.1 j (by omega)
    refine tfr_f (c := j) (by rw [lvo_1]; omega) ?_
    rw [lvo_at (b := 2) (by omega) (by omega), e1, e2, e3, e4, thd_lv h h8 hc (by omega), e36]
    exact q
  | inr z =>
    rw [tfr_t (fun d hd q => z ⟨d, hd, q⟩)]
    refine tfr_t (fun j hj q => ?_)
    rw [lvo_1] at hj
    obtain ⟨e1, e2, e3, e4⟩ := h.1 j (by omega)
    rw [lvo_at (b := 2) (by omega) (by omega), e1, e2, e3, e4, thd_lv h h8 hc (by omega), e36] at q
    exact z ⟨sg c j, sg_lt (by omega) (by omega), q⟩
theorem fct_lv {A N N1 : Nat → Int} {c i : Nat} (h : RLo A c N N1) (h8 : A 1 ≤ 8) (hc : (c : Int) < A 1) (hi : (i : Int) < A 1 - 1) {k v : Int} : fct (lvo A c) N1 k v i = fct A N k v (sg c i) := by
  obtain ⟨e1, e2, e3, e4⟩ := h.1 i hi
  unfold fct
  rw [lvo_at (b := 2) (by omega) (by omega), lvo_at (b := 26) (by omega) (by omega), e1, e2, tsm_lv h h8 hc, tsm_lv h h8 hc, tsm_lv h h8 hc, lvo_o (j := 34) (by omega), h.2.2 32 (by omega) (by omega), h.2.2 33 (by omega) (by omega)]
theorem rrun_lv {A N N1 : Nat → Int} {c i fr : Nat} (h : RLo A c N N1) (h8 : A 1 ≤ 8) (hc : (c : Int) < A 1) (hi : (i : Int) < A 1 - 1) : ∀ n, rrun (lvo A c) N1 i fr n = rrun A N (sg c i) fr n
  | 0 => rfl
  | n + 1 => by
    show rstep (lvo A c) N1 i (fr + n) (rrun (lvo A c) N1 i fr n) = rstep A N (sg c i) (fr + n) (rrun A N (sg c i) fr n)
    rw [rrun_lv h h8 hc hi n]
    unfold rstep
    rw [lvo_o (j := 77 + 2 * (fr + n)) (by omega), lvo_o (j := 78 + 2 * (fr + n)) (by omega), fct_lv h h8 hc hi]
theorem tsp_lv {A N N1 : Nat → Int} {c i : Nat} (h : RLo A c N N1) (h8 : A 1 ≤ 8) (hc : (c : Int) < A 1) (hi : (i : Int) < A 1 - 1) {wo : Int} : ∀ m k : Nat, tsp (lvo A c) N1 wo i m k = tsp A N wo (sg c i) m k
  | 0, _ => rfl
  | m + 1, k => by
    have e : tso (lvo A c) N1 k i = tso A N k (sg c i) := by
      unfold tso
      rw [lvo_o (j := 53 + k) (by omega), lvo_o (j := 65 + k) (by omega), rrun_lv h h8 hc hi]
    show (if (k : Int) ≠ wo ∧ tso (lvo A c) N1 k i = true then lvo A c (41 + k) else tsp (lvo A c) N1 wo i m (k + 1)) = (if (k : Int) ≠ wo ∧ tso A N k (sg c i) = true then A (41 + k) else tsp A N wo (sg c i) m (k + 1))
    rw [e, lvo_o (j := 41 + k) (by omega), tsp_lv h h8 hc hi m (k + 1)]
theorem shr_lv {A N N1 : Nat → Int} {c i : Nat} (h : RLo A c N N1) (h8 : A 1 ≤ 8) (hc : (c : Int) < A 1) (hi : (i : Int) < A 1 - 1) {wo : Int} : shr (lvo A c) N1 wo i = shr A N wo (sg c i) ∧ ask (lvo A c) N1 i = ask A N (sg c i) := by
  obtain ⟨e1, e2, e3, e4⟩ := h.1 i hi
  unfold shr ask
  rw [e1, e2, e3, lvo_o (j := 35) (by omega), lvo_o (j := 40) (by omega), lvo_o (j := 38) (by omega), tsp_lv h h8 hc hi]
  exact ⟨rfl, rfl⟩
theorem mxf_lv {f g : Nat → Int} {c n : Nat} (hc : c < n) (h0 : f c ≤ 0) (h : ∀ j, j < n - 1 → g j = f (sg c j)) : mxf g (n - 1) = mxf f n := by
  have a : mxf g (n - 1) ≤ mxf f n := mxf_le (mxf_nn f n) (fun j hj => by rw [h j hj]; exact mxf_ge (sg_lt hc hj))
  have b : mxf f n ≤ mxf g (n - 1) := mxf_le (mxf_nn g (n - 1)) (fun d hd => by
    by_cases z : d = c
    · rw [z]; exact Int.le_trans h0 (mxf_nn g (n - 1))
    · obtain ⟨j, hj, e⟩ := sg_sur hd z hc
      rw [← e, ← h j hj]
      exact mxf_ge hj)
  omega
theorem ctr_cg {V N : Nat → Int} {i j : Nat} {w : Int} (h1 : V i = N j) (h2 : V (8 + i) = N (8 + j)) (h3 : V (16 + i) = N (16 + j)) : ctr V i w = ctr N j w ∧ ndi V i w = ndi N j w ∧ nsp V i = nsp N j ∧ hld V i w = hld N j w := by
  have e1 : nsp V i = nsp N j := by unfold nsp; rw [h2, h3]
  have e2 : hld V i w = hld N j w := by unfold hld; rw [h1, h2, h3]
  have e3 : ndi V i w = ndi N j w := by unfold ndi; rw [e1, h1, h2, h3]
  exact ⟨by unfold ctr; rw [e3, e2, h3], e3, e1, e2⟩
theorem wlr_lv {A N N1 : Nat → Int} {c : Nat} (h : RLo A c N N1) (h8 : A 1 ≤ 8) (hc : (c : Int) < A 1) : ∀ f i : Nat, (i : Int) < A 1 - 1 → wlr (lvo A c) N1 ((A 1).toNat - 1) f i = wlr A N (A 1).toNat f (sg c i)
  | 0, _, _ => rfl
  | f + 1, i, hi => by
    show mxf _ ((A 1).toNat - 1) = mxf _ (A 1).toNat
    refine mxf_lv (c := c) (by omega) ?_ (fun j hj => ?_)
    · have := h.2.1.1
      show (if A (2 + c) = A (2 + sg c i) ∧ 0 < N c ∧ bfo N c (sg c i) then ctr N c (wlr A N (A 1).toNat f c) else 0) ≤ 0
      rw [if_neg (fun z => by omega)]
      exact Int.le_refl _
    · obtain ⟨e1, e2, e3, e4⟩ := h.1 j (by omega)
      have eb : bfo N1 j i ↔ bfo N (sg c j) (sg c i) := by
        unfold bfo
        rw [e1, (h.1 i hi).1, sg_mono]
      show (if lvo A c (2 + j) = lvo A c (2 + i) ∧ 0 < N1 j ∧ bfo N1 j i then ctr N1 j (wlr (lvo A c) N1 ((A 1).toNat - 1) f j) else 0) = (if A (2 + sg c j) = A (2 + sg c i) ∧ 0 < N (sg c j) ∧ bfo N (sg c j) (sg c i) then ctr N (sg c j) (wlr A N (A 1).toNat f (sg c j)) else 0)
      rw [lvo_at (b := 2) (j := j) (by omega) (by omega), lvo_at (b := 2) (j := i) (by omega) (by omega), wlr_lv h h8 hc f j (by omega), (ctr_cg e1 e2 e3).1]
      have ep : 0 < N1 j ↔ 0 < N (sg c j) := by rw [e1]
      by_cases z : A (2 + sg c j) = A (2 + sg c i) ∧ 0 < N (sg c j) ∧ bfo N (sg c j) (sg c i)
      · rw [if_pos z, if_pos ⟨z.1, ep.mpr z.2.1, eb.mpr z.2.2⟩]
      · rw [if_neg z, if_neg (fun y => z ⟨y.1, ep.mp y.2.1, eb.mp y.2.2⟩)]
theorem wl_lv {A N N1 : Nat → Int} {c : Nat} (h : RLo A c N N1) (h8 : A 1 ≤ 8) (hc : (c : Int) < A 1) {i : Nat} (hi : (i : Int) < A 1 - 1) : wl (lvo A c) N1 i = wl A N (sg c i) := by
  unfold wl
  rw [lvo_1, show (A 1 - 1).toNat = (A 1).toNat - 1 by omega]
  exact wlr_lv h h8 hc _ _ hi
/-- one of the others is knocked, if any -/
theorem knF_lv {A N N1 : Nat → Int} {c : Nat} (h : RLo A c N N1) (h8 : A 1 ≤ 8) (hc : (c : Int) < A 1) : (knF (lvo A c) N1 = -1 ∧ knF A N = -1) ∨ ∃ j : Nat, (j : Int) < A 1 - 1 ∧ knF (lvo A c) N1 = (j : Int) ∧ knF A N = ((sg c j : Nat) : Int) := by
  have hb : ∀ j : Nat, (j : Int) < A 1 - 1 → (decide (0 < N1 j) && hitB (lvo A c) N1 j) = (decide (0 < N (sg c j)) && hitB A N (sg c j)) := by
    intro j hj
    obtain ⟨e1, e2, e3, e4⟩ := h.1 j hj
    unfold hitB
    rw [wl_lv h h8 hc hj, (ctr_cg e1 e2 e3).2.1, e1, h.2.2 33 (by omega) (by omega), h.2.2 32 (by omega) (by omega), lvo_at (b := 2) (by omega) (by omega)]
  have hcf : (decide (0 < N c) && hitB A N c) = false := by
    rw [decide_eq_false (by have := h.2.1.1; omega)]
    rfl
  unfold knF
  rw [lvo_1]
  rcases lea_cases (fun c => decide (0 < N c) && hitB A N c) (A 1).toNat with ⟨e, hn⟩ | ⟨k, hk, e, hk1, hk2⟩
  · refine Or.inl ⟨lea_no (fun j hj => ?_), e⟩
    show (decide (0 < N1 j) && hitB (lvo A c) N1 j) = false
    rw [hb j (by omega)]
    exact hn _ (sg_lt (by omega) (by omega))
  · obtain ⟨j, hj, ej⟩ := sg_sur hk (fun z => by rw [z] at hk1; exact absurd (hcf.symm.trans hk1) (by decide)) (show c < (A 1).toNat by omega)
    subst ej
    refine Or.inr ⟨j, by omega, lea_is (by omega) ?_ (fun d hd => ?_), e⟩
    · show (decide (0 < N1 j) && hitB (lvo A c) N1 j) = true
      rw [hb j (by omega)]
      exact hk1
    · show (decide (0 < N1 d) && hitB (lvo A c) N1 d) = false
      rw [hb d (by omega)]
      exact hk2 _ (sg_mono.mpr hd)
theorem tk1_lv {A N N1 : Nat → Int} {c : Nat} (h : RLo A c N N1) (h8 : A 1 ≤ 8) (hc : (c : Int) < A 1) : RLo A c (tk1 A N) (tk1 (lvo A c) N1) ∧ tk1 (lvo A c) N1 33 = tk1 A N 33 := by
  have he : entB (lvo A c) N1 = entB A N := by
    unfold entB
    rw [tfr_lv h h8 hc, h.2.2 32 (by omega) (by omega), h.2.2 33 (by omega) (by omega), h.2.2 35 (by omega) (by omega), lvo_o (j := 37) (by omega)]
  have ef : ∀ j, 32 ≤ j → j < 39 → tk1 (lvo A c) N1 j = tk1 A N j := by
    intro j h1 h2
    unfold tk1
    rw [he, h.2.2 j h1 h2]
  refine ⟨⟨fun j hj => ?_, ?_, ef⟩, ef 33 (by omega) (by omega)⟩
  · have s := sg_lt (c := c) (j := j) (n := (A 1).toNat) (by omega) (by omega)
    rw [tk1_at (by omega), tk1_at (by omega), tk1_at (by omega), tk1_at (by omega), tk1_at (by omega), tk1_at (by omega), tk1_at (by omega), tk1_at (by omega)]
    exact h.1 j hj
  · rw [tk1_at (by omega), tk1_at (by omega), tk1_at (by omega)]
    exact h.2.1
theorem tick_lv {A N N1 : Nat → Int} {c : Nat} (h : RLo A c N N1) (ws1 : 0 ≤ A 1 ∧ A 1 ≤ 8) (hc : (c : Int) < A 1) : RLo A c (tickF A N) (tickF (lvo A c) N1) := by
  have h8 := ws1.2
  obtain ⟨hm, _⟩ := tk1_lv h h8 hc
  have hl1 := lvo_1 A c
  have hk := knF_lv hm h8 hc
  have hnd : ned (lvo A c) = ned A := by unfold ned; rw [lvo_o (j := 34) (by omega)]
  generalize eM : tk1 A N = M at hm hk
  generalize eM1 : tk1 (lvo A c) N1 = M1 at hm hk
  have t1 : tickF A N = tk3 (tk2 A M) := by unfold tickF; rw [eM]
  have t2 : tickF (lvo A c) N1 = tk3 (tk2 (lvo A c) M1) := by unfold tickF; rw [eM1]
  have mf : ∀ j, 32 ≤ j → j < 39 → mvN (lvo A c) M1 j = mvN A M j := by
    intro j a b
    rw [mvN_hi (by omega) a, mvN_hi h8 a]
    exact hm.2.2 j a b
  have e0 : lvo A c 0 = A 0 := lvo_o (by omega)
  have q : ∀ j, 32 ≤ j → j < 39 → tk2 (lvo A c) M1 j = tk2 A M j := by
    intro j a b
    unfold tk2
    rw [hnd, e0, mf 32 (by omega) (by omega), mf 33 (by omega) (by omega), mf 34 (by omega) (by omega), mf j a b]
    rcases hk with ⟨k1, k2⟩ | ⟨i, hi, k1, k2⟩
    · rw [if_neg (show ¬ knF (lvo A c) M1 ≠ -1 by omega), if_neg (show ¬ knF A M ≠ -1 by omega)]
    · obtain ⟨e1, e2, e3, e4⟩ := hm.1 i hi
      have s := sg_lt (c := c) (j := i) (n := (A 1).toNat) (by omega) (by omega)
      have em : mvN (lvo A c) M1 (8 + i) = mvN A M (8 + sg c i) := by
        rw [mvN_8 (by omega) (by omega), mvN_8 h8 (by omega), (ctr_cg (w := 0) e1 e2 e3).2.2.1, e1, e2]
      rw [if_pos (show knF (lvo A c) M1 ≠ -1 by omega), if_pos (show knF A M ≠ -1 by omega), k1, k2, Int.toNat_natCast, Int.toNat_natCast, em, if_neg (show ¬ j = 39 by omega), if_neg (show ¬ j = 39 by omega)]
  have q3 : ∀ j, 32 ≤ j → j < 39 → tk3 (tk2 (lvo A c) M1) j = tk3 (tk2 A M) j := by
    intro j a b
    unfold tk3
    rw [q 37 (by omega) (by omega), q 36 (by omega) (by omega), q 35 (by omega) (by omega), q 33 (by omega) (by omega), q 32 (by omega) (by omega), q j a b]
  rw [t1, t2]
  have cell : ∀ (B P : Nat → Int) (j : Nat), j < 32 → tk3 (tk2 B P) j = mvN B P j := fun B P j hj => by rw [tk3_at (by omega), tk2_at (by omega)]
  refine ⟨fun j hj => ?_, ?_, q3⟩
  · obtain ⟨e1, e2, e3, e4⟩ := hm.1 j hj
    have s := sg_lt (c := c) (j := j) (n := (A 1).toNat) (by omega) (by omega)
    have hj2 : (j : Int) < lvo A c 1 := by omega
    have cc := ctr_cg (w := wl A M (sg c j)) e1 e2 e3
    refine ⟨?_, ?_, ?_, ?_⟩
    · rw [cell _ _ _ (by omega), cell _ _ _ (by omega), mvN_0 hj2, mvN_0 (by omega), wl_lv hm h8 hc hj, cc.2.1, e1]
    · rw [cell _ _ _ (by omega), cell _ _ _ (by omega), mvN_8 (by omega) hj2, mvN_8 h8 (by omega), cc.2.2.1, e1, e2]
    · rw [cell _ _ _ (by omega), cell _ _ _ (by omega), mvN_md (by omega) (by omega), mvN_md h8 (by omega), e3]
    · rw [cell _ _ _ (by omega), cell _ _ _ (by omega), mvN_24 (by omega) hj2, mvN_24 h8 (by omega), wl_lv hm h8 hc hj, cc.2.2.2, e1]
  · obtain ⟨z1, z2, z3⟩ := hm.2.1
    refine ⟨?_, ?_, ?_⟩
    · rw [cell _ _ _ (by omega), mvN_0 hc, if_neg (by omega)]; exact z1
    · rw [cell _ _ _ (by omega), mvN_md h8 (by omega)]; exact z2
    · rw [cell _ _ _ (by omega), mvN_24 h8 hc, if_neg (fun y => by omega)]
