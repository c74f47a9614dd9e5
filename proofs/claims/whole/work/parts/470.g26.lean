/-! GROUP G26: one tick of the class on a way. -/
theorem rnd_na {A M : Nat → Int} {wo : Int} {k : Nat} (e : M 41 = (k : Int)) (h : ask A M k = false) : rnd A wo M = false := by
  unfold rnd
  rw [e, Int.toNat_natCast, h]
  rfl
theorem rnd_ns {A M : Nat → Int} {wo : Int} {k : Nat} (e : M 41 = (k : Int)) (h : ¬ (0 < shr A M wo k ∧ shr A M wo k < 100)) : rnd A wo M = false := by
  unfold rnd
  rw [e, Int.toNat_natCast, decide_eq_false h, Bool.and_false]
theorem rnd_y {A M : Nat → Int} {wo : Int} {k : Nat} (e : M 41 = (k : Int)) (ha : ask A M k = true) (h : 0 < shr A M wo k ∧ shr A M wo k < 100) : rnd A wo M = true := by
  unfold rnd
  rw [e, Int.toNat_natCast, ha, decide_eq_true h]
  rfl
/-- a car's turn is over -/
def MwI (A N M : Nat → Int) (k : Nat) : Prop := M 41 = (k : Int) ∧ WFN A M ∧ WFX A M ∧ ∀ j, 32 ≤ j → j < 40 → M j = N j
theorem MwI_d {A N M : Nat → Int} {wo : Int} {k : Nat} (h8 : A 1 ≤ 8) (h : MwI A N M k) (hk : (k : Int) < A 1) : MwI A N (drw1 A wo M) (k + 1) := by
  obtain ⟨h1, h2, h3, h4⟩ := h
  obtain ⟨w, m, hi, e41, _⟩ := drw1_s (wo := wo) h8 (⟨h2, h3, by omega, by omega⟩ : WFT A M) (by omega)
  exact ⟨by rw [e41, h1]; omega, w.1, w.2.1, fun j a b => (hi j a b).trans (h4 j a b)⟩
theorem MwI_f {A N M : Nat → Int} {wo : Int} {k : Nat} {b : Bool} (h8 : A 1 ≤ 8) (h : MwI A N M k) (hk : (k : Int) < A 1) (h0 : M (16 + k) = 0) : MwI A N (drw1 A wo (frc M b)) (k + 1) := by
  obtain ⟨h1, h2, h3, h4⟩ := h
  obtain ⟨w, _, hi⟩ := frc_s h8 (⟨h2, h3, by omega, by omega⟩ : WFT A M) (by omega) (by rw [h1, Int.toNat_natCast]; exact h0) b
  exact MwI_d h8 ⟨by rw [hi 41 (by omega)]; exact h1, w.1, w.2.1, fun j a c => (hi j (by omega)).trans (h4 j a c)⟩ hk
theorem rd_107 {H H1 : ZH} {q M M1 : Nat → Int} {k : Nat} {v : Int} (ws1 : 0 ≤ q 1 ∧ q 1 ≤ 8) (hk : (k : Int) < q 1) (rd : RepRd H q M) (e : ∀ cc, cc ≠ 111 → cc ≠ 112 → H1.1 cc = H.1 cc) (ev : M1 (16 + k) = v) (eo : ∀ j, j < 40 → j ≠ 16 + k → M1 j = M j) : RepRd (wI H1 107 k v) q M1 := by
  obtain ⟨hC, a0, a1, a2, a3, a4, a5, a6, a7⟩ := rd
  have e104 := fun j => congrFun (e 104 (by omega) (by omega)) j
  refine ⟨fun c hc => ?_, ?_, ?_, ?_, ?_, ?_, ?_, ?_, ?_⟩
  · obtain ⟨c1, c2, c3, c4⟩ := hC c hc
    refine ⟨?_, ?_, ?_, ?_⟩
    · rw [wI1c (by omega), e 105 (by omega) (by omega), eo c (by omega) (by omega)]; exact c1
    · rw [wI1c (by omega), e 106 (by omega) (by omega), eo (8 + c) (by omega) (by omega)]; exact c2
    · rw [wIp]
      by_cases y : c = k
      · subst y
        rw [if_pos rfl, ev]
      · rw [if_neg y, e 107 (by omega) (by omega), eo (16 + c) (by omega) (by omega)]; exact c3
    · rw [wI1c (by omega), e 108 (by omega) (by omega), eo (24 + c) (by omega) (by omega)]; exact c4
  · rw [wI1c (by omega), e104, eo 32 (by omega) (by omega)]; exact a0
  · rw [wI1c (by omega), e104, eo 33 (by omega) (by omega)]; exact a1
  · rw [wI1c (by omega), e104, eo 34 (by omega) (by omega)]; exact a2
  · rw [wI1c (by omega), e104, eo 35 (by omega) (by omega)]; exact a3
  · rw [wI1c (by omega), e104, eo 36 (by omega) (by omega)]; exact a4
  · rw [wI1c (by omega), e104, eo 37 (by omega) (by omega)]; exact a5
  · rw [wI1c (by omega), e104, eo 38 (by omega) (by omega)]; exact a6
  · rw [wI1c (by omega), e104, eo 39 (by omega) (by omega)]; exact a7
/-- what a car's deciding makes of it all, on a way -/
def DecW (H H1 : ZH) (sh : Int) (c : Nat) : Prop := (sh = 0 ∧ H1 = wI H 107 c 1) ∨ (sh = 100 ∧ H1 = wI H 107 c 2) ∨ ((0 < sh ∧ sh < 100) ∧ ∃ b Hc, IsW H Hc sh b ∧ H1 = wI Hc 107 c (if b = true then 2 else 1))
theorem dw_step {Hm H3 : ZH} {q N M : Nat → Int} {wo : Int} {k : Nat} {X : (Nat → Int) × Int × List Bool} (ws1 : 0 ≤ q 1 ∧ q 1 ≤ 8) (ws0 : 1 ≤ q 0 ∧ q 0 ≤ 4) (wl : WFL q) (hM : MwI q N M k) (h37 : M 37 = 0) (hk : (k : Int) < q 1) (hA : ask q M k = true) (rd : RepRd Hm q M) (hch : ChS Hm q wo M X) (hd : DecW Hm H3 (shr q M wo k) k) : ∃ M2, MwI q N M2 (k + 1) ∧ DkF Hm H3 ∧ RepRd H3 q M2 ∧ ChS H3 q wo M2 X ∧ ∀ cc j, ¬ (cc = 111 ∧ j = 5) → H3.2 cc j = Hm.2 cc j := by
  have e41 := hM.1
  have a : ∀ j, j < 40 → j ≠ 16 + k → drw1 q wo M j = M j := fun j h1 h2 => drw1_at e41 h2 (by omega) (by omega)
  obtain ⟨z1, z2⟩ := drw1_ask (wo := wo) wl e41 (by omega) hA
  rcases hd with ⟨hs, e⟩ | ⟨hs, e⟩ | ⟨hs, b, Hc, iw, e⟩
  · have hr := rnd_ns (A := q) (wo := wo) e41 (by omega)
    subst e
    refine ⟨drw1 q wo M, MwI_d ws1.2 hM hk, fun cc h1 h2 h3 => wIf h1, rd_107 ws1 hk rd (fun _ _ _ => rfl) (by rw [z1]; unfold dvF; rw [if_pos hs]) a, ChS_cg (chs_d ws1.2 hch h37 (by omega) hr) (wIf (by omega)) (wIf (by omega)) rfl, fun _ _ _ => rfl⟩
  · have hr := rnd_ns (A := q) (wo := wo) e41 (by omega)
    subst e
    refine ⟨drw1 q wo M, MwI_d ws1.2 hM hk, fun cc h1 h2 h3 => wIf h1, rd_107 ws1 hk rd (fun _ _ _ => rfl) (by rw [z1]; unfold dvF; rw [if_neg (by omega), if_pos hs]) a, ChS_cg (chs_d ws1.2 hch h37 (by omega) hr) (wIf (by omega)) (wIf (by omega)) rfl, fun _ _ _ => rfl⟩
  · have hr := rnd_y (A := q) (wo := wo) e41 hA hs
    subst e
    have iw2 : IsW Hm Hc (shr q M wo (M 41).toNat) b := by rw [e41, Int.toNat_natCast]; exact iw
    have h0 := (rnd_t hr).1
    rw [e41, Int.toNat_natCast] at h0
    have f41 : frc M b 41 = (k : Int) := by rw [frc_at (by omega)]; exact e41
    have fat : ∀ j, j ≠ 16 + k → frc M b j = M j := fun j hj => frc_at (by omega)
    have f2 : drw1 q wo (frc M b) (16 + k) = (if b = true then 2 else 1) := by
      rw [drw1_no (k := k) f41 (by unfold ask; rw [show frc M b (16 + k) = if b = true then 2 else 1 from if_pos (by omega)]; exact decide_eq_false (by cases b <;> (intro z; have := z.1; simp at this))) (by omega)]
      exact if_pos (by omega)
    refine ⟨drw1 q wo (frc M b), MwI_f ws1.2 hM hk h0, fun cc h1 h2 h3 => (wIf h1).trans (iw.1 cc h2 h3), rd_107 ws1 hk rd iw.1 f2 (fun j h1 h2 => by rw [drw1_at f41 h2 (by omega) (by omega)]; exact fat j h2), ChS_cg (chs_r ws1 ws0 hch h37 (by omega) hr iw2) (wIf (by omega)) (wIf (by omega)) rfl, fun cc j h => iw.2.2.2.1 cc j h⟩
/-- what a choice needs -/
def ChB (H : ZH) : Prop := H.1 111 0 = 0 ∧ (0 ≤ H.1 111 4 ∧ H.1 111 4 ≤ H.1 111 3 ∧ H.1 111 3 ≤ 8) ∧ (∀ i : Nat, (i : Int) < H.1 111 3 → H.1 112 i = 0 ∨ H.1 112 i = 1) ∧ 1 ≤ H.2 111 5 ∧ H.2 111 5 ≤ 10000000000000000
theorem EncF_01 {h : Nat → Int} (l : List Bool) : ∀ k, EncF h k l → ∀ i, k ≤ i → i < k + l.length → h i = 0 ∨ h i = 1 := by
  induction l with
  | nil => intro k _ i a b; exact absurd b (by show ¬ i < k + 0; omega)
  | cons c l ih =>
    intro k e i a b
    have z : (c :: l).length = l.length + 1 := rfl
    by_cases q : i = k
    · subst q
      rw [e.1]
      cases c
      · exact Or.inl rfl
      · exact Or.inr rfl
    · exact ih (k + 1) e.2 i (by omega) (by omega)
theorem chs_b {H : ZH} {A M : Nat → Int} {wo : Int} {X : (Nat → Int) × Int × List Bool} (ws1 : 0 ≤ A 1 ∧ A 1 ≤ 8) (ws0 : 1 ≤ A 0 ∧ A 0 ≤ 4) (h : ChS H A wo M X) : ChB H ∧ H.1 111 4 + und A M ≤ A 1 := by
  obtain ⟨f, w, p, pre, a1, a2, a3, a4, a5, a6, a7, a8, a9, a10, a11, a12⟩ := h
  have hl := vlf_len ws1 ws0 f M p a1 a4
  have pb := p100_bd (n := pre.length) (by omega)
  refine ⟨⟨a5, by omega, fun i hi => EncF_01 (pre ++ p) 0 a8 i (Nat.zero_le _) (by rw [List.length_append]; omega), a11, by omega⟩, by omega⟩
