/-! GROUP W: what the law finds at its entry. -/
theorem mt_1 {w : Cond} (i : Nat) (h : tables_1_1[i]? = some w) : w ∈ lw_tbl := List.mem_append_right _ (show w ∈ tables_1 from (List.mem_append_left _ (List.mem_of_getElem? h)))
theorem mt_2 {w : Cond} (i : Nat) (h : tables_1_2[i]? = some w) : w ∈ lw_tbl := List.mem_append_right _ (show w ∈ tables_1 from (List.mem_append_right _ (List.mem_append_left _ (List.mem_of_getElem? h))))
theorem mt_3 {w : Cond} (i : Nat) (h : tables_1_3[i]? = some w) : w ∈ lw_tbl := List.mem_append_right _ (show w ∈ tables_1 from (List.mem_append_right _ (List.mem_append_right _ (List.mem_append_left _ (List.mem_of_getElem? h)))))
theorem mt_4 {w : Cond} (i : Nat) (h : tables_1_4[i]? = some w) : w ∈ lw_tbl := List.mem_append_right _ (show w ∈ tables_1 from (List.mem_append_right _ (List.mem_append_right _ (List.mem_append_right _ (List.mem_append_left _ (List.mem_of_getElem? h))))))
theorem mt_5 {w : Cond} (i : Nat) (h : tables_1_5[i]? = some w) : w ∈ lw_tbl := List.mem_append_right _ (show w ∈ tables_1 from (List.mem_append_right _ (List.mem_append_right _ (List.mem_append_right _ (List.mem_append_right _ (List.mem_append_left _ (List.mem_of_getElem? h)))))))
theorem mt_6 {w : Cond} (i : Nat) (h : tables_1_6[i]? = some w) : w ∈ lw_tbl := List.mem_append_right _ (show w ∈ tables_1 from (List.mem_append_right _ (List.mem_append_right _ (List.mem_append_right _ (List.mem_append_right _ (List.mem_append_right _ (List.mem_append_left _ (List.mem_of_getElem? h))))))))
theorem mt_7 {w : Cond} (i : Nat) (h : tables_1_7[i]? = some w) : w ∈ lw_tbl := List.mem_append_right _ (show w ∈ tables_1 from (List.mem_append_right _ (List.mem_append_right _ (List.mem_append_right _ (List.mem_append_right _ (List.mem_append_right _ (List.mem_append_right _ (List.mem_append_left _ (List.mem_of_getElem? h)))))))))
theorem mt_8 {w : Cond} (i : Nat) (h : tables_1_8[i]? = some w) : w ∈ lw_tbl := List.mem_append_right _ (show w ∈ tables_1 from (List.mem_append_right _ (List.mem_append_right _ (List.mem_append_right _ (List.mem_append_right _ (List.mem_append_right _ (List.mem_append_right _ (List.mem_append_right _ (List.mem_of_getElem? h)))))))))
theorem w_mG {s : State} {b : Nat} (hts0 : ∀ w ∈ lw_tbl, w.before #[Value.ref b] s = true) : ∀ w ∈ mG, w.before #[Value.ref b] s = true := fun w hw => hts0 w (List.mem_filter.mp hw).1
theorem w_nI {s : State} {b : Nat} (hts0 : ∀ w ∈ lw_tbl, w.before #[Value.ref b] s = true) : ∀ t ∈ mNI, va_Nw (.methodLinkNest t.1 t.2.1 t.2.2 "FootOut") s := by
  intro t ht
  simp only [mNI, List.mem_cons, List.not_mem_nil, or_false] at ht
  rcases ht with rfl | rfl | rfl | rfl | rfl | rfl | rfl | rfl | rfl | rfl | rfl | rfl
  · exact va_Nw.of rfl (hts0 _ (mt_1 31 (by decide +kernel)))
  · exact va_Nw.of rfl (hts0 _ (mt_1 37 (by decide +kernel)))
  · exact va_Nw.of rfl (hts0 _ (mt_1 113 (by decide +kernel)))
  · exact va_Nw.of rfl (hts0 _ (mt_1 179 (by decide +kernel)))
  · exact va_Nw.of rfl (hts0 _ (mt_1 184 (by decide +kernel)))
  · exact va_Nw.of rfl (hts0 _ (mt_1 186 (by decide +kernel)))
  · exact va_Nw.of rfl (hts0 _ (mt_1 189 (by decide +kernel)))
  · exact va_Nw.of rfl (hts0 _ (mt_2 17 (by decide +kernel)))
  · exact va_Nw.of rfl (hts0 _ (mt_2 123 (by decide +kernel)))
  · exact va_Nw.of rfl (hts0 _ (mt_2 166 (by decide +kernel)))
  · exact va_Nw.of rfl (hts0 _ (mt_2 169 (by decide +kernel)))
  · exact va_Nw.of rfl (hts0 _ (mt_2 201 (by decide +kernel)))
theorem w_nL {s : State} {b : Nat} (hts0 : ∀ w ∈ lw_tbl, w.before #[Value.ref b] s = true) : ∀ w ∈ mNL, va_Nw w s := by
  intro w hw
  simp only [mNL, List.mem_cons, List.not_mem_nil, or_false] at hw
  rcases hw with rfl | rfl
  · exact va_Nw.of rfl (hts0 _ (mt_3 162 (by decide +kernel)))
  · exact va_Nw.of rfl (hts0 _ (mt_3 165 (by decide +kernel)))
theorem w_nE {s : State} {b : Nat} (hts0 : ∀ w ∈ lw_tbl, w.before #[Value.ref b] s = true) : nE s := ⟨w_nI hts0, va_AO.of (hts0 (.arrayOver (.object RX8)) (mt_2 8 (by decide +kernel))), va_AO.of (hts0 (.arrayOver (.object RX5)) (mt_2 199 (by decide +kernel)))⟩
theorem w_C {s : State} {b : Nat} (hts0 : ∀ w ∈ lw_tbl, w.before #[Value.ref b] s = true) : ∃ D : va_G, ∀ (k : Nat) (q : vw_C), mcl[k]? = some q → u_Kn s q.1 q.2.1 q.2.2 (D.1 k) (D.2 k) := by
  have hts := w_mG hts0
  obtain ⟨c0, i0, h0⟩ := u_known (C := RX0) (T := TX0) (N := 6) (n := 6) hts (mcl_in (ci := 0) rfl) (hts0 (.instantiable RX0 6) (mt_2 16 (by decide +kernel)))
  obtain ⟨c1, i1, h1⟩ := u_known (C := RX1) (T := TX1) (N := 5) (n := 5) hts (mcl_in (ci := 1) rfl) (hts0 (.instantiable RX1 5) (mt_1 112 (by decide +kernel)))
  obtain ⟨c2, i2, h2⟩ := u_known (C := RX2) (T := TX2) (N := 9) (n := 9) hts (mcl_in (ci := 2) rfl) (hts0 (.instantiable RX2 9) (mt_1 188 (by decide +kernel)))
  obtain ⟨c3, i3, h3⟩ := u_known (C := RX3) (T := TX3) (N := 11) (n := 11) hts (mcl_in (ci := 3) rfl) (hts0 (.instantiable RX3 11) (mt_1 30 (by decide +kernel)))
  obtain ⟨c4, i4, h4⟩ := u_known (C := RX4) (T := TX4) (N := 19) (n := 19) hts (mcl_in (ci := 4) rfl) (hts0 (.instantiable RX4 19) (mt_2 10 (by decide +kernel)))
  obtain ⟨c5, i5, h5⟩ := u_known (C := RX5) (T := TX5) (N := 4) (n := 4) hts (mcl_in (ci := 5) rfl) (hts0 (.instantiable RX5 4) (mt_2 200 (by decide +kernel)))
  obtain ⟨c6, i6, h6⟩ := u_known (C := RX6) (T := TX6) (N := 12) (n := 12) hts (mcl_in (ci := 6) rfl) (hts0 (.instantiable RX6 12) (mt_1 36 (by decide +kernel)))
  obtain ⟨c7, i7, h7⟩ := u_known (C := RX7) (T := TX7) (N := 7) (n := 7) hts (mcl_in (ci := 7) rfl) (hts0 (.instantiable RX7 7) (mt_2 168 (by decide +kernel)))
  obtain ⟨c8, i8, h8⟩ := u_known (C := RX8) (T := TX8) (N := 4) (n := 4) hts (mcl_in (ci := 8) rfl) (hts0 (.instantiable RX8 4) (mt_1 178 (by decide +kernel)))
  obtain ⟨c9, i9, h9⟩ := u_known (C := RX9) (T := TX9) (N := 9) (n := 9) hts (mcl_in (ci := 9) rfl) (hts0 (.instantiable RX9 9) (mt_2 122 (by decide +kernel)))
  obtain ⟨c10, i10, h10⟩ := u_known (C := RX10) (T := TX10) (N := 16) (n := 16) hts (mcl_in (ci := 10) rfl) (hts0 (.instantiable RX10 16) (mt_1 22 (by decide +kernel)))
  obtain ⟨c11, i11, h11⟩ := u_known (C := RX11) (T := TX11) (N := 36) (n := 36) hts (mcl_in (ci := 11) rfl) (hts0 (.instantiable RX11 36) (mt_6 3 (by decide +kernel)))
  have hh : ∀ k : Nat, ∃ p : ClassId × (Nat → Nat), ∀ q : vw_C, mcl[k]? = some q → u_Kn s q.1 q.2.1 q.2.2 p.1 p.2 := by
    intro k
    match k with
    | 0 => exact ⟨(c0, i0), fun q hq => by cases hq; exact h0⟩
    | 1 => exact ⟨(c1, i1), fun q hq => by cases hq; exact h1⟩
    | 2 => exact ⟨(c2, i2), fun q hq => by cases hq; exact h2⟩
    | 3 => exact ⟨(c3, i3), fun q hq => by cases hq; exact h3⟩
    | 4 => exact ⟨(c4, i4), fun q hq => by cases hq; exact h4⟩
    | 5 => exact ⟨(c5, i5), fun q hq => by cases hq; exact h5⟩
    | 6 => exact ⟨(c6, i6), fun q hq => by cases hq; exact h6⟩
    | 7 => exact ⟨(c7, i7), fun q hq => by cases hq; exact h7⟩
    | 8 => exact ⟨(c8, i8), fun q hq => by cases hq; exact h8⟩
    | 9 => exact ⟨(c9, i9), fun q hq => by cases hq; exact h9⟩
    | 10 => exact ⟨(c10, i10), fun q hq => by cases hq; exact h10⟩
    | 11 => exact ⟨(c11, i11), fun q hq => by cases hq; exact h11⟩
    | k + 12 => exact ⟨(c0, i0), fun q hq => by simp [mcl] at hq⟩
  obtain ⟨f, hf⟩ := Classical.axiomOfChoice hh
  exact ⟨(fun k => (f k).1, fun k => (f k).2), fun k q hq => hf k q hq⟩
def atys : List FieldType := [.int, .long, .boolean, .byte, .object RX5, .object RX8]
theorem w_ar {s : State} {C : String} (h : va_AO C s) : ∃ c : ClassId, ArrOfT s c (.object C) ∧ va_RA s c (.object C) := by
  obtain ⟨comp, c, k, f1, f2, f3, f4, f5⟩ := Cond.arrayOver_spec (va_AO.use (A := #[]) h)
  exact ⟨c, fun n z => ⟨fun _ h => (by cases h), k, f3, comp, f4⟩, k, comp, f3, f4, f1, f5⟩
theorem w_aint {s : State} {b : Nat} (hts0 : ∀ w ∈ lw_tbl, w.before #[Value.ref b] s = true) : ∃ c : ClassId, ArrOfT s c .int ∧ va_RA s c .int := by
  obtain ⟨c, k, comp, h1, h2, h3⟩ := Cond.arrayClass_spec (hts0 (.arrayClass .int) (mt_1 110 (by decide +kernel)))
  exact ⟨c, fun n z => ⟨fun _ h => (by cases h), k, h2, comp, h3⟩, h1⟩
theorem w_along {s : State} {b : Nat} (hts0 : ∀ w ∈ lw_tbl, w.before #[Value.ref b] s = true) : ∃ c : ClassId, ArrOfT s c .long ∧ va_RA s c .long := by
  obtain ⟨c, k, comp, h1, h2, h3⟩ := Cond.arrayClass_spec (hts0 (.arrayClass .long) (mt_2 164 (by decide +kernel)))
  exact ⟨c, fun n z => ⟨fun _ h => (by cases h), k, h2, comp, h3⟩, h1⟩
theorem w_aboolean {s : State} {b : Nat} (hts0 : ∀ w ∈ lw_tbl, w.before #[Value.ref b] s = true) : ∃ c : ClassId, ArrOfT s c .boolean ∧ va_RA s c .boolean := by
  obtain ⟨c, k, comp, h1, h2, h3⟩ := Cond.arrayClass_spec (hts0 (.arrayClass .boolean) (mt_2 42 (by decide +kernel)))
  exact ⟨c, fun n z => ⟨fun _ h => (by cases h), k, h2, comp, h3⟩, h1⟩
theorem w_abyte {s : State} {b : Nat} (hts0 : ∀ w ∈ lw_tbl, w.before #[Value.ref b] s = true) : ∃ c : ClassId, ArrOfT s c .byte ∧ va_RA s c .byte := by
  obtain ⟨c, k, comp, h1, h2, h3⟩ := Cond.arrayClass_spec (hts0 (.arrayClass .byte) (mt_1 109 (by decide +kernel)))
  exact ⟨c, fun n z => ⟨fun _ h => (by cases h), k, h2, comp, h3⟩, h1⟩
theorem w_A {s : State} {b : Nat} (hts0 : ∀ w ∈ lw_tbl, w.before #[Value.ref b] s = true) : ∃ cA : Nat → ClassId, ∀ (k : Nat) (q : ClassId × FieldType), (mty cA)[k]? = some q → ArrOfT s q.1 q.2 ∧ va_RA s q.1 q.2 := by
  obtain ⟨c0, h0⟩ := w_aint hts0
  obtain ⟨c1, h1⟩ := w_along hts0
  obtain ⟨c2, h2⟩ := w_aboolean hts0
  obtain ⟨c3, h3⟩ := w_abyte hts0
  obtain ⟨c4, h4⟩ := w_ar (w_nE hts0).2.2
  obtain ⟨c5, h5⟩ := w_ar (w_nE hts0).2.1
  refine ⟨fun k => match k with | 0 => c0 | 1 => c1 | 2 => c2 | 3 => c3 | 4 => c4 | _ => c5, fun k q hq => ?_⟩
  match k, hq with
  | 0, hq => cases hq; exact h0
  | 1, hq => cases hq; exact h1
  | 2, hq => cases hq; exact h2
  | 3, hq => cases hq; exact h3
  | 4, hq => cases hq; exact h4
  | 5, hq => cases hq; exact h5
  | k + 6, hq => simp [mty] at hq
theorem w_K {s : State} {b : Nat} (hts0 : ∀ w ∈ lw_tbl, w.before #[Value.ref b] s = true) : ∃ (D : va_G) (cA : Nat → ClassId), va_K D mcl (mty cA) s := by
  obtain ⟨D, hD⟩ := w_C hts0
  obtain ⟨cA, hA⟩ := w_A hts0
  exact ⟨D, cA, hD, hA⟩
set_option maxRecDepth 100000 in
theorem w_fl0 : ∀ j, j < 139 → (flatC (Cond.and given_1 narrow_1))[37 + j]? = some (Cond.eq (Term.elem (Term.field (Term.string RX3 161) "java/lang/String" "value" "[B") (Term.int (Int32.ofNat j))) (Term.int (msW.getD j 0))) := by decide +kernel
set_option maxRecDepth 100000 in
theorem w_fl1 : ∀ j, j < 140 → (flatC (Cond.and given_1 narrow_1))[180 + j]? = some (Cond.eq (Term.elem (Term.field (Term.string RX11 96) "java/lang/String" "value" "[B") (Term.int (Int32.ofNat j))) (Term.int (msK.getD j 0))) := by decide +kernel
def tmS : Nat → Term
  | 0 => Term.string RX3 161
  | _ => Term.string RX11 96
set_option maxRecDepth 100000 in
set_option maxHeartbeats 4000000 in
theorem w_S {s : State} {b : Nat} (hts0 : ∀ w ∈ lw_tbl, w.before #[Value.ref b] s = true) (hgv : (Jvm.Cond.and given_1 narrow_1).before #[Value.ref b] s = true) : ∃ adK adV : Nat → Nat, vk_S 2 mslen msbyt adK adV (fun q : Nat => s.heap.size ≤ q) s s.heap ∧ vk_R RX3 161 msWs (adK 0) s ∧ vk_R RX11 96 msKs (adK 1) s := by
  have hs := flat_of_before _ hgv
  have key : ∃ adK adV : Nat → Nat, vk_S 2 mslen msbyt adK adV (fun q : Nat => s.heap.size ≤ q) s s.heap ∧ ∀ i : Nat, i < 2 → (tmS i).eval #[Value.ref b] s none [] s = some (.ref (adK i)) := by
    refine vk_Sof (args := #[Value.ref b]) (s := s) (N := 2) (tm := tmS) (len := mslen) (byt := msbyt) (A := fun q : Nat => s.heap.size ≤ q) ?_ ?_ ?_ ?_ ?_ ?_ ?_ (fun a h1 h2 => absurd h1 (Nat.not_lt.mpr h2))
    · intro i hi
      rcases (show i = 0 ∨ i = 1 by omega) with rfl | rfl <;> decide +kernel
    · intro i hi
      rcases (show i = 0 ∨ i = 1 by omega) with rfl | rfl
      · exact hs _ (List.mem_of_getElem? (i := 33) (by decide +kernel))
      · exact hs _ (List.mem_of_getElem? (i := 176) (by decide +kernel))
    · intro i hi
      rcases (show i = 0 ∨ i = 1 by omega) with rfl | rfl
      · exact hs _ (List.mem_of_getElem? (i := 34) (by decide +kernel))
      · exact hs _ (List.mem_of_getElem? (i := 177) (by decide +kernel))
    · intro i hi
      rcases (show i = 0 ∨ i = 1 by omega) with rfl | rfl
      · exact hs _ (List.mem_of_getElem? (i := 35) (by decide +kernel))
      · exact hs _ (List.mem_of_getElem? (i := 178) (by decide +kernel))
    · intro i hi
      rcases (show i = 0 ∨ i = 1 by omega) with rfl | rfl
      · exact hs _ (List.mem_of_getElem? (i := 36) (by decide +kernel))
      · exact hs _ (List.mem_of_getElem? (i := 179) (by decide +kernel))
    · intro i hi j hj
      rcases (show i = 0 ∨ i = 1 by omega) with rfl | rfl
      · exact hs _ (List.mem_of_getElem? (w_fl0 j hj))
      · exact hs _ (List.mem_of_getElem? (w_fl1 j hj))
    · intro i j hi hj hn
      rcases (show i = 0 ∨ i = 1 by omega) with rfl | rfl <;> rcases (show j = 0 ∨ j = 1 by omega) with rfl | rfl
      · exact absurd rfl hn
      · exact Or.inl (hs _ (List.mem_of_getElem? (i := 320) (by decide +kernel)))
      · exact Or.inr (hs _ (List.mem_of_getElem? (i := 320) (by decide +kernel)))
      · exact absurd rfl hn
  obtain ⟨adK, adV, hS, hev⟩ := key
  exact ⟨adK, adV, hS, vk_R.of (hts0 (.stringRef RX3 161 msWs) (mt_3 66 (by decide +kernel))) (hev 0 (by decide)), vk_R.of (hts0 (.stringRef RX11 96 msKs) (mt_6 150 (by decide +kernel))) (hev 1 (by decide))⟩
theorem w_Z {s : State} {b : Nat} (hts0 : ∀ w ∈ lw_tbl, w.before #[Value.ref b] s = true) (hgv : (Jvm.Cond.and given_1 narrow_1).before #[Value.ref b] s = true) : va_Z "java/lang/String" "COMPACT_STRINGS" "Z" (.int 1) (fun q : Nat => s.heap.size ≤ q) s s.heap ∧ va_Zq "jdk/internal/util/Preconditions" "SIOOBE_FORMATTER" "Ljava/util/function/BiFunction;" (fun q : Nat => s.heap.size ≤ q) s s.heap := by
  have hs := flat_of_before _ hgv
  have hA : ∀ a : Nat, a < s.heap.size → ¬ (fun q : Nat => s.heap.size ≤ q) a := fun a h1 h2 => absurd h1 (Nat.not_lt.mpr h2)
  exact ⟨va_Zof (hts0 (.laysStatic "java/lang/String" "COMPACT_STRINGS" "Z") (mt_3 76 (by decide +kernel))) (hts0 (.initialized "java/lang/String") (mt_1 14 (by decide +kernel))) (va_eqi (hs _ (List.mem_of_getElem? (i := 4) (by decide +kernel)))) hA, va_Zqof (hts0 (.laysStatic "jdk/internal/util/Preconditions" "SIOOBE_FORMATTER" "Ljava/util/function/BiFunction;") (mt_3 92 (by decide +kernel))) (hts0 (.initialized "jdk/internal/util/Preconditions") (mt_1 16 (by decide +kernel))) (hs _ (List.mem_of_getElem? (i := 5) (by decide +kernel))) hA⟩
