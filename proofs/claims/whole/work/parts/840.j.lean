/-! GROUP J: the texts' methods: String.length, String.charAt. -/
theorem va_S_weak {A : Nat → Prop} {H0 H : Heap} {locs : List Loc} (h : va_S (fun _ => False) H0 H locs) : va_S A H0 H locs := ⟨h.1, fun q h1 _ => h.2.1 q h1 id, fun l hl => (h.2.2 l hl).elim⟩
def cSi (l : Launch) (X : MX) (adr : Nat → Nat) (im : MI) (As : List Value) (v : Int32) (rm : Room) : Prop := ∀ Hh : Heap, Met l im.1 (mw im) rm (va_Pc As (fun U => U.heap = Hh ∧ mE X adr Hh.size U)) (va_Qi (fun (r : Int32) (u : Heap) => r = v ∧ u = Hh) (fun u t => t.heap = u) (fun _ => False)) 0 0 (fun _ => False)
def cSv (l : Launch) (X : MX) (adr : Nat → Nat) (im : MI) (As : List Value) (rm : Room) : Prop := ∀ Hh : Heap, Met l im.1 (mw im) rm (va_Pc As (fun U => U.heap = Hh ∧ mE X adr Hh.size U)) (va_Qv (fun (u : Heap) => u = Hh) (fun u t => t.heap = u) (fun _ => False)) 0 0 (fun _ => False)
theorem ms_ok : ∀ k, k < 2 → ∀ j, j < mslen.getD k 0 → ((msbyt.getD k []).getD j 0 &&& 255 = (msbyt.getD k []).getD j 0 ∧ (((msbyt.getD k []).getD j 0).toUInt32 % 65536).toInt32 = (msbyt.getD k []).getD j 0) ∧ ((msbyt.getD k []).getD j 0).toUInt32.toUInt16.toUInt32.toInt32 = (msbyt.getD k []).getD j 0 := by decide +kernel
theorem ms_len : ∀ k, k < 2 → mslen.getD k 0 < 1000 ∧ nI (mslen.getD k 0) >>> ((0 : Int32) &&& 31) = nI (mslen.getD k 0) := by decide +kernel
abbrev mJ0_coder_7d493 : MI := (yJ0_coder_7d493, cJ0_coder_7d493, 1, some .byte)
theorem ok_J0_coder_7d493 : okV mJ0_coder_7d493 0 := ⟨⟨mg_3 74 (by decide +kernel) (by decide +kernel), by decide +kernel, by decide, mg_1 14 (by decide +kernel) (by decide +kernel)⟩, ⟨by decide +kernel, by decide +kernel, by decide +kernel⟩, mg_3 72 (by decide +kernel) (by decide +kernel), mg_3 73 (by decide +kernel) (by decide +kernel)⟩
abbrev mJ0_isLatin1_aae02 : MI := (yJ0_isLatin1_aae02, cJ0_isLatin1_aae02, 1, some .boolean)
theorem ok_J0_isLatin1_aae02 : okV mJ0_isLatin1_aae02 0 := ⟨⟨mg_3 84 (by decide +kernel) (by decide +kernel), by decide +kernel, by decide, mg_1 14 (by decide +kernel) (by decide +kernel)⟩, ⟨by decide +kernel, by decide +kernel, by decide +kernel⟩, mg_3 82 (by decide +kernel) (by decide +kernel), mg_3 83 (by decide +kernel) (by decide +kernel)⟩
abbrev mJ0_checkIndex_df160 : MI := (yJ0_checkIndex_df160, cJ0_checkIndex_df160, 2, none)
theorem ok_J0_checkIndex_df160 : okS mJ0_checkIndex_df160 2 := ⟨⟨mg_3 90 (by decide +kernel) (by decide +kernel), by decide +kernel, by decide, mg_1 14 (by decide +kernel) (by decide +kernel)⟩, ⟨by decide +kernel, by decide +kernel, by decide +kernel⟩, mg_3 89 (by decide +kernel) (by decide +kernel)⟩
abbrev mJ1_charAt_3b067 : MI := (yJ1_charAt_3b067, cJ1_charAt_3b067, 2, some .char)
theorem ok_J1_charAt_3b067 : okS mJ1_charAt_3b067 2 := ⟨⟨mg_3 87 (by decide +kernel) (by decide +kernel), by decide +kernel, by decide, mg_1 15 (by decide +kernel) (by decide +kernel)⟩, ⟨by decide +kernel, by decide +kernel, by decide +kernel⟩, mg_3 86 (by decide +kernel) (by decide +kernel)⟩
abbrev mJ3_checkIndex_8e157 : MI := (yJ3_checkIndex_8e157, cJ3_checkIndex_8e157, 3, some .int)
theorem ok_J3_checkIndex_8e157 : okS mJ3_checkIndex_8e157 3 := ⟨⟨mg_3 95 (by decide +kernel) (by decide +kernel), by decide +kernel, by decide, mg_1 16 (by decide +kernel) (by decide +kernel)⟩, ⟨by decide +kernel, by decide +kernel, by decide +kernel⟩, mg_3 94 (by decide +kernel) (by decide +kernel)⟩
set_option maxHeartbeats 4000000 in
set_option maxRecDepth 100000 in
theorem c_J0_coder_7d493 {X : MX} {adr : Nat → Nat} (l : Launch) {k : Nat} (hk : k < 2) : cSi l X adr mJ0_coder_7d493 [.ref (adr (900 + k))] 0 ({ frames := 1, cells := 0, slots := 0, locals := 20 } : Room) := by
  intro Hh
  refine Met.ofW (cc := cJ0_coder_7d493) (maxL := 1) (ret := some .byte) (by decide +kernel) rfl ?_
  intro p e s m args below meth c s₁ B hml hv
  obtain ⟨rfl, hH, hE⟩ := hv
  subst hH
  have hx := B.exec
  have hb := B.bytes
  have hr := B.returns
  have hts0 := atoms_spec (ws := mw mJ0_coder_7d493) B.pre
  have hts : ∀ w ∈ mG, w.before _ s = true := fun w hw => hts0 w (List.mem_cons_of_mem _ hw)
  have hown : s.vm.findClass RJ0 = some m.cls := findClass_of_methodNamed B.named
  have hS : va_S (fun _ => False) s.heap s.heap [] := va_S.rf
  have hl := lv_entry ([.ref (adr (900 + k))]) (n := 1) (Nat.le_of_ble_eq_true rfl)
  rw [lg_entry_eq]
  generalize (lg_sl ([.ref (adr (900 + k))]) ++ List.replicate (1 - (lg_sl ([.ref (adr (900 + k))])).length) Slot.unset).toArray = ls at hl ⊢
  have hl : lv_has ls 1 [(0, .ref (adr (900 + k)))] := hl
  refine va_gets hx hb hE.2.2.2.2.1 (va_S_weak hS) hown (hts (.fieldLink "java/lang/String" 38 "java/lang/String" "COMPACT_STRINGS" "Z") (mg_3 75 (by decide +kernel) (by decide +kernel))) (fun _ h9 => h9) dJ0_coder_7d493_0 ?_
  refine lv_if_eq (tgt := 13) hx hb dJ0_coder_7d493_3 (by decide) (fun z => absurd z (by decide)) (fun _ => ?_)
  refine lv_aload_n hx hb dJ0_coder_7d493_6 rfl (lv_at hl 0 rfl) ?_
  refine vk_getf hx hb (hE.2.2.2.1.1 k hk).2.1 (va_S_weak hS) hown (hts (.fieldLink "java/lang/String" 15 "java/lang/String" "coder" "B") (mg_8 115 (by decide +kernel) (by decide +kernel))) (fun _ h9 => h9) dJ0_coder_7d493_7 ?_
  refine lv_goto (tgt := 14) hx hb dJ0_coder_7d493_10 (by decide) ?_
  exact W.zret (v := 0) hx hb hr rfl (fun t ht hW => ⟨⟨_, s.heap, rfl, ⟨rfl, rfl⟩, ht⟩, hS.F ht⟩) hS.2.2 dJ0_coder_7d493_14
set_option maxHeartbeats 4000000 in
set_option maxRecDepth 100000 in
theorem c_J0_isLatin1_aae02 {X : MX} {adr : Nat → Nat} (l : Launch) {k : Nat} (hk : k < 2) : cSi l X adr mJ0_isLatin1_aae02 [.ref (adr (900 + k))] 1 ({ frames := 1, cells := 0, slots := 0, locals := 20 } : Room) := by
  intro Hh
  refine Met.ofW (cc := cJ0_isLatin1_aae02) (maxL := 1) (ret := some .boolean) (by decide +kernel) rfl ?_
  intro p e s m args below meth c s₁ B hml hv
  obtain ⟨rfl, hH, hE⟩ := hv
  subst hH
  have hx := B.exec
  have hb := B.bytes
  have hr := B.returns
  have hts0 := atoms_spec (ws := mw mJ0_isLatin1_aae02) B.pre
  have hts : ∀ w ∈ mG, w.before _ s = true := fun w hw => hts0 w (List.mem_cons_of_mem _ hw)
  have hown : s.vm.findClass RJ0 = some m.cls := findClass_of_methodNamed B.named
  have hS : va_S (fun _ => False) s.heap s.heap [] := va_S.rf
  have hl := lv_entry ([.ref (adr (900 + k))]) (n := 1) (Nat.le_of_ble_eq_true rfl)
  rw [lg_entry_eq]
  generalize (lg_sl ([.ref (adr (900 + k))]) ++ List.replicate (1 - (lg_sl ([.ref (adr (900 + k))])).length) Slot.unset).toArray = ls at hl ⊢
  have hl : lv_has ls 1 [(0, .ref (adr (900 + k)))] := hl
  refine va_gets hx hb hE.2.2.2.2.1 (va_S_weak hS) hown (hts (.fieldLink "java/lang/String" 38 "java/lang/String" "COMPACT_STRINGS" "Z") (mg_3 75 (by decide +kernel) (by decide +kernel))) (fun _ h9 => h9) dJ0_isLatin1_aae02_0 ?_
  refine lv_if_eq (tgt := 17) hx hb dJ0_isLatin1_aae02_3 (by decide) (fun z => absurd z (by decide)) (fun _ => ?_)
  refine lv_aload_n hx hb dJ0_isLatin1_aae02_6 rfl (lv_at hl 0 rfl) ?_
  refine vk_getf hx hb (hE.2.2.2.1.1 k hk).2.1 (va_S_weak hS) hown (hts (.fieldLink "java/lang/String" 15 "java/lang/String" "coder" "B") (mg_8 115 (by decide +kernel) (by decide +kernel))) (fun _ h9 => h9) dJ0_isLatin1_aae02_7 ?_
  refine lv_if_ne (tgt := 17) hx hb dJ0_isLatin1_aae02_10 (by decide) (fun z => absurd rfl z) (fun _ => ?_)
  refine lv_iconst (v := 1) hx hb dJ0_isLatin1_aae02_13 (by decide) ?_
  refine lv_goto (tgt := 18) hx hb dJ0_isLatin1_aae02_14 (by decide) ?_
  exact W.zret (v := 1) hx hb hr rfl (fun t ht hW => ⟨⟨_, s.heap, rfl, ⟨rfl, rfl⟩, ht⟩, hS.F ht⟩) hS.2.2 dJ0_isLatin1_aae02_18
set_option maxHeartbeats 4000000 in
set_option maxRecDepth 100000 in
theorem c_J0_length_8abf5 {X : MX} {adr : Nat → Nat} (l : Launch) {k : Nat} (hk : k < 2) : cSi l X adr mJlen [.ref (adr (900 + k))] (nI (mslen.getD k 0)) ({ frames := 6, cells := 0, slots := 0, locals := 400 } : Room) := by
  intro Hh
  refine Met.ofW (cc := cJ0_length_8abf5) (maxL := 1) (ret := some .int) (by decide +kernel) rfl ?_
  intro p e s m args below meth c s₁ B hml hv
  obtain ⟨rfl, hH, hE⟩ := hv
  subst hH
  have hx := B.exec
  have hb := B.bytes
  have hr := B.returns
  have hts0 := atoms_spec (ws := mw mJlen) B.pre
  have hts : ∀ w ∈ mG, w.before _ s = true := fun w hw => hts0 w (List.mem_cons_of_mem _ hw)
  have hown : s.vm.findClass RJ0 = some m.cls := findClass_of_methodNamed B.named
  have hS : va_S (fun _ => False) s.heap s.heap [] := va_S.rf
  have hl := lv_entry ([.ref (adr (900 + k))]) (n := 1) (Nat.le_of_ble_eq_true rfl)
  rw [lg_entry_eq]
  generalize (lg_sl ([.ref (adr (900 + k))]) ++ List.replicate (1 - (lg_sl ([.ref (adr (900 + k))])).length) Slot.unset).toArray = ls at hl ⊢
  have hl : lv_has ls 1 [(0, .ref (adr (900 + k)))] := hl
  refine lv_aload_n hx hb dJ0_length_8abf5_0 rfl (lv_at hl 0 rfl) ?_
  refine vk_getf hx hb (hE.2.2.2.1.1 k hk).2.2.1 (va_S_weak hS) hown (hts (.fieldLink "java/lang/String" 9 "java/lang/String" "value" "[B") (mg_8 114 (by decide +kernel) (by decide +kernel))) (fun _ h9 => h9) dJ0_length_8abf5_1 ?_
  refine va_tlen hx hb (hE.2.2.2.1.1 k hk).2.2.2 (va_S_weak hS) (v := nI (mslen.getD k 0)) rfl dJ0_length_8abf5_4 ?_
  refine lv_aload_n hx hb dJ0_length_8abf5_5 rfl (lv_at hl 0 rfl) ?_
  refine va_calli (A1 := fun _ => False) (va_runV (nL := mJlen.2.2.1) (own := RJ0) (C := RJ0) (As := []) (rest := [.int (nI (mslen.getD k 0))]) ⟨hx, hb, hml, hown, hts⟩ (c_J0_coder_7d493 l hk s.heap) (cwV 0 hts (mwV mJlen (mg_3 71 (by decide +kernel) (by decide +kernel)) ok_J0_coder_7d493) rfl rfl rfl ⟨rfl, ok_J0_coder_7d493.2.1⟩ ⟨(Nat.le_of_ble_eq_true rfl), (Nat.le_of_ble_eq_true rfl)⟩) ⟨fun a U g mk q => ⟨q.1, q.2.1, mE_blind q.2.2⟩, mSrecv hE (va_S_weak hS) hk, fun U hU hWa => ⟨rfl, hU, by rw [← hU]; exact mE_at hU hWa hE (va_S_weak hS)⟩⟩ rfl rfl hl.1 rfl (lv_room (Nat.le_of_ble_eq_true rfl)) dJ0_length_8abf5_6 ⟨Nat.zero_le _, Nat.zero_le _⟩) hS (fun q _ h => h.elim) (fun q h => h.elim) (fun r u t H1 locs1 ht hvm hw1 hB hz1 hk1 hS1 => ?_)
  obtain ⟨e1, e2⟩ := hw1
  have e3 : H1 = s.heap := by rw [← ht, hB, e2]
  subst e1; subst e3
  have hS := hS1
  refine lv_ishr hx hb dJ0_length_8abf5_9 ?_
  rw [(ms_len k hk).2]
  exact W.iret (v := nI (mslen.getD k 0)) hx hb hr (fun t ht hW => ⟨⟨_, s.heap, rfl, ⟨rfl, rfl⟩, ht⟩, hS.F ht⟩) hS.2.2 dJ0_length_8abf5_10
set_option maxHeartbeats 4000000 in
set_option maxRecDepth 100000 in
theorem c_J3_checkIndex_8e157_n {X : MX} {adr : Nat → Nat} (l : Launch) {j n : Nat} (hj : j < n) (hn : n < 1000) : cSi l X adr mJ3_checkIndex_8e157 [.int (nI j), .int (nI n), .null] (nI j) ({ frames := 1, cells := 0, slots := 0, locals := 20 } : Room) := by
  intro Hh
  refine Met.ofW (cc := cJ3_checkIndex_8e157) (maxL := 3) (ret := some .int) (by decide +kernel) rfl ?_
  intro p e s m args below meth c s₁ B hml hv
  obtain ⟨rfl, hH, hE⟩ := hv
  subst hH
  have hx := B.exec
  have hb := B.bytes
  have hr := B.returns
  have hts0 := atoms_spec (ws := mw mJ3_checkIndex_8e157) B.pre
  have hts : ∀ w ∈ mG, w.before _ s = true := fun w hw => hts0 w (List.mem_cons_of_mem _ hw)
  have hown : s.vm.findClass RJ3 = some m.cls := findClass_of_methodNamed B.named
  have hS : va_S (fun _ => False) s.heap s.heap [] := va_S.rf
  have hl := lv_entry ([.int (nI j), .int (nI n), .null]) (n := 3) (Nat.le_of_ble_eq_true rfl)
  rw [lg_entry_eq]
  generalize (lg_sl ([.int (nI j), .int (nI n), .null]) ++ List.replicate (3 - (lg_sl ([.int (nI j), .int (nI n), .null])).length) Slot.unset).toArray = ls at hl ⊢
  have hl : lv_has ls 3 [(0, .int (nI j)), (1, .int (nI n)), (2, .null)] := hl
  refine lv_iload_n hx hb dJ3_checkIndex_8e157_0 rfl (lv_at hl 0 rfl) ?_
  refine lv_if_lt (tgt := 9) hx hb dJ3_checkIndex_8e157_1 (by decide) (fun z => absurd z (nI_pos (by omega))) (fun _ => ?_)
  refine lv_iload_n hx hb dJ3_checkIndex_8e157_4 rfl (lv_at hl 0 rfl) ?_
  refine lv_iload_n hx hb dJ3_checkIndex_8e157_5 rfl (lv_at hl 1 rfl) ?_
  refine lv_icmp_lt (tgt := 16) hx hb dJ3_checkIndex_8e157_6 (by decide) (fun _ => ?_) (fun z => absurd (nI_lt hj (by omega)) z)
  refine lv_iload_n hx hb dJ3_checkIndex_8e157_16 rfl (lv_at hl 0 rfl) ?_
  exact W.iret (v := nI j) hx hb hr (fun t ht hW => ⟨⟨_, s.heap, rfl, ⟨rfl, rfl⟩, ht⟩, hS.F ht⟩) hS.2.2 dJ3_checkIndex_8e157_17
set_option maxHeartbeats 4000000 in
set_option maxRecDepth 100000 in
theorem c_J3_checkIndex_8e157_r {X : MX} {adr : Nat → Nat} (l : Launch) {j n : Nat} (hj : j < n) (hn : n < 1000) (q : Nat) : cSi l X adr mJ3_checkIndex_8e157 [.int (nI j), .int (nI n), .ref q] (nI j) ({ frames := 1, cells := 0, slots := 0, locals := 20 } : Room) := by
  intro Hh
  refine Met.ofW (cc := cJ3_checkIndex_8e157) (maxL := 3) (ret := some .int) (by decide +kernel) rfl ?_
  intro p e s m args below meth c s₁ B hml hv
  obtain ⟨rfl, hH, hE⟩ := hv
  subst hH
  have hx := B.exec
  have hb := B.bytes
  have hr := B.returns
  have hts0 := atoms_spec (ws := mw mJ3_checkIndex_8e157) B.pre
  have hts : ∀ w ∈ mG, w.before _ s = true := fun w hw => hts0 w (List.mem_cons_of_mem _ hw)
  have hown : s.vm.findClass RJ3 = some m.cls := findClass_of_methodNamed B.named
  have hS : va_S (fun _ => False) s.heap s.heap [] := va_S.rf
  have hl := lv_entry ([.int (nI j), .int (nI n), .ref q]) (n := 3) (Nat.le_of_ble_eq_true rfl)
  rw [lg_entry_eq]
  generalize (lg_sl ([.int (nI j), .int (nI n), .ref q]) ++ List.replicate (3 - (lg_sl ([.int (nI j), .int (nI n), .ref q])).length) Slot.unset).toArray = ls at hl ⊢
  have hl : lv_has ls 3 [(0, .int (nI j)), (1, .int (nI n)), (2, .ref q)] := hl
  refine lv_iload_n hx hb dJ3_checkIndex_8e157_0 rfl (lv_at hl 0 rfl) ?_
  refine lv_if_lt (tgt := 9) hx hb dJ3_checkIndex_8e157_1 (by decide) (fun z => absurd z (nI_pos (by omega))) (fun _ => ?_)
  refine lv_iload_n hx hb dJ3_checkIndex_8e157_4 rfl (lv_at hl 0 rfl) ?_
  refine lv_iload_n hx hb dJ3_checkIndex_8e157_5 rfl (lv_at hl 1 rfl) ?_
  refine lv_icmp_lt (tgt := 16) hx hb dJ3_checkIndex_8e157_6 (by decide) (fun _ => ?_) (fun z => absurd (nI_lt hj (by omega)) z)
  refine lv_iload_n hx hb dJ3_checkIndex_8e157_16 rfl (lv_at hl 0 rfl) ?_
  exact W.iret (v := nI j) hx hb hr (fun t ht hW => ⟨⟨_, s.heap, rfl, ⟨rfl, rfl⟩, ht⟩, hS.F ht⟩) hS.2.2 dJ3_checkIndex_8e157_17
set_option maxHeartbeats 4000000 in
set_option maxRecDepth 100000 in
theorem c_J0_checkIndex_df160 {X : MX} {adr : Nat → Nat} (l : Launch) {j n : Nat} (hj : j < n) (hn : n < 1000) : cSv l X adr mJ0_checkIndex_df160 [.int (nI j), .int (nI n)] ({ frames := 2, cells := 0, slots := 0, locals := 100 } : Room) := by
  intro Hh
  refine Met.ofW (cc := cJ0_checkIndex_df160) (maxL := 2) (ret := none) (by decide +kernel) rfl ?_
  intro p e s m args below meth c s₁ B hml hv
  obtain ⟨rfl, hH, hE⟩ := hv
  subst hH
  have hx := B.exec
  have hb := B.bytes
  have hr := B.returns
  have hts0 := atoms_spec (ws := mw mJ0_checkIndex_df160) B.pre
  have hts : ∀ w ∈ mG, w.before _ s = true := fun w hw => hts0 w (List.mem_cons_of_mem _ hw)
  have hown : s.vm.findClass RJ0 = some m.cls := findClass_of_methodNamed B.named
  have hS : va_S (fun _ => False) s.heap s.heap [] := va_S.rf
  have hl := lv_entry ([.int (nI j), .int (nI n)]) (n := 2) (Nat.le_of_ble_eq_true rfl)
  rw [lg_entry_eq]
  generalize (lg_sl ([.int (nI j), .int (nI n)]) ++ List.replicate (2 - (lg_sl ([.int (nI j), .int (nI n)])).length) Slot.unset).toArray = ls at hl ⊢
  have hl : lv_has ls 2 [(0, .int (nI j)), (1, .int (nI n))] := hl
  refine lv_iload_n hx hb dJ0_checkIndex_df160_0 rfl (lv_at hl 0 rfl) ?_
  refine lv_iload_n hx hb dJ0_checkIndex_df160_1 rfl (lv_at hl 1 rfl) ?_
  rcases hE.2.2.2.2.2 with hZ | ⟨q, hZ⟩
  · refine va_gets hx hb hZ (va_S_weak hS) hown (hts (.fieldLink "java/lang/String" 1053 "jdk/internal/util/Preconditions" "SIOOBE_FORMATTER" "Ljava/util/function/BiFunction;") (mg_3 91 (by decide +kernel) (by decide +kernel))) (fun _ h9 => h9) dJ0_checkIndex_df160_2 ?_
    refine va_calli (A1 := fun _ => False) (va_runS (nL := mJ0_checkIndex_df160.2.2.1) (own := RJ0) (As := [.int (nI j), .int (nI n), .null]) (rest := []) ⟨hx, hb, hml, hown, hts⟩ (c_J3_checkIndex_8e157_n l hj hn s.heap) (va_cwS 3 hts (mwS mJ0_checkIndex_df160 (mg_3 93 (by decide +kernel) (by decide +kernel)) ok_J3_checkIndex_8e157) rfl rfl rfl ok_J3_checkIndex_8e157.2.1 ⟨(Nat.le_of_ble_eq_true rfl), (Nat.le_of_ble_eq_true rfl)⟩) ⟨fun a U g mk q => ⟨q.1, q.2.1, mE_blind q.2.2⟩, fun U hU hWa => ⟨rfl, hU, by rw [← hU]; exact mE_at hU hWa hE (va_S_weak hS)⟩⟩ rfl rfl hl.1 rfl (lv_room (Nat.le_of_ble_eq_true rfl)) dJ0_checkIndex_df160_5 ⟨Nat.zero_le _, Nat.zero_le _⟩) hS (fun q _ h => h.elim) (fun q h => h.elim) (fun r u t H1 locs1 ht hvm hw1 hB hz1 hk1 hS1 => ?_)
    obtain ⟨e1, e2⟩ := hw1
    have e3 : H1 = s.heap := by rw [← ht, hB, e2]
    subst e1; subst e3
    have hS := hS1
    refine lv_pop hx hb dJ0_checkIndex_df160_8 rfl ?_
    exact W.vret hx hb hr (fun t ht hW => ⟨⟨s.heap, rfl, rfl, ht⟩, hS.F ht⟩) hS.2.2 dJ0_checkIndex_df160_9
  · refine va_gets hx hb hZ (va_S_weak hS) hown (hts (.fieldLink "java/lang/String" 1053 "jdk/internal/util/Preconditions" "SIOOBE_FORMATTER" "Ljava/util/function/BiFunction;") (mg_3 91 (by decide +kernel) (by decide +kernel))) (fun _ h9 => h9) dJ0_checkIndex_df160_2 ?_
    refine va_calli (A1 := fun _ => False) (va_runS (nL := mJ0_checkIndex_df160.2.2.1) (own := RJ0) (As := [.int (nI j), .int (nI n), .ref q]) (rest := []) ⟨hx, hb, hml, hown, hts⟩ (c_J3_checkIndex_8e157_r l hj hn q s.heap) (va_cwS 3 hts (mwS mJ0_checkIndex_df160 (mg_3 93 (by decide +kernel) (by decide +kernel)) ok_J3_checkIndex_8e157) rfl rfl rfl ok_J3_checkIndex_8e157.2.1 ⟨(Nat.le_of_ble_eq_true rfl), (Nat.le_of_ble_eq_true rfl)⟩) ⟨fun a U g mk q => ⟨q.1, q.2.1, mE_blind q.2.2⟩, fun U hU hWa => ⟨rfl, hU, by rw [← hU]; exact mE_at hU hWa hE (va_S_weak hS)⟩⟩ rfl rfl hl.1 rfl (lv_room (Nat.le_of_ble_eq_true rfl)) dJ0_checkIndex_df160_5 ⟨Nat.zero_le _, Nat.zero_le _⟩) hS (fun q _ h => h.elim) (fun q h => h.elim) (fun r u t H1 locs1 ht hvm hw1 hB hz1 hk1 hS1 => ?_)
    obtain ⟨e1, e2⟩ := hw1
    have e3 : H1 = s.heap := by rw [← ht, hB, e2]
    subst e1; subst e3
    have hS := hS1
    refine lv_pop hx hb dJ0_checkIndex_df160_8 rfl ?_
    exact W.vret hx hb hr (fun t ht hW => ⟨⟨s.heap, rfl, rfl, ht⟩, hS.F ht⟩) hS.2.2 dJ0_checkIndex_df160_9
set_option maxHeartbeats 4000000 in
set_option maxRecDepth 100000 in
theorem c_J1_charAt_3b067 {X : MX} {adr : Nat → Nat} (l : Launch) {k j : Nat} (hk : k < 2) (hj : j < mslen.getD k 0) : cSi l X adr mJ1_charAt_3b067 [.ref (adr (950 + k)), .int (nI j)] ((msbyt.getD k []).getD j 0) ({ frames := 3, cells := 0, slots := 0, locals := 200 } : Room) := by
  have hn := (ms_len k hk).1
  obtain ⟨⟨hx1, hx2⟩, hx3⟩ := ms_ok k hk j hj
  intro Hh
  refine Met.ofW (cc := cJ1_charAt_3b067) (maxL := 2) (ret := some .char) (by decide +kernel) rfl ?_
  intro p e s m args below meth c s₁ B hml hv
  obtain ⟨rfl, hH, hE⟩ := hv
  subst hH
  have hx := B.exec
  have hb := B.bytes
  have hr := B.returns
  have hts0 := atoms_spec (ws := mw mJ1_charAt_3b067) B.pre
  have hts : ∀ w ∈ mG, w.before _ s = true := fun w hw => hts0 w (List.mem_cons_of_mem _ hw)
  have hown : s.vm.findClass RJ1 = some m.cls := findClass_of_methodNamed B.named
  have hS : va_S (fun _ => False) s.heap s.heap [] := va_S.rf
  have hl := lv_entry ([.ref (adr (950 + k)), .int (nI j)]) (n := 2) (Nat.le_of_ble_eq_true rfl)
  rw [lg_entry_eq]
  generalize (lg_sl ([.ref (adr (950 + k)), .int (nI j)]) ++ List.replicate (2 - (lg_sl ([.ref (adr (950 + k)), .int (nI j)])).length) Slot.unset).toArray = ls at hl ⊢
  have hl : lv_has ls 2 [(0, .ref (adr (950 + k))), (1, .int (nI j))] := hl
  refine lv_iload_n hx hb dJ1_charAt_3b067_0 rfl (lv_at hl 1 rfl) ?_
  refine lv_aload_n hx hb dJ1_charAt_3b067_1 rfl (lv_at hl 0 rfl) ?_
  refine va_tlen hx hb (hE.2.2.2.1.1 k hk).2.2.2 (va_S_weak hS) (v := nI (mslen.getD k 0)) rfl dJ1_charAt_3b067_2 ?_
  refine va_callv (A1 := fun _ => False) (va_runS (nL := mJ1_charAt_3b067.2.2.1) (own := RJ1) (As := [.int (nI j), .int (nI (mslen.getD k 0))]) (rest := []) ⟨hx, hb, hml, hown, hts⟩ (c_J0_checkIndex_df160 l hj hn s.heap) (va_cwS 2 hts (mwS mJ1_charAt_3b067 (mg_3 88 (by decide +kernel) (by decide +kernel)) ok_J0_checkIndex_df160) rfl rfl rfl ok_J0_checkIndex_df160.2.1 ⟨(Nat.le_of_ble_eq_true rfl), (Nat.le_of_ble_eq_true rfl)⟩) ⟨fun a U g mk q => ⟨q.1, q.2.1, mE_blind q.2.2⟩, fun U hU hWa => ⟨rfl, hU, by rw [← hU]; exact mE_at hU hWa hE (va_S_weak hS)⟩⟩ rfl rfl hl.1 rfl (lv_room (Nat.le_of_ble_eq_true rfl)) dJ1_charAt_3b067_3 ⟨Nat.zero_le _, Nat.zero_le _⟩) hS (fun q _ h => h.elim) (fun q h => h.elim) (fun u t H1 locs1 ht hvm hw1 hB hz1 hk1 hS1 => ?_)
  have e3 : H1 = s.heap := by rw [← ht, hB, hw1]
  subst e3
  have hS := hS1
  refine lv_aload_n hx hb dJ1_charAt_3b067_6 rfl (lv_at hl 0 rfl) ?_
  refine lv_iload_n hx hb dJ1_charAt_3b067_7 rfl (lv_at hl 1 rfl) ?_
  refine va_tb hx hb (hE.2.2.2.1.1 k hk).2.2.2 (va_S_weak hS) (vp_in_nI hj (by omega)) (v := .int ((msbyt.getD k []).getD j 0)) (by rw [nI_clamp (by omega)]) dJ1_charAt_3b067_8 ?_
  refine lv_sipush (v := 255) hx hb dJ1_charAt_3b067_9 (by decide) ?_
  refine lv_iand hx hb dJ1_charAt_3b067_12 ?_
  rw [hx1]
  refine lv_i2c (v := ((msbyt.getD k []).getD j 0)) hx hb dJ1_charAt_3b067_13 hx2 ?_
  exact W.zret (v := ((msbyt.getD k []).getD j 0)) hx hb hr (by show Value.int _ = _; rw [hx3]) (fun t ht hW => ⟨⟨_, s.heap, rfl, ⟨rfl, rfl⟩, ht⟩, hS.F ht⟩) hS.2.2 dJ1_charAt_3b067_14
set_option maxHeartbeats 4000000 in
set_option maxRecDepth 100000 in
theorem c_J0_charAt_5068e {X : MX} {adr : Nat → Nat} (l : Launch) {k j : Nat} (hk : k < 2) (hj : j < mslen.getD k 0) : cSi l X adr mJcha [.ref (adr (900 + k)), .int (nI j)] ((msbyt.getD k []).getD j 0) ({ frames := 6, cells := 0, slots := 0, locals := 400 } : Room) := by
  obtain ⟨⟨hx1, hx2⟩, hx3⟩ := ms_ok k hk j hj
  intro Hh
  refine Met.ofW (cc := cJ0_charAt_5068e) (maxL := 2) (ret := some .char) (by decide +kernel) rfl ?_
  intro p e s m args below meth c s₁ B hml hv
  obtain ⟨rfl, hH, hE⟩ := hv
  subst hH
  have hx := B.exec
  have hb := B.bytes
  have hr := B.returns
  have hts0 := atoms_spec (ws := mw mJcha) B.pre
  have hts : ∀ w ∈ mG, w.before _ s = true := fun w hw => hts0 w (List.mem_cons_of_mem _ hw)
  have hown : s.vm.findClass RJ0 = some m.cls := findClass_of_methodNamed B.named
  have hS : va_S (fun _ => False) s.heap s.heap [] := va_S.rf
  have hl := lv_entry ([.ref (adr (900 + k)), .int (nI j)]) (n := 2) (Nat.le_of_ble_eq_true rfl)
  rw [lg_entry_eq]
  generalize (lg_sl ([.ref (adr (900 + k)), .int (nI j)]) ++ List.replicate (2 - (lg_sl ([.ref (adr (900 + k)), .int (nI j)])).length) Slot.unset).toArray = ls at hl ⊢
  have hl : lv_has ls 2 [(0, .ref (adr (900 + k))), (1, .int (nI j))] := hl
  refine lv_aload_n hx hb dJ0_charAt_5068e_0 rfl (lv_at hl 0 rfl) ?_
  refine va_calli (A1 := fun _ => False) (va_runV (nL := mJcha.2.2.1) (own := RJ0) (C := RJ0) (As := []) (rest := []) ⟨hx, hb, hml, hown, hts⟩ (c_J0_isLatin1_aae02 l hk s.heap) (cwV 0 hts (mwV mJcha (mg_3 81 (by decide +kernel) (by decide +kernel)) ok_J0_isLatin1_aae02) rfl rfl rfl ⟨rfl, ok_J0_isLatin1_aae02.2.1⟩ ⟨(Nat.le_of_ble_eq_true rfl), (Nat.le_of_ble_eq_true rfl)⟩) ⟨fun a U g mk q => ⟨q.1, q.2.1, mE_blind q.2.2⟩, mSrecv hE (va_S_weak hS) hk, fun U hU hWa => ⟨rfl, hU, by rw [← hU]; exact mE_at hU hWa hE (va_S_weak hS)⟩⟩ rfl rfl hl.1 rfl (lv_room (Nat.le_of_ble_eq_true rfl)) dJ0_charAt_5068e_1 ⟨Nat.zero_le _, Nat.zero_le _⟩) hS (fun q _ h => h.elim) (fun q h => h.elim) (fun r u t H1 locs1 ht hvm hw1 hB hz1 hk1 hS1 => ?_)
  obtain ⟨e1, e2⟩ := hw1
  have e3 : H1 = s.heap := by rw [← ht, hB, e2]
  subst e1; subst e3
  have hS := hS1
  refine lv_if_eq (tgt := 16) hx hb dJ0_charAt_5068e_4 (by decide) (fun z => absurd z (by decide)) (fun _ => ?_)
  refine lv_aload_n hx hb dJ0_charAt_5068e_7 rfl (lv_at hl 0 rfl) ?_
  refine vk_getf hx hb (hE.2.2.2.1.1 k hk).2.2.1 (va_S_weak hS) hown (hts (.fieldLink "java/lang/String" 9 "java/lang/String" "value" "[B") (mg_8 114 (by decide +kernel) (by decide +kernel))) (fun _ h9 => h9) dJ0_charAt_5068e_8 ?_
  refine lv_iload_n hx hb dJ0_charAt_5068e_11 rfl (lv_at hl 1 rfl) ?_
  refine va_calli (A1 := fun _ => False) (va_runS (nL := mJcha.2.2.1) (own := RJ0) (As := [.ref (adr (950 + k)), .int (nI j)]) (rest := []) ⟨hx, hb, hml, hown, hts⟩ (c_J1_charAt_3b067 l hk hj s.heap) (va_cwS 2 hts (mwS mJcha (mg_3 85 (by decide +kernel) (by decide +kernel)) ok_J1_charAt_3b067) rfl rfl rfl ok_J1_charAt_3b067.2.1 ⟨(Nat.le_of_ble_eq_true rfl), (Nat.le_of_ble_eq_true rfl)⟩) ⟨fun a U g mk q => ⟨q.1, q.2.1, mE_blind q.2.2⟩, fun U hU hWa => ⟨rfl, hU, by rw [← hU]; exact mE_at hU hWa hE (va_S_weak hS)⟩⟩ rfl rfl hl.1 rfl (lv_room (Nat.le_of_ble_eq_true rfl)) dJ0_charAt_5068e_12 ⟨Nat.zero_le _, Nat.zero_le _⟩) hS (fun q _ h => h.elim) (fun q h => h.elim) (fun r u t H1 locs1 ht hvm hw1 hB hz1 hk1 hS1 => ?_)
  obtain ⟨e1, e2⟩ := hw1
  have e3 : H1 = s.heap := by rw [← ht, hB, e2]
  subst e1; subst e3
  have hS := hS1
  exact W.zret (v := ((msbyt.getD k []).getD j 0)) hx hb hr (by show Value.int _ = _; rw [hx3]) (fun t ht hW => ⟨⟨_, s.heap, rfl, ⟨rfl, rfl⟩, ht⟩, hS.F ht⟩) hS.2.2 dJ0_charAt_5068e_15
theorem mStr_all (l : Launch) (X : MX) (adr : Nat → Nat) : mStr l X adr := ⟨fun k hk => c_J0_length_8abf5 l hk, fun k hk Hh j hj => c_J0_charAt_5068e l hk hj Hh⟩
