/-! GROUP N2: the constructors of the nested classes. -/

abbrev mX0_init : MI := (yX0_init, cX0_init, 1, none)
theorem ok_X0_init : okNw mX0_init 0 := ⟨⟨mg_2 19 (by decide +kernel) (by decide +kernel), by decide +kernel, by decide, mg_1 8 (by decide +kernel) (by decide +kernel)⟩, ⟨by decide +kernel, by decide +kernel, by decide +kernel⟩, mg_2 18 (by decide +kernel) (by decide +kernel), rfl, rfl⟩
abbrev wX0 (cA : Nat → ClassId) (h0 : Nat) (a : Nat → Nat) : va_W := [(h0, .inr (0, [.int 0, .int 0, .ref (a 1), .int 0, .int 0, .long 1])), ((a 1), .inl (cA 2, 8, .inl (fun _ => 0)))]
set_option maxHeartbeats 4000000 in
set_option maxRecDepth 100000 in
theorem c_X0_init (l : Launch) (D : va_G) (cA : Nat → ClassId) (h0 : Nat) : cN l D cA mX0_init [(h0, .inr (0, [.int 0, .int 0, .null, .int 0, .int 0, .long 0]))] (wX0 cA h0) [.ref h0] { frames := 1, cells := 1, slots := 8, locals := 20 } 1 8 := by
  intro sz
  refine Met.ofW (cc := cX0_init) (maxL := 1) (ret := none) (by decide +kernel) rfl ?_
  intro p e s m args below meth c s₁ B hml hv
  obtain ⟨rfl, hsz, hP, hK, hD0, hE⟩ := hv
  have hx := B.exec
  have hb := B.bytes
  have hr := B.returns
  have hts0 := atoms_spec (ws := mw mX0_init) B.pre
  have hts : ∀ w ∈ mG, w.before _ s = true := fun w hw => hts0 w (List.mem_cons_of_mem _ hw)
  have hown : s.vm.findClass RX0 = some m.cls := findClass_of_methodNamed B.named
  have hin : meth.name = "<init>" := (name_of_methodNamed B.named B.method).1
  subst hsz
  have hD := hD0.self (sz := s.heap.size)
  generalize hAe : va_A [(h0, .inr (0, [.int 0, .int 0, .null, .int 0, .int 0, .long 0]))] s.heap.size = A at hD ⊢
  have hA : ∀ q : Nat, s.heap.size ≤ q → A q := fun q h => by rw [← hAe]; exact Or.inr h
  have hS : va_S A s.heap s.heap [] := va_S.rf
  have hl := lv_entry ([.ref h0]) (n := 1) (Nat.le_of_ble_eq_true rfl)
  rw [lg_entry_eq]
  generalize (lg_sl ([.ref h0]) ++ List.replicate (1 - (lg_sl ([.ref h0])).length) Slot.unset).toArray = ls at hl ⊢
  have hl : lv_has ls 1 [(0, .ref h0)] := hl
  refine lv_aload_n hx hb dX0_init_0 rfl (lv_at hl 0 rfl) ?_
  refine W.objInit hx hb hown (hts _ (mg_2 20 (by decide +kernel) (by decide +kernel))) (hts _ (mg_1 27 (by decide +kernel) (by decide +kernel))) (hts _ (mg_1 28 (by decide +kernel) (by decide +kernel))) rfl (by rw [hml]; exact hl.1) rfl dX0_init_1 (Nat.le_of_ble_eq_true rfl) (Nat.le_of_ble_eq_true rfl) ?_
  refine W.eq (g2 := F0 m 4 ls []) rfl ?_
  refine lv_aload_n hx hb dX0_init_4 rfl (lv_at hl 0 rfl) ?_
  refine lv_bipush (v := 8) hx hb dX0_init_5 (by decide) ?_
  refine na_Z hx hb hts hK hP hD hS hA 8 (by decide) (by decide) (Nat.le_of_ble_eq_true rfl) (Nat.le_of_ble_eq_true rfl) (Nat.le_of_ble_eq_true rfl) dX0_init_7 (fun q1 H hP hD hS => ?_)
  have hP : va_P D mcl [(h0, .inr (0, [.int 0, .int 0, .null, .int 0, .int 0, .long 0])), (q1, .inl (cA 2, 8, .inl (fun _ => 0)))] H := hP
  have hD : va_D A [(h0, .inr (0, [.int 0, .int 0, .null, .int 0, .int 0, .long 0])), (q1, .inl (cA 2, 8, .inl (fun _ => 0)))] := hD
  refine va_putF (D := D) (ci := 0) (v := .ref q1) (ty := tyX0 2) (C := RX0) (T := TX0) (N := 6) hx hb hts (mcl_in (ci := 0) rfl) tyX0 tyX0_ok nmX0 hown hK hP hD hS 0 rfl rfl 2 (by decide) (hts _ (mg_2 23 (by decide +kernel) (by decide +kernel))) (fun _ h9 => h9) rfl hin rfl (tyX0_ok 2 (by decide)) rfl rfl (Nat.le_of_ble_eq_true rfl) dX0_init_9 (fun H locs hP hD hS => ?_)
  have hP : va_P D mcl [(h0, .inr (0, [.int 0, .int 0, .ref q1, .int 0, .int 0, .long 0])), (q1, .inl (cA 2, 8, .inl (fun _ => 0)))] H := hP
  have hD : va_D A [(h0, .inr (0, [.int 0, .int 0, .ref q1, .int 0, .int 0, .long 0])), (q1, .inl (cA 2, 8, .inl (fun _ => 0)))] := hD
  refine lv_aload_n hx hb dX0_init_12 rfl (lv_at hl 0 rfl) ?_
  refine lv_lconst (v := 1) hx hb dX0_init_13 (by decide) ?_
  refine va_put (D := D) (ci := 0) (v := .long 1) (ty := tyX0 5) (C := RX0) (T := TX0) (N := 6) hx hb hts (mcl_in (ci := 0) rfl) tyX0 tyX0_ok nmX0 hown hK hP hD hS 0 rfl rfl 5 (by decide) (hts _ (mg_2 27 (by decide +kernel) (by decide +kernel))) (fun _ h9 => h9) rfl (tyX0_ok 5 (by decide)) rfl rfl (Nat.le_of_ble_eq_true rfl) dX0_init_14 (fun H locs hP hD hS => ?_)
  have hP : va_P D mcl [(h0, .inr (0, [.int 0, .int 0, .ref q1, .int 0, .int 0, .long 1])), (q1, .inl (cA 2, 8, .inl (fun _ => 0)))] H := hP
  have hD : va_D A [(h0, .inr (0, [.int 0, .int 0, .ref q1, .int 0, .int 0, .long 1])), (q1, .inl (cA 2, 8, .inl (fun _ => 0)))] := hD
  refine W.widen (k := 1) (n := 8) (Nat.le_of_ble_eq_true rfl) (Nat.le_of_ble_eq_true rfl) ?_
  exact W.vret hx hb hr (fun t ht hW => ⟨⟨(), rfl, trivial, fun j => [h0, q1].getD j 0, by rw [ht]; exact hP, va_K.moved hW.alike hK, hD⟩, hS.F ht⟩) hS.2.2 dX0_init_17

abbrev mX1_init : MI := (yX1_init, cX1_init, 1, none)
theorem ok_X1_init : okNw mX1_init 0 := ⟨⟨mg_1 115 (by decide +kernel) (by decide +kernel), by decide +kernel, by decide, mg_1 4 (by decide +kernel) (by decide +kernel)⟩, ⟨by decide +kernel, by decide +kernel, by decide +kernel⟩, mg_1 114 (by decide +kernel) (by decide +kernel), rfl, rfl⟩
abbrev wX1 (cA : Nat → ClassId) (h0 : Nat) (a : Nat → Nat) : va_W := [(h0, .inr (1, [.int 0, .ref (a 1), .ref (a 2), .ref (a 3), .int 0])), ((a 1), .inl (cA 0, 12, .inl (fun _ => 0))), ((a 2), .inl (cA 0, 12, .inl (fun _ => 0))), ((a 3), .inl (cA 0, 400, .inl (fun _ => 0)))]
set_option maxHeartbeats 4000000 in
set_option maxRecDepth 100000 in
theorem c_X1_init (l : Launch) (D : va_G) (cA : Nat → ClassId) (h0 : Nat) : cN l D cA mX1_init [(h0, .inr (1, [.int 0, .null, .null, .null, .int 0]))] (wX1 cA h0) [.ref h0] { frames := 1, cells := 3, slots := 424, locals := 20 } 3 424 := by
  intro sz
  refine Met.ofW (cc := cX1_init) (maxL := 1) (ret := none) (by decide +kernel) rfl ?_
  intro p e s m args below meth c s₁ B hml hv
  obtain ⟨rfl, hsz, hP, hK, hD0, hE⟩ := hv
  have hx := B.exec
  have hb := B.bytes
  have hr := B.returns
  have hts0 := atoms_spec (ws := mw mX1_init) B.pre
  have hts : ∀ w ∈ mG, w.before _ s = true := fun w hw => hts0 w (List.mem_cons_of_mem _ hw)
  have hown : s.vm.findClass RX1 = some m.cls := findClass_of_methodNamed B.named
  have hin : meth.name = "<init>" := (name_of_methodNamed B.named B.method).1
  subst hsz
  have hD := hD0.self (sz := s.heap.size)
  generalize hAe : va_A [(h0, .inr (1, [.int 0, .null, .null, .null, .int 0]))] s.heap.size = A at hD ⊢
  have hA : ∀ q : Nat, s.heap.size ≤ q → A q := fun q h => by rw [← hAe]; exact Or.inr h
  have hS : va_S A s.heap s.heap [] := va_S.rf
  have hl := lv_entry ([.ref h0]) (n := 1) (Nat.le_of_ble_eq_true rfl)
  rw [lg_entry_eq]
  generalize (lg_sl ([.ref h0]) ++ List.replicate (1 - (lg_sl ([.ref h0])).length) Slot.unset).toArray = ls at hl ⊢
  have hl : lv_has ls 1 [(0, .ref h0)] := hl
  refine lv_aload_n hx hb dX1_init_0 rfl (lv_at hl 0 rfl) ?_
  refine W.objInit hx hb hown (hts _ (mg_1 116 (by decide +kernel) (by decide +kernel))) (hts _ (mg_1 27 (by decide +kernel) (by decide +kernel))) (hts _ (mg_1 28 (by decide +kernel) (by decide +kernel))) rfl (by rw [hml]; exact hl.1) rfl dX1_init_1 (Nat.le_of_ble_eq_true rfl) (Nat.le_of_ble_eq_true rfl) ?_
  refine W.eq (g2 := F0 m 4 ls []) rfl ?_
  refine lv_aload_n hx hb dX1_init_4 rfl (lv_at hl 0 rfl) ?_
  refine lv_bipush (v := 12) hx hb dX1_init_5 (by decide) ?_
  refine na_I hx hb hts hK hP hD hS hA 12 (by decide) (by decide) (Nat.le_of_ble_eq_true rfl) (Nat.le_of_ble_eq_true rfl) (Nat.le_of_ble_eq_true rfl) dX1_init_7 (fun q1 H hP hD hS => ?_)
  have hP : va_P D mcl [(h0, .inr (1, [.int 0, .null, .null, .null, .int 0])), (q1, .inl (cA 0, 12, .inl (fun _ => 0)))] H := hP
  have hD : va_D A [(h0, .inr (1, [.int 0, .null, .null, .null, .int 0])), (q1, .inl (cA 0, 12, .inl (fun _ => 0)))] := hD
  refine va_putF (D := D) (ci := 1) (v := .ref q1) (ty := tyX1 1) (C := RX1) (T := TX1) (N := 5) hx hb hts (mcl_in (ci := 1) rfl) tyX1 tyX1_ok nmX1 hown hK hP hD hS 0 rfl rfl 1 (by decide) (hts _ (mg_1 121 (by decide +kernel) (by decide +kernel))) (fun _ h9 => h9) rfl hin rfl (tyX1_ok 1 (by decide)) rfl rfl (Nat.le_of_ble_eq_true rfl) dX1_init_9 (fun H locs hP hD hS => ?_)
  have hP : va_P D mcl [(h0, .inr (1, [.int 0, .ref q1, .null, .null, .int 0])), (q1, .inl (cA 0, 12, .inl (fun _ => 0)))] H := hP
  have hD : va_D A [(h0, .inr (1, [.int 0, .ref q1, .null, .null, .int 0])), (q1, .inl (cA 0, 12, .inl (fun _ => 0)))] := hD
  refine lv_aload_n hx hb dX1_init_12 rfl (lv_at hl 0 rfl) ?_
  refine lv_bipush (v := 12) hx hb dX1_init_13 (by decide) ?_
  refine na_I hx hb hts hK hP hD hS hA 12 (by decide) (by decide) (Nat.le_of_ble_eq_true rfl) (Nat.le_of_ble_eq_true rfl) (Nat.le_of_ble_eq_true rfl) dX1_init_15 (fun q2 H hP hD hS => ?_)
  have hP : va_P D mcl [(h0, .inr (1, [.int 0, .ref q1, .null, .null, .int 0])), (q1, .inl (cA 0, 12, .inl (fun _ => 0))), (q2, .inl (cA 0, 12, .inl (fun _ => 0)))] H := hP
  have hD : va_D A [(h0, .inr (1, [.int 0, .ref q1, .null, .null, .int 0])), (q1, .inl (cA 0, 12, .inl (fun _ => 0))), (q2, .inl (cA 0, 12, .inl (fun _ => 0)))] := hD
  refine va_putF (D := D) (ci := 1) (v := .ref q2) (ty := tyX1 2) (C := RX1) (T := TX1) (N := 5) hx hb hts (mcl_in (ci := 1) rfl) tyX1 tyX1_ok nmX1 hown hK hP hD hS 0 rfl rfl 2 (by decide) (hts _ (mg_1 123 (by decide +kernel) (by decide +kernel))) (fun _ h9 => h9) rfl hin rfl (tyX1_ok 2 (by decide)) rfl rfl (Nat.le_of_ble_eq_true rfl) dX1_init_17 (fun H locs hP hD hS => ?_)
  have hP : va_P D mcl [(h0, .inr (1, [.int 0, .ref q1, .ref q2, .null, .int 0])), (q1, .inl (cA 0, 12, .inl (fun _ => 0))), (q2, .inl (cA 0, 12, .inl (fun _ => 0)))] H := hP
  have hD : va_D A [(h0, .inr (1, [.int 0, .ref q1, .ref q2, .null, .int 0])), (q1, .inl (cA 0, 12, .inl (fun _ => 0))), (q2, .inl (cA 0, 12, .inl (fun _ => 0)))] := hD
  refine lv_aload_n hx hb dX1_init_20 rfl (lv_at hl 0 rfl) ?_
  refine lv_sipush (v := 400) hx hb dX1_init_21 (by decide) ?_
  refine na_I hx hb hts hK hP hD hS hA 400 (by decide) (by decide) (Nat.le_of_ble_eq_true rfl) (Nat.le_of_ble_eq_true rfl) (Nat.le_of_ble_eq_true rfl) dX1_init_24 (fun q3 H hP hD hS => ?_)
  have hP : va_P D mcl [(h0, .inr (1, [.int 0, .ref q1, .ref q2, .null, .int 0])), (q1, .inl (cA 0, 12, .inl (fun _ => 0))), (q2, .inl (cA 0, 12, .inl (fun _ => 0))), (q3, .inl (cA 0, 400, .inl (fun _ => 0)))] H := hP
  have hD : va_D A [(h0, .inr (1, [.int 0, .ref q1, .ref q2, .null, .int 0])), (q1, .inl (cA 0, 12, .inl (fun _ => 0))), (q2, .inl (cA 0, 12, .inl (fun _ => 0))), (q3, .inl (cA 0, 400, .inl (fun _ => 0)))] := hD
  refine va_putF (D := D) (ci := 1) (v := .ref q3) (ty := tyX1 3) (C := RX1) (T := TX1) (N := 5) hx hb hts (mcl_in (ci := 1) rfl) tyX1 tyX1_ok nmX1 hown hK hP hD hS 0 rfl rfl 3 (by decide) (hts _ (mg_1 125 (by decide +kernel) (by decide +kernel))) (fun _ h9 => h9) rfl hin rfl (tyX1_ok 3 (by decide)) rfl rfl (Nat.le_of_ble_eq_true rfl) dX1_init_26 (fun H locs hP hD hS => ?_)
  have hP : va_P D mcl [(h0, .inr (1, [.int 0, .ref q1, .ref q2, .ref q3, .int 0])), (q1, .inl (cA 0, 12, .inl (fun _ => 0))), (q2, .inl (cA 0, 12, .inl (fun _ => 0))), (q3, .inl (cA 0, 400, .inl (fun _ => 0)))] H := hP
  have hD : va_D A [(h0, .inr (1, [.int 0, .ref q1, .ref q2, .ref q3, .int 0])), (q1, .inl (cA 0, 12, .inl (fun _ => 0))), (q2, .inl (cA 0, 12, .inl (fun _ => 0))), (q3, .inl (cA 0, 400, .inl (fun _ => 0)))] := hD
  refine W.widen (k := 3) (n := 424) (Nat.le_of_ble_eq_true rfl) (Nat.le_of_ble_eq_true rfl) ?_
  exact W.vret hx hb hr (fun t ht hW => ⟨⟨(), rfl, trivial, fun j => [h0, q1, q2, q3].getD j 0, by rw [ht]; exact hP, va_K.moved hW.alike hK, hD⟩, hS.F ht⟩) hS.2.2 dX1_init_29

abbrev mX2_init : MI := (yX2_init, cX2_init, 1, none)
theorem ok_X2_init : okNw mX2_init 0 := ⟨⟨mg_1 191 (by decide +kernel) (by decide +kernel), by decide +kernel, by decide, mg_1 6 (by decide +kernel) (by decide +kernel)⟩, ⟨by decide +kernel, by decide +kernel, by decide +kernel⟩, mg_1 190 (by decide +kernel) (by decide +kernel), rfl, rfl⟩
abbrev wX2 (cA : Nat → ClassId) (h0 : Nat) (a : Nat → Nat) : va_W := [(h0, .inr (2, [.int 0, .ref (a 1), .ref (a 2), .ref (a 3), .ref (a 4), .ref (a 5), .ref (a 6), .ref (a 7), .ref (a 8)])), ((a 1), .inl (cA 0, 12, .inl (fun _ => 0))), ((a 2), .inl (cA 0, 12, .inl (fun _ => 0))), ((a 3), .inl (cA 0, 12, .inl (fun _ => 0))), ((a 4), .inl (cA 0, 12, .inl (fun _ => 0))), ((a 5), .inl (cA 0, 12, .inl (fun _ => 0))), ((a 6), .inl (cA 0, 12, .inl (fun _ => 0))), ((a 7), .inl (cA 0, 4, .inl (upd (upd (upd (upd (fun _ => 0) 0 1) 1 1) 2 1) 3 1))), ((a 8), .inl (cA 0, 4, .inl (upd (upd (upd (upd (fun _ => 0) 0 100) 1 100) 2 100) 3 100)))]
set_option maxHeartbeats 4000000 in
set_option maxRecDepth 100000 in
theorem c_X2_init (l : Launch) (D : va_G) (cA : Nat → ClassId) (h0 : Nat) : cN l D cA mX2_init [(h0, .inr (2, [.int 0, .null, .null, .null, .null, .null, .null, .null, .null]))] (wX2 cA h0) [.ref h0] { frames := 1, cells := 8, slots := 80, locals := 20 } 8 80 := by
  intro sz
  refine Met.ofW (cc := cX2_init) (maxL := 1) (ret := none) (by decide +kernel) rfl ?_
  intro p e s m args below meth c s₁ B hml hv
  obtain ⟨rfl, hsz, hP, hK, hD0, hE⟩ := hv
  have hx := B.exec
  have hb := B.bytes
  have hr := B.returns
  have hts0 := atoms_spec (ws := mw mX2_init) B.pre
  have hts : ∀ w ∈ mG, w.before _ s = true := fun w hw => hts0 w (List.mem_cons_of_mem _ hw)
  have hown : s.vm.findClass RX2 = some m.cls := findClass_of_methodNamed B.named
  have hin : meth.name = "<init>" := (name_of_methodNamed B.named B.method).1
  subst hsz
  have hD := hD0.self (sz := s.heap.size)
  generalize hAe : va_A [(h0, .inr (2, [.int 0, .null, .null, .null, .null, .null, .null, .null, .null]))] s.heap.size = A at hD ⊢
  have hA : ∀ q : Nat, s.heap.size ≤ q → A q := fun q h => by rw [← hAe]; exact Or.inr h
  have hS : va_S A s.heap s.heap [] := va_S.rf
  have hl := lv_entry ([.ref h0]) (n := 1) (Nat.le_of_ble_eq_true rfl)
  rw [lg_entry_eq]
  generalize (lg_sl ([.ref h0]) ++ List.replicate (1 - (lg_sl ([.ref h0])).length) Slot.unset).toArray = ls at hl ⊢
  have hl : lv_has ls 1 [(0, .ref h0)] := hl
  refine lv_aload_n hx hb dX2_init_0 rfl (lv_at hl 0 rfl) ?_
  refine W.objInit hx hb hown (hts _ (mg_1 192 (by decide +kernel) (by decide +kernel))) (hts _ (mg_1 27 (by decide +kernel) (by decide +kernel))) (hts _ (mg_1 28 (by decide +kernel) (by decide +kernel))) rfl (by rw [hml]; exact hl.1) rfl dX2_init_1 (Nat.le_of_ble_eq_true rfl) (Nat.le_of_ble_eq_true rfl) ?_
  refine W.eq (g2 := F0 m 4 ls []) rfl ?_
  refine lv_aload_n hx hb dX2_init_4 rfl (lv_at hl 0 rfl) ?_
  refine lv_bipush (v := 12) hx hb dX2_init_5 (by decide) ?_
  refine na_I hx hb hts hK hP hD hS hA 12 (by decide) (by decide) (Nat.le_of_ble_eq_true rfl) (Nat.le_of_ble_eq_true rfl) (Nat.le_of_ble_eq_true rfl) dX2_init_7 (fun q1 H hP hD hS => ?_)
  have hP : va_P D mcl [(h0, .inr (2, [.int 0, .null, .null, .null, .null, .null, .null, .null, .null])), (q1, .inl (cA 0, 12, .inl (fun _ => 0)))] H := hP
  have hD : va_D A [(h0, .inr (2, [.int 0, .null, .null, .null, .null, .null, .null, .null, .null])), (q1, .inl (cA 0, 12, .inl (fun _ => 0)))] := hD
  refine va_putF (D := D) (ci := 2) (v := .ref q1) (ty := tyX2 1) (C := RX2) (T := TX2) (N := 9) hx hb hts (mcl_in (ci := 2) rfl) tyX2 tyX2_ok nmX2 hown hK hP hD hS 0 rfl rfl 1 (by decide) (hts _ (mg_1 196 (by decide +kernel) (by decide +kernel))) (fun _ h9 => h9) rfl hin rfl (tyX2_ok 1 (by decide)) rfl rfl (Nat.le_of_ble_eq_true rfl) dX2_init_9 (fun H locs hP hD hS => ?_)
  have hP : va_P D mcl [(h0, .inr (2, [.int 0, .ref q1, .null, .null, .null, .null, .null, .null, .null])), (q1, .inl (cA 0, 12, .inl (fun _ => 0)))] H := hP
  have hD : va_D A [(h0, .inr (2, [.int 0, .ref q1, .null, .null, .null, .null, .null, .null, .null])), (q1, .inl (cA 0, 12, .inl (fun _ => 0)))] := hD
  refine lv_aload_n hx hb dX2_init_12 rfl (lv_at hl 0 rfl) ?_
  refine lv_bipush (v := 12) hx hb dX2_init_13 (by decide) ?_
  refine na_I hx hb hts hK hP hD hS hA 12 (by decide) (by decide) (Nat.le_of_ble_eq_true rfl) (Nat.le_of_ble_eq_true rfl) (Nat.le_of_ble_eq_true rfl) dX2_init_15 (fun q2 H hP hD hS => ?_)
  have hP : va_P D mcl [(h0, .inr (2, [.int 0, .ref q1, .null, .null, .null, .null, .null, .null, .null])), (q1, .inl (cA 0, 12, .inl (fun _ => 0))), (q2, .inl (cA 0, 12, .inl (fun _ => 0)))] H := hP
  have hD : va_D A [(h0, .inr (2, [.int 0, .ref q1, .null, .null, .null, .null, .null, .null, .null])), (q1, .inl (cA 0, 12, .inl (fun _ => 0))), (q2, .inl (cA 0, 12, .inl (fun _ => 0)))] := hD
  refine va_putF (D := D) (ci := 2) (v := .ref q2) (ty := tyX2 2) (C := RX2) (T := TX2) (N := 9) hx hb hts (mcl_in (ci := 2) rfl) tyX2 tyX2_ok nmX2 hown hK hP hD hS 0 rfl rfl 2 (by decide) (hts _ (mg_1 198 (by decide +kernel) (by decide +kernel))) (fun _ h9 => h9) rfl hin rfl (tyX2_ok 2 (by decide)) rfl rfl (Nat.le_of_ble_eq_true rfl) dX2_init_17 (fun H locs hP hD hS => ?_)
  have hP : va_P D mcl [(h0, .inr (2, [.int 0, .ref q1, .ref q2, .null, .null, .null, .null, .null, .null])), (q1, .inl (cA 0, 12, .inl (fun _ => 0))), (q2, .inl (cA 0, 12, .inl (fun _ => 0)))] H := hP
  have hD : va_D A [(h0, .inr (2, [.int 0, .ref q1, .ref q2, .null, .null, .null, .null, .null, .null])), (q1, .inl (cA 0, 12, .inl (fun _ => 0))), (q2, .inl (cA 0, 12, .inl (fun _ => 0)))] := hD
  refine lv_aload_n hx hb dX2_init_20 rfl (lv_at hl 0 rfl) ?_
  refine lv_bipush (v := 12) hx hb dX2_init_21 (by decide) ?_
  refine na_I hx hb hts hK hP hD hS hA 12 (by decide) (by decide) (Nat.le_of_ble_eq_true rfl) (Nat.le_of_ble_eq_true rfl) (Nat.le_of_ble_eq_true rfl) dX2_init_23 (fun q3 H hP hD hS => ?_)
  have hP : va_P D mcl [(h0, .inr (2, [.int 0, .ref q1, .ref q2, .null, .null, .null, .null, .null, .null])), (q1, .inl (cA 0, 12, .inl (fun _ => 0))), (q2, .inl (cA 0, 12, .inl (fun _ => 0))), (q3, .inl (cA 0, 12, .inl (fun _ => 0)))] H := hP
  have hD : va_D A [(h0, .inr (2, [.int 0, .ref q1, .ref q2, .null, .null, .null, .null, .null, .null])), (q1, .inl (cA 0, 12, .inl (fun _ => 0))), (q2, .inl (cA 0, 12, .inl (fun _ => 0))), (q3, .inl (cA 0, 12, .inl (fun _ => 0)))] := hD
  refine va_putF (D := D) (ci := 2) (v := .ref q3) (ty := tyX2 3) (C := RX2) (T := TX2) (N := 9) hx hb hts (mcl_in (ci := 2) rfl) tyX2 tyX2_ok nmX2 hown hK hP hD hS 0 rfl rfl 3 (by decide) (hts _ (mg_1 200 (by decide +kernel) (by decide +kernel))) (fun _ h9 => h9) rfl hin rfl (tyX2_ok 3 (by decide)) rfl rfl (Nat.le_of_ble_eq_true rfl) dX2_init_25 (fun H locs hP hD hS => ?_)
  have hP : va_P D mcl [(h0, .inr (2, [.int 0, .ref q1, .ref q2, .ref q3, .null, .null, .null, .null, .null])), (q1, .inl (cA 0, 12, .inl (fun _ => 0))), (q2, .inl (cA 0, 12, .inl (fun _ => 0))), (q3, .inl (cA 0, 12, .inl (fun _ => 0)))] H := hP
  have hD : va_D A [(h0, .inr (2, [.int 0, .ref q1, .ref q2, .ref q3, .null, .null, .null, .null, .null])), (q1, .inl (cA 0, 12, .inl (fun _ => 0))), (q2, .inl (cA 0, 12, .inl (fun _ => 0))), (q3, .inl (cA 0, 12, .inl (fun _ => 0)))] := hD
  refine lv_aload_n hx hb dX2_init_28 rfl (lv_at hl 0 rfl) ?_
  refine lv_bipush (v := 12) hx hb dX2_init_29 (by decide) ?_
  refine na_I hx hb hts hK hP hD hS hA 12 (by decide) (by decide) (Nat.le_of_ble_eq_true rfl) (Nat.le_of_ble_eq_true rfl) (Nat.le_of_ble_eq_true rfl) dX2_init_31 (fun q4 H hP hD hS => ?_)
  have hP : va_P D mcl [(h0, .inr (2, [.int 0, .ref q1, .ref q2, .ref q3, .null, .null, .null, .null, .null])), (q1, .inl (cA 0, 12, .inl (fun _ => 0))), (q2, .inl (cA 0, 12, .inl (fun _ => 0))), (q3, .inl (cA 0, 12, .inl (fun _ => 0))), (q4, .inl (cA 0, 12, .inl (fun _ => 0)))] H := hP
  have hD : va_D A [(h0, .inr (2, [.int 0, .ref q1, .ref q2, .ref q3, .null, .null, .null, .null, .null])), (q1, .inl (cA 0, 12, .inl (fun _ => 0))), (q2, .inl (cA 0, 12, .inl (fun _ => 0))), (q3, .inl (cA 0, 12, .inl (fun _ => 0))), (q4, .inl (cA 0, 12, .inl (fun _ => 0)))] := hD
  refine va_putF (D := D) (ci := 2) (v := .ref q4) (ty := tyX2 4) (C := RX2) (T := TX2) (N := 9) hx hb hts (mcl_in (ci := 2) rfl) tyX2 tyX2_ok nmX2 hown hK hP hD hS 0 rfl rfl 4 (by decide) (hts _ (mg_1 202 (by decide +kernel) (by decide +kernel))) (fun _ h9 => h9) rfl hin rfl (tyX2_ok 4 (by decide)) rfl rfl (Nat.le_of_ble_eq_true rfl) dX2_init_33 (fun H locs hP hD hS => ?_)
  have hP : va_P D mcl [(h0, .inr (2, [.int 0, .ref q1, .ref q2, .ref q3, .ref q4, .null, .null, .null, .null])), (q1, .inl (cA 0, 12, .inl (fun _ => 0))), (q2, .inl (cA 0, 12, .inl (fun _ => 0))), (q3, .inl (cA 0, 12, .inl (fun _ => 0))), (q4, .inl (cA 0, 12, .inl (fun _ => 0)))] H := hP
  have hD : va_D A [(h0, .inr (2, [.int 0, .ref q1, .ref q2, .ref q3, .ref q4, .null, .null, .null, .null])), (q1, .inl (cA 0, 12, .inl (fun _ => 0))), (q2, .inl (cA 0, 12, .inl (fun _ => 0))), (q3, .inl (cA 0, 12, .inl (fun _ => 0))), (q4, .inl (cA 0, 12, .inl (fun _ => 0)))] := hD
  refine lv_aload_n hx hb dX2_init_36 rfl (lv_at hl 0 rfl) ?_
  refine lv_bipush (v := 12) hx hb dX2_init_37 (by decide) ?_
  refine na_I hx hb hts hK hP hD hS hA 12 (by decide) (by decide) (Nat.le_of_ble_eq_true rfl) (Nat.le_of_ble_eq_true rfl) (Nat.le_of_ble_eq_true rfl) dX2_init_39 (fun q5 H hP hD hS => ?_)
  have hP : va_P D mcl [(h0, .inr (2, [.int 0, .ref q1, .ref q2, .ref q3, .ref q4, .null, .null, .null, .null])), (q1, .inl (cA 0, 12, .inl (fun _ => 0))), (q2, .inl (cA 0, 12, .inl (fun _ => 0))), (q3, .inl (cA 0, 12, .inl (fun _ => 0))), (q4, .inl (cA 0, 12, .inl (fun _ => 0))), (q5, .inl (cA 0, 12, .inl (fun _ => 0)))] H := hP
  have hD : va_D A [(h0, .inr (2, [.int 0, .ref q1, .ref q2, .ref q3, .ref q4, .null, .null, .null, .null])), (q1, .inl (cA 0, 12, .inl (fun _ => 0))), (q2, .inl (cA 0, 12, .inl (fun _ => 0))), (q3, .inl (cA 0, 12, .inl (fun _ => 0))), (q4, .inl (cA 0, 12, .inl (fun _ => 0))), (q5, .inl (cA 0, 12, .inl (fun _ => 0)))] := hD
  refine va_putF (D := D) (ci := 2) (v := .ref q5) (ty := tyX2 5) (C := RX2) (T := TX2) (N := 9) hx hb hts (mcl_in (ci := 2) rfl) tyX2 tyX2_ok nmX2 hown hK hP hD hS 0 rfl rfl 5 (by decide) (hts _ (mg_1 204 (by decide +kernel) (by decide +kernel))) (fun _ h9 => h9) rfl hin rfl (tyX2_ok 5 (by decide)) rfl rfl (Nat.le_of_ble_eq_true rfl) dX2_init_41 (fun H locs hP hD hS => ?_)
  have hP : va_P D mcl [(h0, .inr (2, [.int 0, .ref q1, .ref q2, .ref q3, .ref q4, .ref q5, .null, .null, .null])), (q1, .inl (cA 0, 12, .inl (fun _ => 0))), (q2, .inl (cA 0, 12, .inl (fun _ => 0))), (q3, .inl (cA 0, 12, .inl (fun _ => 0))), (q4, .inl (cA 0, 12, .inl (fun _ => 0))), (q5, .inl (cA 0, 12, .inl (fun _ => 0)))] H := hP
  have hD : va_D A [(h0, .inr (2, [.int 0, .ref q1, .ref q2, .ref q3, .ref q4, .ref q5, .null, .null, .null])), (q1, .inl (cA 0, 12, .inl (fun _ => 0))), (q2, .inl (cA 0, 12, .inl (fun _ => 0))), (q3, .inl (cA 0, 12, .inl (fun _ => 0))), (q4, .inl (cA 0, 12, .inl (fun _ => 0))), (q5, .inl (cA 0, 12, .inl (fun _ => 0)))] := hD
  refine lv_aload_n hx hb dX2_init_44 rfl (lv_at hl 0 rfl) ?_
  refine lv_bipush (v := 12) hx hb dX2_init_45 (by decide) ?_
  refine na_I hx hb hts hK hP hD hS hA 12 (by decide) (by decide) (Nat.le_of_ble_eq_true rfl) (Nat.le_of_ble_eq_true rfl) (Nat.le_of_ble_eq_true rfl) dX2_init_47 (fun q6 H hP hD hS => ?_)
  have hP : va_P D mcl [(h0, .inr (2, [.int 0, .ref q1, .ref q2, .ref q3, .ref q4, .ref q5, .null, .null, .null])), (q1, .inl (cA 0, 12, .inl (fun _ => 0))), (q2, .inl (cA 0, 12, .inl (fun _ => 0))), (q3, .inl (cA 0, 12, .inl (fun _ => 0))), (q4, .inl (cA 0, 12, .inl (fun _ => 0))), (q5, .inl (cA 0, 12, .inl (fun _ => 0))), (q6, .inl (cA 0, 12, .inl (fun _ => 0)))] H := hP
  have hD : va_D A [(h0, .inr (2, [.int 0, .ref q1, .ref q2, .ref q3, .ref q4, .ref q5, .null, .null, .null])), (q1, .inl (cA 0, 12, .inl (fun _ => 0))), (q2, .inl (cA 0, 12, .inl (fun _ => 0))), (q3, .inl (cA 0, 12, .inl (fun _ => 0))), (q4, .inl (cA 0, 12, .inl (fun _ => 0))), (q5, .inl (cA 0, 12, .inl (fun _ => 0))), (q6, .inl (cA 0, 12, .inl (fun _ => 0)))] := hD
  refine va_putF (D := D) (ci := 2) (v := .ref q6) (ty := tyX2 6) (C := RX2) (T := TX2) (N := 9) hx hb hts (mcl_in (ci := 2) rfl) tyX2 tyX2_ok nmX2 hown hK hP hD hS 0 rfl rfl 6 (by decide) (hts _ (mg_1 206 (by decide +kernel) (by decide +kernel))) (fun _ h9 => h9) rfl hin rfl (tyX2_ok 6 (by decide)) rfl rfl (Nat.le_of_ble_eq_true rfl) dX2_init_49 (fun H locs hP hD hS => ?_)
  have hP : va_P D mcl [(h0, .inr (2, [.int 0, .ref q1, .ref q2, .ref q3, .ref q4, .ref q5, .ref q6, .null, .null])), (q1, .inl (cA 0, 12, .inl (fun _ => 0))), (q2, .inl (cA 0, 12, .inl (fun _ => 0))), (q3, .inl (cA 0, 12, .inl (fun _ => 0))), (q4, .inl (cA 0, 12, .inl (fun _ => 0))), (q5, .inl (cA 0, 12, .inl (fun _ => 0))), (q6, .inl (cA 0, 12, .inl (fun _ => 0)))] H := hP
  have hD : va_D A [(h0, .inr (2, [.int 0, .ref q1, .ref q2, .ref q3, .ref q4, .ref q5, .ref q6, .null, .null])), (q1, .inl (cA 0, 12, .inl (fun _ => 0))), (q2, .inl (cA 0, 12, .inl (fun _ => 0))), (q3, .inl (cA 0, 12, .inl (fun _ => 0))), (q4, .inl (cA 0, 12, .inl (fun _ => 0))), (q5, .inl (cA 0, 12, .inl (fun _ => 0))), (q6, .inl (cA 0, 12, .inl (fun _ => 0)))] := hD
  refine lv_aload_n hx hb dX2_init_52 rfl (lv_at hl 0 rfl) ?_
  refine lv_iconst (v := 4) hx hb dX2_init_53 (by decide) ?_
  refine na_I hx hb hts hK hP hD hS hA 4 (by decide) (by decide) (Nat.le_of_ble_eq_true rfl) (Nat.le_of_ble_eq_true rfl) (Nat.le_of_ble_eq_true rfl) dX2_init_54 (fun q7 H hP hD hS => ?_)
  have hP : va_P D mcl [(h0, .inr (2, [.int 0, .ref q1, .ref q2, .ref q3, .ref q4, .ref q5, .ref q6, .null, .null])), (q1, .inl (cA 0, 12, .inl (fun _ => 0))), (q2, .inl (cA 0, 12, .inl (fun _ => 0))), (q3, .inl (cA 0, 12, .inl (fun _ => 0))), (q4, .inl (cA 0, 12, .inl (fun _ => 0))), (q5, .inl (cA 0, 12, .inl (fun _ => 0))), (q6, .inl (cA 0, 12, .inl (fun _ => 0))), (q7, .inl (cA 0, 4, .inl (fun _ => 0)))] H := hP
  have hD : va_D A [(h0, .inr (2, [.int 0, .ref q1, .ref q2, .ref q3, .ref q4, .ref q5, .ref q6, .null, .null])), (q1, .inl (cA 0, 12, .inl (fun _ => 0))), (q2, .inl (cA 0, 12, .inl (fun _ => 0))), (q3, .inl (cA 0, 12, .inl (fun _ => 0))), (q4, .inl (cA 0, 12, .inl (fun _ => 0))), (q5, .inl (cA 0, 12, .inl (fun _ => 0))), (q6, .inl (cA 0, 12, .inl (fun _ => 0))), (q7, .inl (cA 0, 4, .inl (fun _ => 0)))] := hD
  refine lv_dup hx hb dX2_init_56 rfl ?_
  refine lv_iconst (v := 0) hx hb dX2_init_57 (by decide) ?_
  refine lv_iconst (v := 1) hx hb dX2_init_58 (by decide) ?_
  refine va_iast hx hb hK hP hD hS 7 0 rfl rfl (by unfold vp_in; decide) dX2_init_59 (fun H locs hP hD hS => ?_)
  have hP : va_P D mcl [(h0, .inr (2, [.int 0, .ref q1, .ref q2, .ref q3, .ref q4, .ref q5, .ref q6, .null, .null])), (q1, .inl (cA 0, 12, .inl (fun _ => 0))), (q2, .inl (cA 0, 12, .inl (fun _ => 0))), (q3, .inl (cA 0, 12, .inl (fun _ => 0))), (q4, .inl (cA 0, 12, .inl (fun _ => 0))), (q5, .inl (cA 0, 12, .inl (fun _ => 0))), (q6, .inl (cA 0, 12, .inl (fun _ => 0))), (q7, .inl (cA 0, 4, .inl (upd (fun _ => 0) 0 1)))] H := hP
  have hD : va_D A [(h0, .inr (2, [.int 0, .ref q1, .ref q2, .ref q3, .ref q4, .ref q5, .ref q6, .null, .null])), (q1, .inl (cA 0, 12, .inl (fun _ => 0))), (q2, .inl (cA 0, 12, .inl (fun _ => 0))), (q3, .inl (cA 0, 12, .inl (fun _ => 0))), (q4, .inl (cA 0, 12, .inl (fun _ => 0))), (q5, .inl (cA 0, 12, .inl (fun _ => 0))), (q6, .inl (cA 0, 12, .inl (fun _ => 0))), (q7, .inl (cA 0, 4, .inl (upd (fun _ => 0) 0 1)))] := hD
  refine lv_dup hx hb dX2_init_60 rfl ?_
  refine lv_iconst (v := 1) hx hb dX2_init_61 (by decide) ?_
  refine lv_iconst (v := 1) hx hb dX2_init_62 (by decide) ?_
  refine va_iast hx hb hK hP hD hS 7 0 rfl rfl (by unfold vp_in; decide) dX2_init_63 (fun H locs hP hD hS => ?_)
  have hP : va_P D mcl [(h0, .inr (2, [.int 0, .ref q1, .ref q2, .ref q3, .ref q4, .ref q5, .ref q6, .null, .null])), (q1, .inl (cA 0, 12, .inl (fun _ => 0))), (q2, .inl (cA 0, 12, .inl (fun _ => 0))), (q3, .inl (cA 0, 12, .inl (fun _ => 0))), (q4, .inl (cA 0, 12, .inl (fun _ => 0))), (q5, .inl (cA 0, 12, .inl (fun _ => 0))), (q6, .inl (cA 0, 12, .inl (fun _ => 0))), (q7, .inl (cA 0, 4, .inl (upd (upd (fun _ => 0) 0 1) 1 1)))] H := hP
  have hD : va_D A [(h0, .inr (2, [.int 0, .ref q1, .ref q2, .ref q3, .ref q4, .ref q5, .ref q6, .null, .null])), (q1, .inl (cA 0, 12, .inl (fun _ => 0))), (q2, .inl (cA 0, 12, .inl (fun _ => 0))), (q3, .inl (cA 0, 12, .inl (fun _ => 0))), (q4, .inl (cA 0, 12, .inl (fun _ => 0))), (q5, .inl (cA 0, 12, .inl (fun _ => 0))), (q6, .inl (cA 0, 12, .inl (fun _ => 0))), (q7, .inl (cA 0, 4, .inl (upd (upd (fun _ => 0) 0 1) 1 1)))] := hD
  refine lv_dup hx hb dX2_init_64 rfl ?_
  refine lv_iconst (v := 2) hx hb dX2_init_65 (by decide) ?_
  refine lv_iconst (v := 1) hx hb dX2_init_66 (by decide) ?_
  refine va_iast hx hb hK hP hD hS 7 0 rfl rfl (by unfold vp_in; decide) dX2_init_67 (fun H locs hP hD hS => ?_)
  have hP : va_P D mcl [(h0, .inr (2, [.int 0, .ref q1, .ref q2, .ref q3, .ref q4, .ref q5, .ref q6, .null, .null])), (q1, .inl (cA 0, 12, .inl (fun _ => 0))), (q2, .inl (cA 0, 12, .inl (fun _ => 0))), (q3, .inl (cA 0, 12, .inl (fun _ => 0))), (q4, .inl (cA 0, 12, .inl (fun _ => 0))), (q5, .inl (cA 0, 12, .inl (fun _ => 0))), (q6, .inl (cA 0, 12, .inl (fun _ => 0))), (q7, .inl (cA 0, 4, .inl (upd (upd (upd (fun _ => 0) 0 1) 1 1) 2 1)))] H := hP
  have hD : va_D A [(h0, .inr (2, [.int 0, .ref q1, .ref q2, .ref q3, .ref q4, .ref q5, .ref q6, .null, .null])), (q1, .inl (cA 0, 12, .inl (fun _ => 0))), (q2, .inl (cA 0, 12, .inl (fun _ => 0))), (q3, .inl (cA 0, 12, .inl (fun _ => 0))), (q4, .inl (cA 0, 12, .inl (fun _ => 0))), (q5, .inl (cA 0, 12, .inl (fun _ => 0))), (q6, .inl (cA 0, 12, .inl (fun _ => 0))), (q7, .inl (cA 0, 4, .inl (upd (upd (upd (fun _ => 0) 0 1) 1 1) 2 1)))] := hD
  refine lv_dup hx hb dX2_init_68 rfl ?_
  refine lv_iconst (v := 3) hx hb dX2_init_69 (by decide) ?_
  refine lv_iconst (v := 1) hx hb dX2_init_70 (by decide) ?_
  refine va_iast hx hb hK hP hD hS 7 0 rfl rfl (by unfold vp_in; decide) dX2_init_71 (fun H locs hP hD hS => ?_)
  have hP : va_P D mcl [(h0, .inr (2, [.int 0, .ref q1, .ref q2, .ref q3, .ref q4, .ref q5, .ref q6, .null, .null])), (q1, .inl (cA 0, 12, .inl (fun _ => 0))), (q2, .inl (cA 0, 12, .inl (fun _ => 0))), (q3, .inl (cA 0, 12, .inl (fun _ => 0))), (q4, .inl (cA 0, 12, .inl (fun _ => 0))), (q5, .inl (cA 0, 12, .inl (fun _ => 0))), (q6, .inl (cA 0, 12, .inl (fun _ => 0))), (q7, .inl (cA 0, 4, .inl (upd (upd (upd (upd (fun _ => 0) 0 1) 1 1) 2 1) 3 1)))] H := hP
  have hD : va_D A [(h0, .inr (2, [.int 0, .ref q1, .ref q2, .ref q3, .ref q4, .ref q5, .ref q6, .null, .null])), (q1, .inl (cA 0, 12, .inl (fun _ => 0))), (q2, .inl (cA 0, 12, .inl (fun _ => 0))), (q3, .inl (cA 0, 12, .inl (fun _ => 0))), (q4, .inl (cA 0, 12, .inl (fun _ => 0))), (q5, .inl (cA 0, 12, .inl (fun _ => 0))), (q6, .inl (cA 0, 12, .inl (fun _ => 0))), (q7, .inl (cA 0, 4, .inl (upd (upd (upd (upd (fun _ => 0) 0 1) 1 1) 2 1) 3 1)))] := hD
  refine va_putF (D := D) (ci := 2) (v := .ref q7) (ty := tyX2 7) (C := RX2) (T := TX2) (N := 9) hx hb hts (mcl_in (ci := 2) rfl) tyX2 tyX2_ok nmX2 hown hK hP hD hS 0 rfl rfl 7 (by decide) (hts _ (mg_1 208 (by decide +kernel) (by decide +kernel))) (fun _ h9 => h9) rfl hin rfl (tyX2_ok 7 (by decide)) rfl rfl (Nat.le_of_ble_eq_true rfl) dX2_init_72 (fun H locs hP hD hS => ?_)
  have hP : va_P D mcl [(h0, .inr (2, [.int 0, .ref q1, .ref q2, .ref q3, .ref q4, .ref q5, .ref q6, .ref q7, .null])), (q1, .inl (cA 0, 12, .inl (fun _ => 0))), (q2, .inl (cA 0, 12, .inl (fun _ => 0))), (q3, .inl (cA 0, 12, .inl (fun _ => 0))), (q4, .inl (cA 0, 12, .inl (fun _ => 0))), (q5, .inl (cA 0, 12, .inl (fun _ => 0))), (q6, .inl (cA 0, 12, .inl (fun _ => 0))), (q7, .inl (cA 0, 4, .inl (upd (upd (upd (upd (fun _ => 0) 0 1) 1 1) 2 1) 3 1)))] H := hP
  have hD : va_D A [(h0, .inr (2, [.int 0, .ref q1, .ref q2, .ref q3, .ref q4, .ref q5, .ref q6, .ref q7, .null])), (q1, .inl (cA 0, 12, .inl (fun _ => 0))), (q2, .inl (cA 0, 12, .inl (fun _ => 0))), (q3, .inl (cA 0, 12, .inl (fun _ => 0))), (q4, .inl (cA 0, 12, .inl (fun _ => 0))), (q5, .inl (cA 0, 12, .inl (fun _ => 0))), (q6, .inl (cA 0, 12, .inl (fun _ => 0))), (q7, .inl (cA 0, 4, .inl (upd (upd (upd (upd (fun _ => 0) 0 1) 1 1) 2 1) 3 1)))] := hD
  refine lv_aload_n hx hb dX2_init_75 rfl (lv_at hl 0 rfl) ?_
  refine lv_iconst (v := 4) hx hb dX2_init_76 (by decide) ?_
  refine na_I hx hb hts hK hP hD hS hA 4 (by decide) (by decide) (Nat.le_of_ble_eq_true rfl) (Nat.le_of_ble_eq_true rfl) (Nat.le_of_ble_eq_true rfl) dX2_init_77 (fun q8 H hP hD hS => ?_)
  have hP : va_P D mcl [(h0, .inr (2, [.int 0, .ref q1, .ref q2, .ref q3, .ref q4, .ref q5, .ref q6, .ref q7, .null])), (q1, .inl (cA 0, 12, .inl (fun _ => 0))), (q2, .inl (cA 0, 12, .inl (fun _ => 0))), (q3, .inl (cA 0, 12, .inl (fun _ => 0))), (q4, .inl (cA 0, 12, .inl (fun _ => 0))), (q5, .inl (cA 0, 12, .inl (fun _ => 0))), (q6, .inl (cA 0, 12, .inl (fun _ => 0))), (q7, .inl (cA 0, 4, .inl (upd (upd (upd (upd (fun _ => 0) 0 1) 1 1) 2 1) 3 1))), (q8, .inl (cA 0, 4, .inl (fun _ => 0)))] H := hP
  have hD : va_D A [(h0, .inr (2, [.int 0, .ref q1, .ref q2, .ref q3, .ref q4, .ref q5, .ref q6, .ref q7, .null])), (q1, .inl (cA 0, 12, .inl (fun _ => 0))), (q2, .inl (cA 0, 12, .inl (fun _ => 0))), (q3, .inl (cA 0, 12, .inl (fun _ => 0))), (q4, .inl (cA 0, 12, .inl (fun _ => 0))), (q5, .inl (cA 0, 12, .inl (fun _ => 0))), (q6, .inl (cA 0, 12, .inl (fun _ => 0))), (q7, .inl (cA 0, 4, .inl (upd (upd (upd (upd (fun _ => 0) 0 1) 1 1) 2 1) 3 1))), (q8, .inl (cA 0, 4, .inl (fun _ => 0)))] := hD
  refine lv_dup hx hb dX2_init_79 rfl ?_
  refine lv_iconst (v := 0) hx hb dX2_init_80 (by decide) ?_
  refine lv_bipush (v := 100) hx hb dX2_init_81 (by decide) ?_
  refine va_iast hx hb hK hP hD hS 8 0 rfl rfl (by unfold vp_in; decide) dX2_init_83 (fun H locs hP hD hS => ?_)
  have hP : va_P D mcl [(h0, .inr (2, [.int 0, .ref q1, .ref q2, .ref q3, .ref q4, .ref q5, .ref q6, .ref q7, .null])), (q1, .inl (cA 0, 12, .inl (fun _ => 0))), (q2, .inl (cA 0, 12, .inl (fun _ => 0))), (q3, .inl (cA 0, 12, .inl (fun _ => 0))), (q4, .inl (cA 0, 12, .inl (fun _ => 0))), (q5, .inl (cA 0, 12, .inl (fun _ => 0))), (q6, .inl (cA 0, 12, .inl (fun _ => 0))), (q7, .inl (cA 0, 4, .inl (upd (upd (upd (upd (fun _ => 0) 0 1) 1 1) 2 1) 3 1))), (q8, .inl (cA 0, 4, .inl (upd (fun _ => 0) 0 100)))] H := hP
  have hD : va_D A [(h0, .inr (2, [.int 0, .ref q1, .ref q2, .ref q3, .ref q4, .ref q5, .ref q6, .ref q7, .null])), (q1, .inl (cA 0, 12, .inl (fun _ => 0))), (q2, .inl (cA 0, 12, .inl (fun _ => 0))), (q3, .inl (cA 0, 12, .inl (fun _ => 0))), (q4, .inl (cA 0, 12, .inl (fun _ => 0))), (q5, .inl (cA 0, 12, .inl (fun _ => 0))), (q6, .inl (cA 0, 12, .inl (fun _ => 0))), (q7, .inl (cA 0, 4, .inl (upd (upd (upd (upd (fun _ => 0) 0 1) 1 1) 2 1) 3 1))), (q8, .inl (cA 0, 4, .inl (upd (fun _ => 0) 0 100)))] := hD
  refine lv_dup hx hb dX2_init_84 rfl ?_
  refine lv_iconst (v := 1) hx hb dX2_init_85 (by decide) ?_
  refine lv_bipush (v := 100) hx hb dX2_init_86 (by decide) ?_
  refine va_iast hx hb hK hP hD hS 8 0 rfl rfl (by unfold vp_in; decide) dX2_init_88 (fun H locs hP hD hS => ?_)
  have hP : va_P D mcl [(h0, .inr (2, [.int 0, .ref q1, .ref q2, .ref q3, .ref q4, .ref q5, .ref q6, .ref q7, .null])), (q1, .inl (cA 0, 12, .inl (fun _ => 0))), (q2, .inl (cA 0, 12, .inl (fun _ => 0))), (q3, .inl (cA 0, 12, .inl (fun _ => 0))), (q4, .inl (cA 0, 12, .inl (fun _ => 0))), (q5, .inl (cA 0, 12, .inl (fun _ => 0))), (q6, .inl (cA 0, 12, .inl (fun _ => 0))), (q7, .inl (cA 0, 4, .inl (upd (upd (upd (upd (fun _ => 0) 0 1) 1 1) 2 1) 3 1))), (q8, .inl (cA 0, 4, .inl (upd (upd (fun _ => 0) 0 100) 1 100)))] H := hP
  have hD : va_D A [(h0, .inr (2, [.int 0, .ref q1, .ref q2, .ref q3, .ref q4, .ref q5, .ref q6, .ref q7, .null])), (q1, .inl (cA 0, 12, .inl (fun _ => 0))), (q2, .inl (cA 0, 12, .inl (fun _ => 0))), (q3, .inl (cA 0, 12, .inl (fun _ => 0))), (q4, .inl (cA 0, 12, .inl (fun _ => 0))), (q5, .inl (cA 0, 12, .inl (fun _ => 0))), (q6, .inl (cA 0, 12, .inl (fun _ => 0))), (q7, .inl (cA 0, 4, .inl (upd (upd (upd (upd (fun _ => 0) 0 1) 1 1) 2 1) 3 1))), (q8, .inl (cA 0, 4, .inl (upd (upd (fun _ => 0) 0 100) 1 100)))] := hD
  refine lv_dup hx hb dX2_init_89 rfl ?_
  refine lv_iconst (v := 2) hx hb dX2_init_90 (by decide) ?_
  refine lv_bipush (v := 100) hx hb dX2_init_91 (by decide) ?_
  refine va_iast hx hb hK hP hD hS 8 0 rfl rfl (by unfold vp_in; decide) dX2_init_93 (fun H locs hP hD hS => ?_)
  have hP : va_P D mcl [(h0, .inr (2, [.int 0, .ref q1, .ref q2, .ref q3, .ref q4, .ref q5, .ref q6, .ref q7, .null])), (q1, .inl (cA 0, 12, .inl (fun _ => 0))), (q2, .inl (cA 0, 12, .inl (fun _ => 0))), (q3, .inl (cA 0, 12, .inl (fun _ => 0))), (q4, .inl (cA 0, 12, .inl (fun _ => 0))), (q5, .inl (cA 0, 12, .inl (fun _ => 0))), (q6, .inl (cA 0, 12, .inl (fun _ => 0))), (q7, .inl (cA 0, 4, .inl (upd (upd (upd (upd (fun _ => 0) 0 1) 1 1) 2 1) 3 1))), (q8, .inl (cA 0, 4, .inl (upd (upd (upd (fun _ => 0) 0 100) 1 100) 2 100)))] H := hP
  have hD : va_D A [(h0, .inr (2, [.int 0, .ref q1, .ref q2, .ref q3, .ref q4, .ref q5, .ref q6, .ref q7, .null])), (q1, .inl (cA 0, 12, .inl (fun _ => 0))), (q2, .inl (cA 0, 12, .inl (fun _ => 0))), (q3, .inl (cA 0, 12, .inl (fun _ => 0))), (q4, .inl (cA 0, 12, .inl (fun _ => 0))), (q5, .inl (cA 0, 12, .inl (fun _ => 0))), (q6, .inl (cA 0, 12, .inl (fun _ => 0))), (q7, .inl (cA 0, 4, .inl (upd (upd (upd (upd (fun _ => 0) 0 1) 1 1) 2 1) 3 1))), (q8, .inl (cA 0, 4, .inl (upd (upd (upd (fun _ => 0) 0 100) 1 100) 2 100)))] := hD
  refine lv_dup hx hb dX2_init_94 rfl ?_
  refine lv_iconst (v := 3) hx hb dX2_init_95 (by decide) ?_
  refine lv_bipush (v := 100) hx hb dX2_init_96 (by decide) ?_
  refine va_iast hx hb hK hP hD hS 8 0 rfl rfl (by unfold vp_in; decide) dX2_init_98 (fun H locs hP hD hS => ?_)
  have hP : va_P D mcl [(h0, .inr (2, [.int 0, .ref q1, .ref q2, .ref q3, .ref q4, .ref q5, .ref q6, .ref q7, .null])), (q1, .inl (cA 0, 12, .inl (fun _ => 0))), (q2, .inl (cA 0, 12, .inl (fun _ => 0))), (q3, .inl (cA 0, 12, .inl (fun _ => 0))), (q4, .inl (cA 0, 12, .inl (fun _ => 0))), (q5, .inl (cA 0, 12, .inl (fun _ => 0))), (q6, .inl (cA 0, 12, .inl (fun _ => 0))), (q7, .inl (cA 0, 4, .inl (upd (upd (upd (upd (fun _ => 0) 0 1) 1 1) 2 1) 3 1))), (q8, .inl (cA 0, 4, .inl (upd (upd (upd (upd (fun _ => 0) 0 100) 1 100) 2 100) 3 100)))] H := hP
  have hD : va_D A [(h0, .inr (2, [.int 0, .ref q1, .ref q2, .ref q3, .ref q4, .ref q5, .ref q6, .ref q7, .null])), (q1, .inl (cA 0, 12, .inl (fun _ => 0))), (q2, .inl (cA 0, 12, .inl (fun _ => 0))), (q3, .inl (cA 0, 12, .inl (fun _ => 0))), (q4, .inl (cA 0, 12, .inl (fun _ => 0))), (q5, .inl (cA 0, 12, .inl (fun _ => 0))), (q6, .inl (cA 0, 12, .inl (fun _ => 0))), (q7, .inl (cA 0, 4, .inl (upd (upd (upd (upd (fun _ => 0) 0 1) 1 1) 2 1) 3 1))), (q8, .inl (cA 0, 4, .inl (upd (upd (upd (upd (fun _ => 0) 0 100) 1 100) 2 100) 3 100)))] := hD
  refine va_putF (D := D) (ci := 2) (v := .ref q8) (ty := tyX2 8) (C := RX2) (T := TX2) (N := 9) hx hb hts (mcl_in (ci := 2) rfl) tyX2 tyX2_ok nmX2 hown hK hP hD hS 0 rfl rfl 8 (by decide) (hts _ (mg_1 210 (by decide +kernel) (by decide +kernel))) (fun _ h9 => h9) rfl hin rfl (tyX2_ok 8 (by decide)) rfl rfl (Nat.le_of_ble_eq_true rfl) dX2_init_99 (fun H locs hP hD hS => ?_)
  have hP : va_P D mcl [(h0, .inr (2, [.int 0, .ref q1, .ref q2, .ref q3, .ref q4, .ref q5, .ref q6, .ref q7, .ref q8])), (q1, .inl (cA 0, 12, .inl (fun _ => 0))), (q2, .inl (cA 0, 12, .inl (fun _ => 0))), (q3, .inl (cA 0, 12, .inl (fun _ => 0))), (q4, .inl (cA 0, 12, .inl (fun _ => 0))), (q5, .inl (cA 0, 12, .inl (fun _ => 0))), (q6, .inl (cA 0, 12, .inl (fun _ => 0))), (q7, .inl (cA 0, 4, .inl (upd (upd (upd (upd (fun _ => 0) 0 1) 1 1) 2 1) 3 1))), (q8, .inl (cA 0, 4, .inl (upd (upd (upd (upd (fun _ => 0) 0 100) 1 100) 2 100) 3 100)))] H := hP
  have hD : va_D A [(h0, .inr (2, [.int 0, .ref q1, .ref q2, .ref q3, .ref q4, .ref q5, .ref q6, .ref q7, .ref q8])), (q1, .inl (cA 0, 12, .inl (fun _ => 0))), (q2, .inl (cA 0, 12, .inl (fun _ => 0))), (q3, .inl (cA 0, 12, .inl (fun _ => 0))), (q4, .inl (cA 0, 12, .inl (fun _ => 0))), (q5, .inl (cA 0, 12, .inl (fun _ => 0))), (q6, .inl (cA 0, 12, .inl (fun _ => 0))), (q7, .inl (cA 0, 4, .inl (upd (upd (upd (upd (fun _ => 0) 0 1) 1 1) 2 1) 3 1))), (q8, .inl (cA 0, 4, .inl (upd (upd (upd (upd (fun _ => 0) 0 100) 1 100) 2 100) 3 100)))] := hD
  refine W.widen (k := 8) (n := 80) (Nat.le_of_ble_eq_true rfl) (Nat.le_of_ble_eq_true rfl) ?_
  exact W.vret hx hb hr (fun t ht hW => ⟨⟨(), rfl, trivial, fun j => [h0, q1, q2, q3, q4, q5, q6, q7, q8].getD j 0, by rw [ht]; exact hP, va_K.moved hW.alike hK, hD⟩, hS.F ht⟩) hS.2.2 dX2_init_102

abbrev mX5_init : MI := (yX5_init, cX5_init, 1, none)
theorem ok_X5_init : okNw mX5_init 0 := ⟨⟨mg_2 203 (by decide +kernel) (by decide +kernel), by decide +kernel, by decide, mg_1 11 (by decide +kernel) (by decide +kernel)⟩, ⟨by decide +kernel, by decide +kernel, by decide +kernel⟩, mg_2 202 (by decide +kernel) (by decide +kernel), rfl, rfl⟩
abbrev wX5 (cA : Nat → ClassId) (h0 : Nat) (a : Nat → Nat) : va_W := [(h0, .inr (5, [.int 0, .int 0, .int 0, .ref (a 1)])), ((a 1), .inl (cA 1, 40, .inr (.inl (fun _ => 0))))]
set_option maxHeartbeats 4000000 in
set_option maxRecDepth 100000 in
theorem c_X5_init (l : Launch) (D : va_G) (cA : Nat → ClassId) (h0 : Nat) : cN l D cA mX5_init [(h0, .inr (5, [.int 0, .int 0, .int 0, .null]))] (wX5 cA h0) [.ref h0] { frames := 1, cells := 1, slots := 40, locals := 20 } 1 40 := by
  intro sz
  refine Met.ofW (cc := cX5_init) (maxL := 1) (ret := none) (by decide +kernel) rfl ?_
  intro p e s m args below meth c s₁ B hml hv
  obtain ⟨rfl, hsz, hP, hK, hD0, hE⟩ := hv
  have hx := B.exec
  have hb := B.bytes
  have hr := B.returns
  have hts0 := atoms_spec (ws := mw mX5_init) B.pre
  have hts : ∀ w ∈ mG, w.before _ s = true := fun w hw => hts0 w (List.mem_cons_of_mem _ hw)
  have hown : s.vm.findClass RX5 = some m.cls := findClass_of_methodNamed B.named
  have hin : meth.name = "<init>" := (name_of_methodNamed B.named B.method).1
  subst hsz
  have hD := hD0.self (sz := s.heap.size)
  generalize hAe : va_A [(h0, .inr (5, [.int 0, .int 0, .int 0, .null]))] s.heap.size = A at hD ⊢
  have hA : ∀ q : Nat, s.heap.size ≤ q → A q := fun q h => by rw [← hAe]; exact Or.inr h
  have hS : va_S A s.heap s.heap [] := va_S.rf
  have hl := lv_entry ([.ref h0]) (n := 1) (Nat.le_of_ble_eq_true rfl)
  rw [lg_entry_eq]
  generalize (lg_sl ([.ref h0]) ++ List.replicate (1 - (lg_sl ([.ref h0])).length) Slot.unset).toArray = ls at hl ⊢
  have hl : lv_has ls 1 [(0, .ref h0)] := hl
  refine lv_aload_n hx hb dX5_init_0 rfl (lv_at hl 0 rfl) ?_
  refine W.objInit hx hb hown (hts _ (mg_2 204 (by decide +kernel) (by decide +kernel))) (hts _ (mg_1 27 (by decide +kernel) (by decide +kernel))) (hts _ (mg_1 28 (by decide +kernel) (by decide +kernel))) rfl (by rw [hml]; exact hl.1) rfl dX5_init_1 (Nat.le_of_ble_eq_true rfl) (Nat.le_of_ble_eq_true rfl) ?_
  refine W.eq (g2 := F0 m 4 ls []) rfl ?_
  refine lv_aload_n hx hb dX5_init_4 rfl (lv_at hl 0 rfl) ?_
  refine lv_bipush (v := 40) hx hb dX5_init_5 (by decide) ?_
  refine na_J hx hb hts hK hP hD hS hA 40 (by decide) (by decide) (Nat.le_of_ble_eq_true rfl) (Nat.le_of_ble_eq_true rfl) (Nat.le_of_ble_eq_true rfl) dX5_init_7 (fun q1 H hP hD hS => ?_)
  have hP : va_P D mcl [(h0, .inr (5, [.int 0, .int 0, .int 0, .null])), (q1, .inl (cA 1, 40, .inr (.inl (fun _ => 0))))] H := hP
  have hD : va_D A [(h0, .inr (5, [.int 0, .int 0, .int 0, .null])), (q1, .inl (cA 1, 40, .inr (.inl (fun _ => 0))))] := hD
  refine va_putF (D := D) (ci := 5) (v := .ref q1) (ty := tyX5 3) (C := RX5) (T := TX5) (N := 4) hx hb hts (mcl_in (ci := 5) rfl) tyX5 tyX5_ok nmX5 hown hK hP hD hS 0 rfl rfl 3 (by decide) (hts _ (mg_2 211 (by decide +kernel) (by decide +kernel))) (fun _ h9 => h9) rfl hin rfl (tyX5_ok 3 (by decide)) rfl rfl (Nat.le_of_ble_eq_true rfl) dX5_init_9 (fun H locs hP hD hS => ?_)
  have hP : va_P D mcl [(h0, .inr (5, [.int 0, .int 0, .int 0, .ref q1])), (q1, .inl (cA 1, 40, .inr (.inl (fun _ => 0))))] H := hP
  have hD : va_D A [(h0, .inr (5, [.int 0, .int 0, .int 0, .ref q1])), (q1, .inl (cA 1, 40, .inr (.inl (fun _ => 0))))] := hD
  refine W.widen (k := 1) (n := 40) (Nat.le_of_ble_eq_true rfl) (Nat.le_of_ble_eq_true rfl) ?_
  exact W.vret hx hb hr (fun t ht hW => ⟨⟨(), rfl, trivial, fun j => [h0, q1].getD j 0, by rw [ht]; exact hP, va_K.moved hW.alike hK, hD⟩, hS.F ht⟩) hS.2.2 dX5_init_12

abbrev mX6_init : MI := (yX6_init, cX6_init, 1, none)
theorem ok_X6_init : okNw mX6_init 0 := ⟨⟨mg_1 39 (by decide +kernel) (by decide +kernel), by decide +kernel, by decide, mg_1 3 (by decide +kernel) (by decide +kernel)⟩, ⟨by decide +kernel, by decide +kernel, by decide +kernel⟩, mg_1 38 (by decide +kernel) (by decide +kernel), rfl, rfl⟩
abbrev wX6 (cA : Nat → ClassId) (h0 : Nat) (a : Nat → Nat) : va_W := [(h0, .inr (6, [.int 1, .int 0, .ref (a 1), .ref (a 2), .ref (a 3), .ref (a 4), .int 0, .int 0, .int 3, .int 20, .int 40, .int 0])), ((a 1), .inl (cA 0, 8, .inl (fun _ => 0))), ((a 2), .inl (cA 0, 8, .inl (fun _ => 0))), ((a 3), .inl (cA 0, 8, .inl (fun _ => 0))), ((a 4), .inl (cA 0, 8, .inl (fun _ => 0)))]
set_option maxHeartbeats 4000000 in
set_option maxRecDepth 100000 in
theorem c_X6_init (l : Launch) (D : va_G) (cA : Nat → ClassId) (h0 : Nat) : cN l D cA mX6_init [(h0, .inr (6, [.int 0, .int 0, .null, .null, .null, .null, .int 0, .int 0, .int 0, .int 0, .int 0, .int 0]))] (wX6 cA h0) [.ref h0] { frames := 1, cells := 4, slots := 32, locals := 20 } 4 32 := by
  intro sz
  refine Met.ofW (cc := cX6_init) (maxL := 1) (ret := none) (by decide +kernel) rfl ?_
  intro p e s m args below meth c s₁ B hml hv
  obtain ⟨rfl, hsz, hP, hK, hD0, hE⟩ := hv
  have hx := B.exec
  have hb := B.bytes
  have hr := B.returns
  have hts0 := atoms_spec (ws := mw mX6_init) B.pre
  have hts : ∀ w ∈ mG, w.before _ s = true := fun w hw => hts0 w (List.mem_cons_of_mem _ hw)
  have hown : s.vm.findClass RX6 = some m.cls := findClass_of_methodNamed B.named
  have hin : meth.name = "<init>" := (name_of_methodNamed B.named B.method).1
  subst hsz
  have hD := hD0.self (sz := s.heap.size)
  generalize hAe : va_A [(h0, .inr (6, [.int 0, .int 0, .null, .null, .null, .null, .int 0, .int 0, .int 0, .int 0, .int 0, .int 0]))] s.heap.size = A at hD ⊢
  have hA : ∀ q : Nat, s.heap.size ≤ q → A q := fun q h => by rw [← hAe]; exact Or.inr h
  have hS : va_S A s.heap s.heap [] := va_S.rf
  have hl := lv_entry ([.ref h0]) (n := 1) (Nat.le_of_ble_eq_true rfl)
  rw [lg_entry_eq]
  generalize (lg_sl ([.ref h0]) ++ List.replicate (1 - (lg_sl ([.ref h0])).length) Slot.unset).toArray = ls at hl ⊢
  have hl : lv_has ls 1 [(0, .ref h0)] := hl
  refine lv_aload_n hx hb dX6_init_0 rfl (lv_at hl 0 rfl) ?_
  refine W.objInit hx hb hown (hts _ (mg_1 40 (by decide +kernel) (by decide +kernel))) (hts _ (mg_1 27 (by decide +kernel) (by decide +kernel))) (hts _ (mg_1 28 (by decide +kernel) (by decide +kernel))) rfl (by rw [hml]; exact hl.1) rfl dX6_init_1 (Nat.le_of_ble_eq_true rfl) (Nat.le_of_ble_eq_true rfl) ?_
  refine W.eq (g2 := F0 m 4 ls []) rfl ?_
  refine lv_aload_n hx hb dX6_init_4 rfl (lv_at hl 0 rfl) ?_
  refine lv_iconst (v := 1) hx hb dX6_init_5 (by decide) ?_
  refine va_put (D := D) (ci := 6) (v := .int 1) (ty := tyX6 0) (C := RX6) (T := TX6) (N := 12) hx hb hts (mcl_in (ci := 6) rfl) tyX6 tyX6_ok nmX6 hown hK hP hD hS 0 rfl rfl 0 (by decide) (hts _ (mg_1 41 (by decide +kernel) (by decide +kernel))) (fun _ h9 => h9) rfl (tyX6_ok 0 (by decide)) rfl rfl (Nat.le_of_ble_eq_true rfl) dX6_init_6 (fun H locs hP hD hS => ?_)
  have hP : va_P D mcl [(h0, .inr (6, [.int 1, .int 0, .null, .null, .null, .null, .int 0, .int 0, .int 0, .int 0, .int 0, .int 0]))] H := hP
  have hD : va_D A [(h0, .inr (6, [.int 1, .int 0, .null, .null, .null, .null, .int 0, .int 0, .int 0, .int 0, .int 0, .int 0]))] := hD
  refine lv_aload_n hx hb dX6_init_9 rfl (lv_at hl 0 rfl) ?_
  refine lv_bipush (v := 8) hx hb dX6_init_10 (by decide) ?_
  refine na_I hx hb hts hK hP hD hS hA 8 (by decide) (by decide) (Nat.le_of_ble_eq_true rfl) (Nat.le_of_ble_eq_true rfl) (Nat.le_of_ble_eq_true rfl) dX6_init_12 (fun q1 H hP hD hS => ?_)
  have hP : va_P D mcl [(h0, .inr (6, [.int 1, .int 0, .null, .null, .null, .null, .int 0, .int 0, .int 0, .int 0, .int 0, .int 0])), (q1, .inl (cA 0, 8, .inl (fun _ => 0)))] H := hP
  have hD : va_D A [(h0, .inr (6, [.int 1, .int 0, .null, .null, .null, .null, .int 0, .int 0, .int 0, .int 0, .int 0, .int 0])), (q1, .inl (cA 0, 8, .inl (fun _ => 0)))] := hD
  refine va_putF (D := D) (ci := 6) (v := .ref q1) (ty := tyX6 2) (C := RX6) (T := TX6) (N := 12) hx hb hts (mcl_in (ci := 6) rfl) tyX6 tyX6_ok nmX6 hown hK hP hD hS 0 rfl rfl 2 (by decide) (hts _ (mg_1 50 (by decide +kernel) (by decide +kernel))) (fun _ h9 => h9) rfl hin rfl (tyX6_ok 2 (by decide)) rfl rfl (Nat.le_of_ble_eq_true rfl) dX6_init_14 (fun H locs hP hD hS => ?_)
  have hP : va_P D mcl [(h0, .inr (6, [.int 1, .int 0, .ref q1, .null, .null, .null, .int 0, .int 0, .int 0, .int 0, .int 0, .int 0])), (q1, .inl (cA 0, 8, .inl (fun _ => 0)))] H := hP
  have hD : va_D A [(h0, .inr (6, [.int 1, .int 0, .ref q1, .null, .null, .null, .int 0, .int 0, .int 0, .int 0, .int 0, .int 0])), (q1, .inl (cA 0, 8, .inl (fun _ => 0)))] := hD
  refine lv_aload_n hx hb dX6_init_17 rfl (lv_at hl 0 rfl) ?_
  refine lv_bipush (v := 8) hx hb dX6_init_18 (by decide) ?_
  refine na_I hx hb hts hK hP hD hS hA 8 (by decide) (by decide) (Nat.le_of_ble_eq_true rfl) (Nat.le_of_ble_eq_true rfl) (Nat.le_of_ble_eq_true rfl) dX6_init_20 (fun q2 H hP hD hS => ?_)
  have hP : va_P D mcl [(h0, .inr (6, [.int 1, .int 0, .ref q1, .null, .null, .null, .int 0, .int 0, .int 0, .int 0, .int 0, .int 0])), (q1, .inl (cA 0, 8, .inl (fun _ => 0))), (q2, .inl (cA 0, 8, .inl (fun _ => 0)))] H := hP
  have hD : va_D A [(h0, .inr (6, [.int 1, .int 0, .ref q1, .null, .null, .null, .int 0, .int 0, .int 0, .int 0, .int 0, .int 0])), (q1, .inl (cA 0, 8, .inl (fun _ => 0))), (q2, .inl (cA 0, 8, .inl (fun _ => 0)))] := hD
  refine va_putF (D := D) (ci := 6) (v := .ref q2) (ty := tyX6 3) (C := RX6) (T := TX6) (N := 12) hx hb hts (mcl_in (ci := 6) rfl) tyX6 tyX6_ok nmX6 hown hK hP hD hS 0 rfl rfl 3 (by decide) (hts _ (mg_1 54 (by decide +kernel) (by decide +kernel))) (fun _ h9 => h9) rfl hin rfl (tyX6_ok 3 (by decide)) rfl rfl (Nat.le_of_ble_eq_true rfl) dX6_init_22 (fun H locs hP hD hS => ?_)
  have hP : va_P D mcl [(h0, .inr (6, [.int 1, .int 0, .ref q1, .ref q2, .null, .null, .int 0, .int 0, .int 0, .int 0, .int 0, .int 0])), (q1, .inl (cA 0, 8, .inl (fun _ => 0))), (q2, .inl (cA 0, 8, .inl (fun _ => 0)))] H := hP
  have hD : va_D A [(h0, .inr (6, [.int 1, .int 0, .ref q1, .ref q2, .null, .null, .int 0, .int 0, .int 0, .int 0, .int 0, .int 0])), (q1, .inl (cA 0, 8, .inl (fun _ => 0))), (q2, .inl (cA 0, 8, .inl (fun _ => 0)))] := hD
  refine lv_aload_n hx hb dX6_init_25 rfl (lv_at hl 0 rfl) ?_
  refine lv_bipush (v := 8) hx hb dX6_init_26 (by decide) ?_
  refine na_I hx hb hts hK hP hD hS hA 8 (by decide) (by decide) (Nat.le_of_ble_eq_true rfl) (Nat.le_of_ble_eq_true rfl) (Nat.le_of_ble_eq_true rfl) dX6_init_28 (fun q3 H hP hD hS => ?_)
  have hP : va_P D mcl [(h0, .inr (6, [.int 1, .int 0, .ref q1, .ref q2, .null, .null, .int 0, .int 0, .int 0, .int 0, .int 0, .int 0])), (q1, .inl (cA 0, 8, .inl (fun _ => 0))), (q2, .inl (cA 0, 8, .inl (fun _ => 0))), (q3, .inl (cA 0, 8, .inl (fun _ => 0)))] H := hP
  have hD : va_D A [(h0, .inr (6, [.int 1, .int 0, .ref q1, .ref q2, .null, .null, .int 0, .int 0, .int 0, .int 0, .int 0, .int 0])), (q1, .inl (cA 0, 8, .inl (fun _ => 0))), (q2, .inl (cA 0, 8, .inl (fun _ => 0))), (q3, .inl (cA 0, 8, .inl (fun _ => 0)))] := hD
  refine va_putF (D := D) (ci := 6) (v := .ref q3) (ty := tyX6 4) (C := RX6) (T := TX6) (N := 12) hx hb hts (mcl_in (ci := 6) rfl) tyX6 tyX6_ok nmX6 hown hK hP hD hS 0 rfl rfl 4 (by decide) (hts _ (mg_1 58 (by decide +kernel) (by decide +kernel))) (fun _ h9 => h9) rfl hin rfl (tyX6_ok 4 (by decide)) rfl rfl (Nat.le_of_ble_eq_true rfl) dX6_init_30 (fun H locs hP hD hS => ?_)
  have hP : va_P D mcl [(h0, .inr (6, [.int 1, .int 0, .ref q1, .ref q2, .ref q3, .null, .int 0, .int 0, .int 0, .int 0, .int 0, .int 0])), (q1, .inl (cA 0, 8, .inl (fun _ => 0))), (q2, .inl (cA 0, 8, .inl (fun _ => 0))), (q3, .inl (cA 0, 8, .inl (fun _ => 0)))] H := hP
  have hD : va_D A [(h0, .inr (6, [.int 1, .int 0, .ref q1, .ref q2, .ref q3, .null, .int 0, .int 0, .int 0, .int 0, .int 0, .int 0])), (q1, .inl (cA 0, 8, .inl (fun _ => 0))), (q2, .inl (cA 0, 8, .inl (fun _ => 0))), (q3, .inl (cA 0, 8, .inl (fun _ => 0)))] := hD
  refine lv_aload_n hx hb dX6_init_33 rfl (lv_at hl 0 rfl) ?_
  refine lv_bipush (v := 8) hx hb dX6_init_34 (by decide) ?_
  refine na_I hx hb hts hK hP hD hS hA 8 (by decide) (by decide) (Nat.le_of_ble_eq_true rfl) (Nat.le_of_ble_eq_true rfl) (Nat.le_of_ble_eq_true rfl) dX6_init_36 (fun q4 H hP hD hS => ?_)
  have hP : va_P D mcl [(h0, .inr (6, [.int 1, .int 0, .ref q1, .ref q2, .ref q3, .null, .int 0, .int 0, .int 0, .int 0, .int 0, .int 0])), (q1, .inl (cA 0, 8, .inl (fun _ => 0))), (q2, .inl (cA 0, 8, .inl (fun _ => 0))), (q3, .inl (cA 0, 8, .inl (fun _ => 0))), (q4, .inl (cA 0, 8, .inl (fun _ => 0)))] H := hP
  have hD : va_D A [(h0, .inr (6, [.int 1, .int 0, .ref q1, .ref q2, .ref q3, .null, .int 0, .int 0, .int 0, .int 0, .int 0, .int 0])), (q1, .inl (cA 0, 8, .inl (fun _ => 0))), (q2, .inl (cA 0, 8, .inl (fun _ => 0))), (q3, .inl (cA 0, 8, .inl (fun _ => 0))), (q4, .inl (cA 0, 8, .inl (fun _ => 0)))] := hD
  refine va_putF (D := D) (ci := 6) (v := .ref q4) (ty := tyX6 5) (C := RX6) (T := TX6) (N := 12) hx hb hts (mcl_in (ci := 6) rfl) tyX6 tyX6_ok nmX6 hown hK hP hD hS 0 rfl rfl 5 (by decide) (hts _ (mg_1 62 (by decide +kernel) (by decide +kernel))) (fun _ h9 => h9) rfl hin rfl (tyX6_ok 5 (by decide)) rfl rfl (Nat.le_of_ble_eq_true rfl) dX6_init_38 (fun H locs hP hD hS => ?_)
  have hP : va_P D mcl [(h0, .inr (6, [.int 1, .int 0, .ref q1, .ref q2, .ref q3, .ref q4, .int 0, .int 0, .int 0, .int 0, .int 0, .int 0])), (q1, .inl (cA 0, 8, .inl (fun _ => 0))), (q2, .inl (cA 0, 8, .inl (fun _ => 0))), (q3, .inl (cA 0, 8, .inl (fun _ => 0))), (q4, .inl (cA 0, 8, .inl (fun _ => 0)))] H := hP
  have hD : va_D A [(h0, .inr (6, [.int 1, .int 0, .ref q1, .ref q2, .ref q3, .ref q4, .int 0, .int 0, .int 0, .int 0, .int 0, .int 0])), (q1, .inl (cA 0, 8, .inl (fun _ => 0))), (q2, .inl (cA 0, 8, .inl (fun _ => 0))), (q3, .inl (cA 0, 8, .inl (fun _ => 0))), (q4, .inl (cA 0, 8, .inl (fun _ => 0)))] := hD
  refine lv_aload_n hx hb dX6_init_41 rfl (lv_at hl 0 rfl) ?_
  refine lv_iconst (v := 3) hx hb dX6_init_42 (by decide) ?_
  refine va_put (D := D) (ci := 6) (v := .int 3) (ty := tyX6 8) (C := RX6) (T := TX6) (N := 12) hx hb hts (mcl_in (ci := 6) rfl) tyX6 tyX6_ok nmX6 hown hK hP hD hS 0 rfl rfl 8 (by decide) (hts _ (mg_1 72 (by decide +kernel) (by decide +kernel))) (fun _ h9 => h9) rfl (tyX6_ok 8 (by decide)) rfl rfl (Nat.le_of_ble_eq_true rfl) dX6_init_43 (fun H locs hP hD hS => ?_)
  have hP : va_P D mcl [(h0, .inr (6, [.int 1, .int 0, .ref q1, .ref q2, .ref q3, .ref q4, .int 0, .int 0, .int 3, .int 0, .int 0, .int 0])), (q1, .inl (cA 0, 8, .inl (fun _ => 0))), (q2, .inl (cA 0, 8, .inl (fun _ => 0))), (q3, .inl (cA 0, 8, .inl (fun _ => 0))), (q4, .inl (cA 0, 8, .inl (fun _ => 0)))] H := hP
  have hD : va_D A [(h0, .inr (6, [.int 1, .int 0, .ref q1, .ref q2, .ref q3, .ref q4, .int 0, .int 0, .int 3, .int 0, .int 0, .int 0])), (q1, .inl (cA 0, 8, .inl (fun _ => 0))), (q2, .inl (cA 0, 8, .inl (fun _ => 0))), (q3, .inl (cA 0, 8, .inl (fun _ => 0))), (q4, .inl (cA 0, 8, .inl (fun _ => 0)))] := hD
  refine lv_aload_n hx hb dX6_init_46 rfl (lv_at hl 0 rfl) ?_
  refine lv_bipush (v := 20) hx hb dX6_init_47 (by decide) ?_
  refine va_put (D := D) (ci := 6) (v := .int 20) (ty := tyX6 9) (C := RX6) (T := TX6) (N := 12) hx hb hts (mcl_in (ci := 6) rfl) tyX6 tyX6_ok nmX6 hown hK hP hD hS 0 rfl rfl 9 (by decide) (hts _ (mg_1 75 (by decide +kernel) (by decide +kernel))) (fun _ h9 => h9) rfl (tyX6_ok 9 (by decide)) rfl rfl (Nat.le_of_ble_eq_true rfl) dX6_init_49 (fun H locs hP hD hS => ?_)
  have hP : va_P D mcl [(h0, .inr (6, [.int 1, .int 0, .ref q1, .ref q2, .ref q3, .ref q4, .int 0, .int 0, .int 3, .int 20, .int 0, .int 0])), (q1, .inl (cA 0, 8, .inl (fun _ => 0))), (q2, .inl (cA 0, 8, .inl (fun _ => 0))), (q3, .inl (cA 0, 8, .inl (fun _ => 0))), (q4, .inl (cA 0, 8, .inl (fun _ => 0)))] H := hP
  have hD : va_D A [(h0, .inr (6, [.int 1, .int 0, .ref q1, .ref q2, .ref q3, .ref q4, .int 0, .int 0, .int 3, .int 20, .int 0, .int 0])), (q1, .inl (cA 0, 8, .inl (fun _ => 0))), (q2, .inl (cA 0, 8, .inl (fun _ => 0))), (q3, .inl (cA 0, 8, .inl (fun _ => 0))), (q4, .inl (cA 0, 8, .inl (fun _ => 0)))] := hD
  refine lv_aload_n hx hb dX6_init_52 rfl (lv_at hl 0 rfl) ?_
  refine lv_bipush (v := 40) hx hb dX6_init_53 (by decide) ?_
  refine va_put (D := D) (ci := 6) (v := .int 40) (ty := tyX6 10) (C := RX6) (T := TX6) (N := 12) hx hb hts (mcl_in (ci := 6) rfl) tyX6 tyX6_ok nmX6 hown hK hP hD hS 0 rfl rfl 10 (by decide) (hts _ (mg_1 78 (by decide +kernel) (by decide +kernel))) (fun _ h9 => h9) rfl (tyX6_ok 10 (by decide)) rfl rfl (Nat.le_of_ble_eq_true rfl) dX6_init_55 (fun H locs hP hD hS => ?_)
  have hP : va_P D mcl [(h0, .inr (6, [.int 1, .int 0, .ref q1, .ref q2, .ref q3, .ref q4, .int 0, .int 0, .int 3, .int 20, .int 40, .int 0])), (q1, .inl (cA 0, 8, .inl (fun _ => 0))), (q2, .inl (cA 0, 8, .inl (fun _ => 0))), (q3, .inl (cA 0, 8, .inl (fun _ => 0))), (q4, .inl (cA 0, 8, .inl (fun _ => 0)))] H := hP
  have hD : va_D A [(h0, .inr (6, [.int 1, .int 0, .ref q1, .ref q2, .ref q3, .ref q4, .int 0, .int 0, .int 3, .int 20, .int 40, .int 0])), (q1, .inl (cA 0, 8, .inl (fun _ => 0))), (q2, .inl (cA 0, 8, .inl (fun _ => 0))), (q3, .inl (cA 0, 8, .inl (fun _ => 0))), (q4, .inl (cA 0, 8, .inl (fun _ => 0)))] := hD
  refine W.widen (k := 4) (n := 32) (Nat.le_of_ble_eq_true rfl) (Nat.le_of_ble_eq_true rfl) ?_
  exact W.vret hx hb hr (fun t ht hW => ⟨⟨(), rfl, trivial, fun j => [h0, q1, q2, q3, q4].getD j 0, by rw [ht]; exact hP, va_K.moved hW.alike hK, hD⟩, hS.F ht⟩) hS.2.2 dX6_init_58

abbrev mX7_init : MI := (yX7_init, cX7_init, 1, none)
theorem ok_X7_init : okNw mX7_init 0 := ⟨⟨mg_2 171 (by decide +kernel) (by decide +kernel), by decide +kernel, by decide, mg_1 10 (by decide +kernel) (by decide +kernel)⟩, ⟨by decide +kernel, by decide +kernel, by decide +kernel⟩, mg_2 170 (by decide +kernel) (by decide +kernel), rfl, rfl⟩
abbrev wX7 (cA : Nat → ClassId) (h0 : Nat) (a : Nat → Nat) : va_W := [(h0, .inr (7, [.int (-1), .ref (a 1), .ref (a 2), .ref (a 3), .int 0, .ref (a 4), .ref (a 5)])), ((a 1), .inl (cA 1, 1000, .inr (.inl (fun _ => 0)))), ((a 2), .inl (cA 1, 1000, .inr (.inl (fun _ => 0)))), ((a 3), .inl (cA 0, 16, .inl (fun _ => 0))), ((a 4), .inl (cA 0, 16, .inl (fun _ => 0))), ((a 5), .inl (cA 1, 16, .inr (.inl (fun _ => 0))))]
set_option maxHeartbeats 4000000 in
set_option maxRecDepth 100000 in
theorem c_X7_init (l : Launch) (D : va_G) (cA : Nat → ClassId) (h0 : Nat) : cN l D cA mX7_init [(h0, .inr (7, [.int 0, .null, .null, .null, .int 0, .null, .null]))] (wX7 cA h0) [.ref h0] { frames := 1, cells := 5, slots := 2048, locals := 20 } 5 2048 := by
  intro sz
  refine Met.ofW (cc := cX7_init) (maxL := 1) (ret := none) (by decide +kernel) rfl ?_
  intro p e s m args below meth c s₁ B hml hv
  obtain ⟨rfl, hsz, hP, hK, hD0, hE⟩ := hv
  have hx := B.exec
  have hb := B.bytes
  have hr := B.returns
  have hts0 := atoms_spec (ws := mw mX7_init) B.pre
  have hts : ∀ w ∈ mG, w.before _ s = true := fun w hw => hts0 w (List.mem_cons_of_mem _ hw)
  have hown : s.vm.findClass RX7 = some m.cls := findClass_of_methodNamed B.named
  have hin : meth.name = "<init>" := (name_of_methodNamed B.named B.method).1
  subst hsz
  have hD := hD0.self (sz := s.heap.size)
  generalize hAe : va_A [(h0, .inr (7, [.int 0, .null, .null, .null, .int 0, .null, .null]))] s.heap.size = A at hD ⊢
  have hA : ∀ q : Nat, s.heap.size ≤ q → A q := fun q h => by rw [← hAe]; exact Or.inr h
  have hS : va_S A s.heap s.heap [] := va_S.rf
  have hl := lv_entry ([.ref h0]) (n := 1) (Nat.le_of_ble_eq_true rfl)
  rw [lg_entry_eq]
  generalize (lg_sl ([.ref h0]) ++ List.replicate (1 - (lg_sl ([.ref h0])).length) Slot.unset).toArray = ls at hl ⊢
  have hl : lv_has ls 1 [(0, .ref h0)] := hl
  refine lv_aload_n hx hb dX7_init_0 rfl (lv_at hl 0 rfl) ?_
  refine W.objInit hx hb hown (hts _ (mg_2 172 (by decide +kernel) (by decide +kernel))) (hts _ (mg_1 27 (by decide +kernel) (by decide +kernel))) (hts _ (mg_1 28 (by decide +kernel) (by decide +kernel))) rfl (by rw [hml]; exact hl.1) rfl dX7_init_1 (Nat.le_of_ble_eq_true rfl) (Nat.le_of_ble_eq_true rfl) ?_
  refine W.eq (g2 := F0 m 4 ls []) rfl ?_
  refine lv_aload_n hx hb dX7_init_4 rfl (lv_at hl 0 rfl) ?_
  refine lv_iconst (v := -1) hx hb dX7_init_5 (by decide) ?_
  refine va_put (D := D) (ci := 7) (v := .int (-1)) (ty := tyX7 0) (C := RX7) (T := TX7) (N := 7) hx hb hts (mcl_in (ci := 7) rfl) tyX7 tyX7_ok nmX7 hown hK hP hD hS 0 rfl rfl 0 (by decide) (hts _ (mg_2 173 (by decide +kernel) (by decide +kernel))) (fun _ h9 => h9) rfl (tyX7_ok 0 (by decide)) rfl rfl (Nat.le_of_ble_eq_true rfl) dX7_init_6 (fun H locs hP hD hS => ?_)
  have hP : va_P D mcl [(h0, .inr (7, [.int (-1), .null, .null, .null, .int 0, .null, .null]))] H := hP
  have hD : va_D A [(h0, .inr (7, [.int (-1), .null, .null, .null, .int 0, .null, .null]))] := hD
  refine lv_aload_n hx hb dX7_init_9 rfl (lv_at hl 0 rfl) ?_
  refine lv_sipush (v := 1000) hx hb dX7_init_10 (by decide) ?_
  refine na_J hx hb hts hK hP hD hS hA 1000 (by decide) (by decide) (Nat.le_of_ble_eq_true rfl) (Nat.le_of_ble_eq_true rfl) (Nat.le_of_ble_eq_true rfl) dX7_init_13 (fun q1 H hP hD hS => ?_)
  have hP : va_P D mcl [(h0, .inr (7, [.int (-1), .null, .null, .null, .int 0, .null, .null])), (q1, .inl (cA 1, 1000, .inr (.inl (fun _ => 0))))] H := hP
  have hD : va_D A [(h0, .inr (7, [.int (-1), .null, .null, .null, .int 0, .null, .null])), (q1, .inl (cA 1, 1000, .inr (.inl (fun _ => 0))))] := hD
  refine va_putF (D := D) (ci := 7) (v := .ref q1) (ty := tyX7 1) (C := RX7) (T := TX7) (N := 7) hx hb hts (mcl_in (ci := 7) rfl) tyX7 tyX7_ok nmX7 hown hK hP hD hS 0 rfl rfl 1 (by decide) (hts _ (mg_2 175 (by decide +kernel) (by decide +kernel))) (fun _ h9 => h9) rfl hin rfl (tyX7_ok 1 (by decide)) rfl rfl (Nat.le_of_ble_eq_true rfl) dX7_init_15 (fun H locs hP hD hS => ?_)
  have hP : va_P D mcl [(h0, .inr (7, [.int (-1), .ref q1, .null, .null, .int 0, .null, .null])), (q1, .inl (cA 1, 1000, .inr (.inl (fun _ => 0))))] H := hP
  have hD : va_D A [(h0, .inr (7, [.int (-1), .ref q1, .null, .null, .int 0, .null, .null])), (q1, .inl (cA 1, 1000, .inr (.inl (fun _ => 0))))] := hD
  refine lv_aload_n hx hb dX7_init_18 rfl (lv_at hl 0 rfl) ?_
  refine lv_sipush (v := 1000) hx hb dX7_init_19 (by decide) ?_
  refine na_J hx hb hts hK hP hD hS hA 1000 (by decide) (by decide) (Nat.le_of_ble_eq_true rfl) (Nat.le_of_ble_eq_true rfl) (Nat.le_of_ble_eq_true rfl) dX7_init_22 (fun q2 H hP hD hS => ?_)
  have hP : va_P D mcl [(h0, .inr (7, [.int (-1), .ref q1, .null, .null, .int 0, .null, .null])), (q1, .inl (cA 1, 1000, .inr (.inl (fun _ => 0)))), (q2, .inl (cA 1, 1000, .inr (.inl (fun _ => 0))))] H := hP
  have hD : va_D A [(h0, .inr (7, [.int (-1), .ref q1, .null, .null, .int 0, .null, .null])), (q1, .inl (cA 1, 1000, .inr (.inl (fun _ => 0)))), (q2, .inl (cA 1, 1000, .inr (.inl (fun _ => 0))))] := hD
  refine va_putF (D := D) (ci := 7) (v := .ref q2) (ty := tyX7 2) (C := RX7) (T := TX7) (N := 7) hx hb hts (mcl_in (ci := 7) rfl) tyX7 tyX7_ok nmX7 hown hK hP hD hS 0 rfl rfl 2 (by decide) (hts _ (mg_2 177 (by decide +kernel) (by decide +kernel))) (fun _ h9 => h9) rfl hin rfl (tyX7_ok 2 (by decide)) rfl rfl (Nat.le_of_ble_eq_true rfl) dX7_init_24 (fun H locs hP hD hS => ?_)
  have hP : va_P D mcl [(h0, .inr (7, [.int (-1), .ref q1, .ref q2, .null, .int 0, .null, .null])), (q1, .inl (cA 1, 1000, .inr (.inl (fun _ => 0)))), (q2, .inl (cA 1, 1000, .inr (.inl (fun _ => 0))))] H := hP
  have hD : va_D A [(h0, .inr (7, [.int (-1), .ref q1, .ref q2, .null, .int 0, .null, .null])), (q1, .inl (cA 1, 1000, .inr (.inl (fun _ => 0)))), (q2, .inl (cA 1, 1000, .inr (.inl (fun _ => 0))))] := hD
  refine lv_aload_n hx hb dX7_init_27 rfl (lv_at hl 0 rfl) ?_
  refine lv_bipush (v := 16) hx hb dX7_init_28 (by decide) ?_
  refine na_I hx hb hts hK hP hD hS hA 16 (by decide) (by decide) (Nat.le_of_ble_eq_true rfl) (Nat.le_of_ble_eq_true rfl) (Nat.le_of_ble_eq_true rfl) dX7_init_30 (fun q3 H hP hD hS => ?_)
  have hP : va_P D mcl [(h0, .inr (7, [.int (-1), .ref q1, .ref q2, .null, .int 0, .null, .null])), (q1, .inl (cA 1, 1000, .inr (.inl (fun _ => 0)))), (q2, .inl (cA 1, 1000, .inr (.inl (fun _ => 0)))), (q3, .inl (cA 0, 16, .inl (fun _ => 0)))] H := hP
  have hD : va_D A [(h0, .inr (7, [.int (-1), .ref q1, .ref q2, .null, .int 0, .null, .null])), (q1, .inl (cA 1, 1000, .inr (.inl (fun _ => 0)))), (q2, .inl (cA 1, 1000, .inr (.inl (fun _ => 0)))), (q3, .inl (cA 0, 16, .inl (fun _ => 0)))] := hD
  refine va_putF (D := D) (ci := 7) (v := .ref q3) (ty := tyX7 3) (C := RX7) (T := TX7) (N := 7) hx hb hts (mcl_in (ci := 7) rfl) tyX7 tyX7_ok nmX7 hown hK hP hD hS 0 rfl rfl 3 (by decide) (hts _ (mg_2 179 (by decide +kernel) (by decide +kernel))) (fun _ h9 => h9) rfl hin rfl (tyX7_ok 3 (by decide)) rfl rfl (Nat.le_of_ble_eq_true rfl) dX7_init_32 (fun H locs hP hD hS => ?_)
  have hP : va_P D mcl [(h0, .inr (7, [.int (-1), .ref q1, .ref q2, .ref q3, .int 0, .null, .null])), (q1, .inl (cA 1, 1000, .inr (.inl (fun _ => 0)))), (q2, .inl (cA 1, 1000, .inr (.inl (fun _ => 0)))), (q3, .inl (cA 0, 16, .inl (fun _ => 0)))] H := hP
  have hD : va_D A [(h0, .inr (7, [.int (-1), .ref q1, .ref q2, .ref q3, .int 0, .null, .null])), (q1, .inl (cA 1, 1000, .inr (.inl (fun _ => 0)))), (q2, .inl (cA 1, 1000, .inr (.inl (fun _ => 0)))), (q3, .inl (cA 0, 16, .inl (fun _ => 0)))] := hD
  refine lv_aload_n hx hb dX7_init_35 rfl (lv_at hl 0 rfl) ?_
  refine lv_bipush (v := 16) hx hb dX7_init_36 (by decide) ?_
  refine na_I hx hb hts hK hP hD hS hA 16 (by decide) (by decide) (Nat.le_of_ble_eq_true rfl) (Nat.le_of_ble_eq_true rfl) (Nat.le_of_ble_eq_true rfl) dX7_init_38 (fun q4 H hP hD hS => ?_)
  have hP : va_P D mcl [(h0, .inr (7, [.int (-1), .ref q1, .ref q2, .ref q3, .int 0, .null, .null])), (q1, .inl (cA 1, 1000, .inr (.inl (fun _ => 0)))), (q2, .inl (cA 1, 1000, .inr (.inl (fun _ => 0)))), (q3, .inl (cA 0, 16, .inl (fun _ => 0))), (q4, .inl (cA 0, 16, .inl (fun _ => 0)))] H := hP
  have hD : va_D A [(h0, .inr (7, [.int (-1), .ref q1, .ref q2, .ref q3, .int 0, .null, .null])), (q1, .inl (cA 1, 1000, .inr (.inl (fun _ => 0)))), (q2, .inl (cA 1, 1000, .inr (.inl (fun _ => 0)))), (q3, .inl (cA 0, 16, .inl (fun _ => 0))), (q4, .inl (cA 0, 16, .inl (fun _ => 0)))] := hD
  refine va_putF (D := D) (ci := 7) (v := .ref q4) (ty := tyX7 5) (C := RX7) (T := TX7) (N := 7) hx hb hts (mcl_in (ci := 7) rfl) tyX7 tyX7_ok nmX7 hown hK hP hD hS 0 rfl rfl 5 (by decide) (hts _ (mg_2 181 (by decide +kernel) (by decide +kernel))) (fun _ h9 => h9) rfl hin rfl (tyX7_ok 5 (by decide)) rfl rfl (Nat.le_of_ble_eq_true rfl) dX7_init_40 (fun H locs hP hD hS => ?_)
  have hP : va_P D mcl [(h0, .inr (7, [.int (-1), .ref q1, .ref q2, .ref q3, .int 0, .ref q4, .null])), (q1, .inl (cA 1, 1000, .inr (.inl (fun _ => 0)))), (q2, .inl (cA 1, 1000, .inr (.inl (fun _ => 0)))), (q3, .inl (cA 0, 16, .inl (fun _ => 0))), (q4, .inl (cA 0, 16, .inl (fun _ => 0)))] H := hP
  have hD : va_D A [(h0, .inr (7, [.int (-1), .ref q1, .ref q2, .ref q3, .int 0, .ref q4, .null])), (q1, .inl (cA 1, 1000, .inr (.inl (fun _ => 0)))), (q2, .inl (cA 1, 1000, .inr (.inl (fun _ => 0)))), (q3, .inl (cA 0, 16, .inl (fun _ => 0))), (q4, .inl (cA 0, 16, .inl (fun _ => 0)))] := hD
  refine lv_aload_n hx hb dX7_init_43 rfl (lv_at hl 0 rfl) ?_
  refine lv_bipush (v := 16) hx hb dX7_init_44 (by decide) ?_
  refine na_J hx hb hts hK hP hD hS hA 16 (by decide) (by decide) (Nat.le_of_ble_eq_true rfl) (Nat.le_of_ble_eq_true rfl) (Nat.le_of_ble_eq_true rfl) dX7_init_46 (fun q5 H hP hD hS => ?_)
  have hP : va_P D mcl [(h0, .inr (7, [.int (-1), .ref q1, .ref q2, .ref q3, .int 0, .ref q4, .null])), (q1, .inl (cA 1, 1000, .inr (.inl (fun _ => 0)))), (q2, .inl (cA 1, 1000, .inr (.inl (fun _ => 0)))), (q3, .inl (cA 0, 16, .inl (fun _ => 0))), (q4, .inl (cA 0, 16, .inl (fun _ => 0))), (q5, .inl (cA 1, 16, .inr (.inl (fun _ => 0))))] H := hP
  have hD : va_D A [(h0, .inr (7, [.int (-1), .ref q1, .ref q2, .ref q3, .int 0, .ref q4, .null])), (q1, .inl (cA 1, 1000, .inr (.inl (fun _ => 0)))), (q2, .inl (cA 1, 1000, .inr (.inl (fun _ => 0)))), (q3, .inl (cA 0, 16, .inl (fun _ => 0))), (q4, .inl (cA 0, 16, .inl (fun _ => 0))), (q5, .inl (cA 1, 16, .inr (.inl (fun _ => 0))))] := hD
  refine va_putF (D := D) (ci := 7) (v := .ref q5) (ty := tyX7 6) (C := RX7) (T := TX7) (N := 7) hx hb hts (mcl_in (ci := 7) rfl) tyX7 tyX7_ok nmX7 hown hK hP hD hS 0 rfl rfl 6 (by decide) (hts _ (mg_2 182 (by decide +kernel) (by decide +kernel))) (fun _ h9 => h9) rfl hin rfl (tyX7_ok 6 (by decide)) rfl rfl (Nat.le_of_ble_eq_true rfl) dX7_init_48 (fun H locs hP hD hS => ?_)
  have hP : va_P D mcl [(h0, .inr (7, [.int (-1), .ref q1, .ref q2, .ref q3, .int 0, .ref q4, .ref q5])), (q1, .inl (cA 1, 1000, .inr (.inl (fun _ => 0)))), (q2, .inl (cA 1, 1000, .inr (.inl (fun _ => 0)))), (q3, .inl (cA 0, 16, .inl (fun _ => 0))), (q4, .inl (cA 0, 16, .inl (fun _ => 0))), (q5, .inl (cA 1, 16, .inr (.inl (fun _ => 0))))] H := hP
  have hD : va_D A [(h0, .inr (7, [.int (-1), .ref q1, .ref q2, .ref q3, .int 0, .ref q4, .ref q5])), (q1, .inl (cA 1, 1000, .inr (.inl (fun _ => 0)))), (q2, .inl (cA 1, 1000, .inr (.inl (fun _ => 0)))), (q3, .inl (cA 0, 16, .inl (fun _ => 0))), (q4, .inl (cA 0, 16, .inl (fun _ => 0))), (q5, .inl (cA 1, 16, .inr (.inl (fun _ => 0))))] := hD
  refine W.widen (k := 5) (n := 2048) (Nat.le_of_ble_eq_true rfl) (Nat.le_of_ble_eq_true rfl) ?_
  exact W.vret hx hb hr (fun t ht hW => ⟨⟨(), rfl, trivial, fun j => [h0, q1, q2, q3, q4, q5].getD j 0, by rw [ht]; exact hP, va_K.moved hW.alike hK, hD⟩, hS.F ht⟩) hS.2.2 dX7_init_51

abbrev mX9_init : MI := (yX9_init, cX9_init, 1, none)
theorem ok_X9_init : okNw mX9_init 0 := ⟨⟨mg_2 125 (by decide +kernel) (by decide +kernel), by decide +kernel, by decide, mg_1 9 (by decide +kernel) (by decide +kernel)⟩, ⟨by decide +kernel, by decide +kernel, by decide +kernel⟩, mg_2 124 (by decide +kernel) (by decide +kernel), rfl, rfl⟩
abbrev wX9 (cA : Nat → ClassId) (h0 : Nat) (a : Nat → Nat) : va_W := [(h0, .inr (9, [.long 0, .long 0, .long 0, .long 0, .long 0, .long 0, .int 0, .ref (a 1), .ref (a 2)])), ((a 1), .inl (cA 1, 8, .inr (.inl (fun _ => 0)))), ((a 2), .inl (cA 1, 8, .inr (.inl (fun _ => 0))))]
set_option maxHeartbeats 4000000 in
set_option maxRecDepth 100000 in
theorem c_X9_init (l : Launch) (D : va_G) (cA : Nat → ClassId) (h0 : Nat) : cN l D cA mX9_init [(h0, .inr (9, [.long 0, .long 0, .long 0, .long 0, .long 0, .long 0, .int 0, .null, .null]))] (wX9 cA h0) [.ref h0] { frames := 1, cells := 2, slots := 16, locals := 20 } 2 16 := by
  intro sz
  refine Met.ofW (cc := cX9_init) (maxL := 1) (ret := none) (by decide +kernel) rfl ?_
  intro p e s m args below meth c s₁ B hml hv
  obtain ⟨rfl, hsz, hP, hK, hD0, hE⟩ := hv
  have hx := B.exec
  have hb := B.bytes
  have hr := B.returns
  have hts0 := atoms_spec (ws := mw mX9_init) B.pre
  have hts : ∀ w ∈ mG, w.before _ s = true := fun w hw => hts0 w (List.mem_cons_of_mem _ hw)
  have hown : s.vm.findClass RX9 = some m.cls := findClass_of_methodNamed B.named
  have hin : meth.name = "<init>" := (name_of_methodNamed B.named B.method).1
  subst hsz
  have hD := hD0.self (sz := s.heap.size)
  generalize hAe : va_A [(h0, .inr (9, [.long 0, .long 0, .long 0, .long 0, .long 0, .long 0, .int 0, .null, .null]))] s.heap.size = A at hD ⊢
  have hA : ∀ q : Nat, s.heap.size ≤ q → A q := fun q h => by rw [← hAe]; exact Or.inr h
  have hS : va_S A s.heap s.heap [] := va_S.rf
  have hl := lv_entry ([.ref h0]) (n := 1) (Nat.le_of_ble_eq_true rfl)
  rw [lg_entry_eq]
  generalize (lg_sl ([.ref h0]) ++ List.replicate (1 - (lg_sl ([.ref h0])).length) Slot.unset).toArray = ls at hl ⊢
  have hl : lv_has ls 1 [(0, .ref h0)] := hl
  refine lv_aload_n hx hb dX9_init_0 rfl (lv_at hl 0 rfl) ?_
  refine W.objInit hx hb hown (hts _ (mg_2 126 (by decide +kernel) (by decide +kernel))) (hts _ (mg_1 27 (by decide +kernel) (by decide +kernel))) (hts _ (mg_1 28 (by decide +kernel) (by decide +kernel))) rfl (by rw [hml]; exact hl.1) rfl dX9_init_1 (Nat.le_of_ble_eq_true rfl) (Nat.le_of_ble_eq_true rfl) ?_
  refine W.eq (g2 := F0 m 4 ls []) rfl ?_
  refine lv_aload_n hx hb dX9_init_4 rfl (lv_at hl 0 rfl) ?_
  refine lv_bipush (v := 8) hx hb dX9_init_5 (by decide) ?_
  refine na_J hx hb hts hK hP hD hS hA 8 (by decide) (by decide) (Nat.le_of_ble_eq_true rfl) (Nat.le_of_ble_eq_true rfl) (Nat.le_of_ble_eq_true rfl) dX9_init_7 (fun q1 H hP hD hS => ?_)
  have hP : va_P D mcl [(h0, .inr (9, [.long 0, .long 0, .long 0, .long 0, .long 0, .long 0, .int 0, .null, .null])), (q1, .inl (cA 1, 8, .inr (.inl (fun _ => 0))))] H := hP
  have hD : va_D A [(h0, .inr (9, [.long 0, .long 0, .long 0, .long 0, .long 0, .long 0, .int 0, .null, .null])), (q1, .inl (cA 1, 8, .inr (.inl (fun _ => 0))))] := hD
  refine va_putF (D := D) (ci := 9) (v := .ref q1) (ty := tyX9 7) (C := RX9) (T := TX9) (N := 9) hx hb hts (mcl_in (ci := 9) rfl) tyX9 tyX9_ok nmX9 hown hK hP hD hS 0 rfl rfl 7 (by decide) (hts _ (mg_2 141 (by decide +kernel) (by decide +kernel))) (fun _ h9 => h9) rfl hin rfl (tyX9_ok 7 (by decide)) rfl rfl (Nat.le_of_ble_eq_true rfl) dX9_init_9 (fun H locs hP hD hS => ?_)
  have hP : va_P D mcl [(h0, .inr (9, [.long 0, .long 0, .long 0, .long 0, .long 0, .long 0, .int 0, .ref q1, .null])), (q1, .inl (cA 1, 8, .inr (.inl (fun _ => 0))))] H := hP
  have hD : va_D A [(h0, .inr (9, [.long 0, .long 0, .long 0, .long 0, .long 0, .long 0, .int 0, .ref q1, .null])), (q1, .inl (cA 1, 8, .inr (.inl (fun _ => 0))))] := hD
  refine lv_aload_n hx hb dX9_init_12 rfl (lv_at hl 0 rfl) ?_
  refine lv_bipush (v := 8) hx hb dX9_init_13 (by decide) ?_
  refine na_J hx hb hts hK hP hD hS hA 8 (by decide) (by decide) (Nat.le_of_ble_eq_true rfl) (Nat.le_of_ble_eq_true rfl) (Nat.le_of_ble_eq_true rfl) dX9_init_15 (fun q2 H hP hD hS => ?_)
  have hP : va_P D mcl [(h0, .inr (9, [.long 0, .long 0, .long 0, .long 0, .long 0, .long 0, .int 0, .ref q1, .null])), (q1, .inl (cA 1, 8, .inr (.inl (fun _ => 0)))), (q2, .inl (cA 1, 8, .inr (.inl (fun _ => 0))))] H := hP
  have hD : va_D A [(h0, .inr (9, [.long 0, .long 0, .long 0, .long 0, .long 0, .long 0, .int 0, .ref q1, .null])), (q1, .inl (cA 1, 8, .inr (.inl (fun _ => 0)))), (q2, .inl (cA 1, 8, .inr (.inl (fun _ => 0))))] := hD
  refine va_putF (D := D) (ci := 9) (v := .ref q2) (ty := tyX9 8) (C := RX9) (T := TX9) (N := 9) hx hb hts (mcl_in (ci := 9) rfl) tyX9 tyX9_ok nmX9 hown hK hP hD hS 0 rfl rfl 8 (by decide) (hts _ (mg_2 143 (by decide +kernel) (by decide +kernel))) (fun _ h9 => h9) rfl hin rfl (tyX9_ok 8 (by decide)) rfl rfl (Nat.le_of_ble_eq_true rfl) dX9_init_17 (fun H locs hP hD hS => ?_)
  have hP : va_P D mcl [(h0, .inr (9, [.long 0, .long 0, .long 0, .long 0, .long 0, .long 0, .int 0, .ref q1, .ref q2])), (q1, .inl (cA 1, 8, .inr (.inl (fun _ => 0)))), (q2, .inl (cA 1, 8, .inr (.inl (fun _ => 0))))] H := hP
  have hD : va_D A [(h0, .inr (9, [.long 0, .long 0, .long 0, .long 0, .long 0, .long 0, .int 0, .ref q1, .ref q2])), (q1, .inl (cA 1, 8, .inr (.inl (fun _ => 0)))), (q2, .inl (cA 1, 8, .inr (.inl (fun _ => 0))))] := hD
  refine W.widen (k := 2) (n := 16) (Nat.le_of_ble_eq_true rfl) (Nat.le_of_ble_eq_true rfl) ?_
  exact W.vret hx hb hr (fun t ht hW => ⟨⟨(), rfl, trivial, fun j => [h0, q1, q2].getD j 0, by rw [ht]; exact hP, va_K.moved hW.alike hK, hD⟩, hS.F ht⟩) hS.2.2 dX9_init_20

abbrev mX3_init : MI := (yX3_init, cX3_init, 1, none)
theorem ok_X3_init : okNw mX3_init 0 := ⟨⟨mg_1 33 (by decide +kernel) (by decide +kernel), by decide +kernel, by decide, mg_1 2 (by decide +kernel) (by decide +kernel)⟩, ⟨by decide +kernel, by decide +kernel, by decide +kernel⟩, mg_1 32 (by decide +kernel) (by decide +kernel), rfl, rfl⟩
abbrev wX3 (cA : Nat → ClassId) (h0 : Nat) (a : Nat → Nat) : va_W := ((h0, .inr (3, [.ref (a 1), .ref (a 6), .int 0, .int (-1), .ref (a 10), .int 0, .int 0, .int 0, .int 0, .int 0, .int 0])) :: ((a 1), .inr (6, [.int 1, .int 0, .ref (a 2), .ref (a 3), .ref (a 4), .ref (a 5), .int 0, .int 0, .int 3, .int 20, .int 40, .int 0])) :: ((a 2), .inl (cA 0, 8, .inl (fun _ => 0))) :: ((a 3), .inl (cA 0, 8, .inl (fun _ => 0))) :: ((a 4), .inl (cA 0, 8, .inl (fun _ => 0))) :: ((a 5), .inl (cA 0, 8, .inl (fun _ => 0))) :: ((a 6), .inr (1, [.int 0, .ref (a 7), .ref (a 8), .ref (a 9), .int 0])) :: ((a 7), .inl (cA 0, 12, .inl (fun _ => 0))) :: ((a 8), .inl (cA 0, 12, .inl (fun _ => 0))) :: ((a 9), .inl (cA 0, 400, .inl (fun _ => 0))) :: ((a 10), .inl (cA 3, 0, .inl (fun _ => 0))) :: [])
set_option maxHeartbeats 4000000 in
set_option maxRecDepth 100000 in
theorem c_X3_init (l : Launch) (D : va_G) (cA : Nat → ClassId) (h0 : Nat) : cN l D cA mX3_init [(h0, .inr (3, [.null, .null, .int 0, .int 0, .null, .int 0, .int 0, .int 0, .int 0, .int 0, .int 0]))] (wX3 cA h0) [.ref h0] { frames := 2, cells := 10, slots := 473, locals := 84 } 10 473 := by
  intro sz
  refine Met.ofW (cc := cX3_init) (maxL := 1) (ret := none) (by decide +kernel) rfl ?_
  intro p e s m args below meth c s₁ B hml hv
  obtain ⟨rfl, hsz, hP, hK, hD0, hE⟩ := hv
  have hx := B.exec
  have hb := B.bytes
  have hr := B.returns
  have hts0 := atoms_spec (ws := mw mX3_init) B.pre
  have hts : ∀ w ∈ mG, w.before _ s = true := fun w hw => hts0 w (List.mem_cons_of_mem _ hw)
  have hown : s.vm.findClass RX3 = some m.cls := findClass_of_methodNamed B.named
  have hin : meth.name = "<init>" := (name_of_methodNamed B.named B.method).1
  subst hsz
  have hD := hD0.self (sz := s.heap.size)
  generalize hAe : va_A [(h0, .inr (3, [.null, .null, .int 0, .int 0, .null, .int 0, .int 0, .int 0, .int 0, .int 0, .int 0]))] s.heap.size = A at hD ⊢
  have hA : ∀ q : Nat, s.heap.size ≤ q → A q := fun q h => by rw [← hAe]; exact Or.inr h
  have hS : va_S A s.heap s.heap [] := va_S.rf
  have hl := lv_entry ([.ref h0]) (n := 1) (Nat.le_of_ble_eq_true rfl)
  rw [lg_entry_eq]
  generalize (lg_sl ([.ref h0]) ++ List.replicate (1 - (lg_sl ([.ref h0])).length) Slot.unset).toArray = ls at hl ⊢
  have hl : lv_has ls 1 [(0, .ref h0)] := hl
  refine lv_aload_n hx hb dX3_init_0 rfl (lv_at hl 0 rfl) ?_
  refine W.objInit hx hb hown (hts _ (mg_1 34 (by decide +kernel) (by decide +kernel))) (hts _ (mg_1 27 (by decide +kernel) (by decide +kernel))) (hts _ (mg_1 28 (by decide +kernel) (by decide +kernel))) rfl (by rw [hml]; exact hl.1) rfl dX3_init_1 (Nat.le_of_ble_eq_true rfl) (Nat.le_of_ble_eq_true rfl) ?_
  refine W.eq (g2 := F0 m 4 ls []) rfl ?_
  refine lv_aload_n hx hb dX3_init_4 rfl (lv_at hl 0 rfl) ?_
  refine va_new (ci := 6) (fs := [.int 0, .int 0, .null, .null, .null, .null, .int 0, .int 0, .int 0, .int 0, .int 0, .int 0]) (C := RX6) (T := TX6) (N := 12) hx hb hts (mcl_in (ci := 6) rfl) tyX6 tyX6_ok hown (hts _ (mg_1 35 (by decide +kernel) (by decide +kernel))) (hts _ (mg_1 36 (by decide +kernel) (by decide +kernel))) (hts _ (mg_1 3 (by decide +kernel) (by decide +kernel))) hK hP hD hS hA rfl (fun j hj => by rcases (show j = 0 ∨ j = 1 ∨ j = 2 ∨ j = 3 ∨ j = 4 ∨ j = 5 ∨ j = 6 ∨ j = 7 ∨ j = 8 ∨ j = 9 ∨ j = 10 ∨ j = 11 by omega) with rfl | rfl | rfl | rfl | rfl | rfl | rfl | rfl | rfl | rfl | rfl | rfl <;> rfl) (Nat.le_of_ble_eq_true rfl) (Nat.le_of_ble_eq_true rfl) dX3_init_5 (fun q1 H hP hD hS => ?_)
  have hP : va_P D mcl [(h0, .inr (3, [.null, .null, .int 0, .int 0, .null, .int 0, .int 0, .int 0, .int 0, .int 0, .int 0])), (q1, .inr (6, [.int 0, .int 0, .null, .null, .null, .null, .int 0, .int 0, .int 0, .int 0, .int 0, .int 0]))] H := hP
  have hD : va_D A [(h0, .inr (3, [.null, .null, .int 0, .int 0, .null, .int 0, .int 0, .int 0, .int 0, .int 0, .int 0])), (q1, .inr (6, [.int 0, .int 0, .null, .null, .null, .null, .int 0, .int 0, .int 0, .int 0, .int 0, .int 0]))] := hD
  refine lv_dup hx hb dX3_init_8 rfl ?_
  refine ini_callN (ws := [(h0, .inr (3, [.null, .null, .int 0, .int 0, .null, .int 0, .int 0, .int 0, .int 0, .int 0, .int 0]))]) [] hx hb hml hown hts hK hE (c_X6_init l D cA q1 ) (List.mem_of_getElem? (i := 1) rfl) ok_X6_init rfl hP hD hS hA rfl rfl ⟨(Nat.le_of_ble_eq_true rfl), (Nat.le_of_ble_eq_true rfl)⟩ hl.1 (Nat.le_of_ble_eq_true rfl) dX3_init_9 ⟨(Nat.le_of_ble_eq_true rfl), (Nat.le_of_ble_eq_true rfl)⟩ (fun a2 H locs hP hD hS => ?_)
  have hP : va_P D mcl [(h0, .inr (3, [.null, .null, .int 0, .int 0, .null, .int 0, .int 0, .int 0, .int 0, .int 0, .int 0])), (q1, .inr (6, [.int 1, .int 0, .ref (a2 1), .ref (a2 2), .ref (a2 3), .ref (a2 4), .int 0, .int 0, .int 3, .int 20, .int 40, .int 0])), ((a2 1), .inl (cA 0, 8, .inl (fun _ => 0))), ((a2 2), .inl (cA 0, 8, .inl (fun _ => 0))), ((a2 3), .inl (cA 0, 8, .inl (fun _ => 0))), ((a2 4), .inl (cA 0, 8, .inl (fun _ => 0)))] H := hP
  have hD : va_D A [(h0, .inr (3, [.null, .null, .int 0, .int 0, .null, .int 0, .int 0, .int 0, .int 0, .int 0, .int 0])), (q1, .inr (6, [.int 1, .int 0, .ref (a2 1), .ref (a2 2), .ref (a2 3), .ref (a2 4), .int 0, .int 0, .int 3, .int 20, .int 40, .int 0])), ((a2 1), .inl (cA 0, 8, .inl (fun _ => 0))), ((a2 2), .inl (cA 0, 8, .inl (fun _ => 0))), ((a2 3), .inl (cA 0, 8, .inl (fun _ => 0))), ((a2 4), .inl (cA 0, 8, .inl (fun _ => 0)))] := hD
  refine va_putF (D := D) (ci := 3) (v := .ref q1) (ty := tyX3 0) (C := RX3) (T := TX3) (N := 11) hx hb hts (mcl_in (ci := 3) rfl) tyX3 tyX3_ok nmX3 hown hK hP hD hS 0 rfl rfl 0 (by decide) (hts _ (mg_1 139 (by decide +kernel) (by decide +kernel))) (fun _ h9 => h9) rfl hin rfl (tyX3_ok 0 (by decide)) rfl rfl (Nat.le_of_ble_eq_true rfl) dX3_init_12 (fun H locs hP hD hS => ?_)
  have hP : va_P D mcl [(h0, .inr (3, [.ref q1, .null, .int 0, .int 0, .null, .int 0, .int 0, .int 0, .int 0, .int 0, .int 0])), (q1, .inr (6, [.int 1, .int 0, .ref (a2 1), .ref (a2 2), .ref (a2 3), .ref (a2 4), .int 0, .int 0, .int 3, .int 20, .int 40, .int 0])), ((a2 1), .inl (cA 0, 8, .inl (fun _ => 0))), ((a2 2), .inl (cA 0, 8, .inl (fun _ => 0))), ((a2 3), .inl (cA 0, 8, .inl (fun _ => 0))), ((a2 4), .inl (cA 0, 8, .inl (fun _ => 0)))] H := hP
  have hD : va_D A [(h0, .inr (3, [.ref q1, .null, .int 0, .int 0, .null, .int 0, .int 0, .int 0, .int 0, .int 0, .int 0])), (q1, .inr (6, [.int 1, .int 0, .ref (a2 1), .ref (a2 2), .ref (a2 3), .ref (a2 4), .int 0, .int 0, .int 3, .int 20, .int 40, .int 0])), ((a2 1), .inl (cA 0, 8, .inl (fun _ => 0))), ((a2 2), .inl (cA 0, 8, .inl (fun _ => 0))), ((a2 3), .inl (cA 0, 8, .inl (fun _ => 0))), ((a2 4), .inl (cA 0, 8, .inl (fun _ => 0)))] := hD
  refine lv_aload_n hx hb dX3_init_15 rfl (lv_at hl 0 rfl) ?_
  refine va_new (ci := 1) (fs := [.int 0, .null, .null, .null, .int 0]) (C := RX1) (T := TX1) (N := 5) hx hb hts (mcl_in (ci := 1) rfl) tyX1 tyX1_ok hown (hts _ (mg_1 111 (by decide +kernel) (by decide +kernel))) (hts _ (mg_1 112 (by decide +kernel) (by decide +kernel))) (hts _ (mg_1 4 (by decide +kernel) (by decide +kernel))) hK hP hD hS hA rfl (fun j hj => by rcases (show j = 0 ∨ j = 1 ∨ j = 2 ∨ j = 3 ∨ j = 4 by omega) with rfl | rfl | rfl | rfl | rfl <;> rfl) (Nat.le_of_ble_eq_true rfl) (Nat.le_of_ble_eq_true rfl) dX3_init_16 (fun q3 H hP hD hS => ?_)
  have hP : va_P D mcl [(h0, .inr (3, [.ref q1, .null, .int 0, .int 0, .null, .int 0, .int 0, .int 0, .int 0, .int 0, .int 0])), (q1, .inr (6, [.int 1, .int 0, .ref (a2 1), .ref (a2 2), .ref (a2 3), .ref (a2 4), .int 0, .int 0, .int 3, .int 20, .int 40, .int 0])), ((a2 1), .inl (cA 0, 8, .inl (fun _ => 0))), ((a2 2), .inl (cA 0, 8, .inl (fun _ => 0))), ((a2 3), .inl (cA 0, 8, .inl (fun _ => 0))), ((a2 4), .inl (cA 0, 8, .inl (fun _ => 0))), (q3, .inr (1, [.int 0, .null, .null, .null, .int 0]))] H := hP
  have hD : va_D A [(h0, .inr (3, [.ref q1, .null, .int 0, .int 0, .null, .int 0, .int 0, .int 0, .int 0, .int 0, .int 0])), (q1, .inr (6, [.int 1, .int 0, .ref (a2 1), .ref (a2 2), .ref (a2 3), .ref (a2 4), .int 0, .int 0, .int 3, .int 20, .int 40, .int 0])), ((a2 1), .inl (cA 0, 8, .inl (fun _ => 0))), ((a2 2), .inl (cA 0, 8, .inl (fun _ => 0))), ((a2 3), .inl (cA 0, 8, .inl (fun _ => 0))), ((a2 4), .inl (cA 0, 8, .inl (fun _ => 0))), (q3, .inr (1, [.int 0, .null, .null, .null, .int 0]))] := hD
  refine lv_dup hx hb dX3_init_19 rfl ?_
  refine ini_callN (ws := [(h0, .inr (3, [.ref q1, .null, .int 0, .int 0, .null, .int 0, .int 0, .int 0, .int 0, .int 0, .int 0])), (q1, .inr (6, [.int 1, .int 0, .ref (a2 1), .ref (a2 2), .ref (a2 3), .ref (a2 4), .int 0, .int 0, .int 3, .int 20, .int 40, .int 0])), ((a2 1), .inl (cA 0, 8, .inl (fun _ => 0))), ((a2 2), .inl (cA 0, 8, .inl (fun _ => 0))), ((a2 3), .inl (cA 0, 8, .inl (fun _ => 0))), ((a2 4), .inl (cA 0, 8, .inl (fun _ => 0)))]) [] hx hb hml hown hts hK hE (c_X1_init l D cA q3 ) (List.mem_of_getElem? (i := 2) rfl) ok_X1_init rfl hP hD hS hA rfl rfl ⟨(Nat.le_of_ble_eq_true rfl), (Nat.le_of_ble_eq_true rfl)⟩ hl.1 (Nat.le_of_ble_eq_true rfl) dX3_init_20 ⟨(Nat.le_of_ble_eq_true rfl), (Nat.le_of_ble_eq_true rfl)⟩ (fun a4 H locs hP hD hS => ?_)
  have hP : va_P D mcl ((h0, .inr (3, [.ref q1, .null, .int 0, .int 0, .null, .int 0, .int 0, .int 0, .int 0, .int 0, .int 0])) :: (q1, .inr (6, [.int 1, .int 0, .ref (a2 1), .ref (a2 2), .ref (a2 3), .ref (a2 4), .int 0, .int 0, .int 3, .int 20, .int 40, .int 0])) :: ((a2 1), .inl (cA 0, 8, .inl (fun _ => 0))) :: ((a2 2), .inl (cA 0, 8, .inl (fun _ => 0))) :: ((a2 3), .inl (cA 0, 8, .inl (fun _ => 0))) :: ((a2 4), .inl (cA 0, 8, .inl (fun _ => 0))) :: (q3, .inr (1, [.int 0, .ref (a4 1), .ref (a4 2), .ref (a4 3), .int 0])) :: ((a4 1), .inl (cA 0, 12, .inl (fun _ => 0))) :: ((a4 2), .inl (cA 0, 12, .inl (fun _ => 0))) :: ((a4 3), .inl (cA 0, 400, .inl (fun _ => 0))) :: []) H := hP
  have hD : va_D A ((h0, .inr (3, [.ref q1, .null, .int 0, .int 0, .null, .int 0, .int 0, .int 0, .int 0, .int 0, .int 0])) :: (q1, .inr (6, [.int 1, .int 0, .ref (a2 1), .ref (a2 2), .ref (a2 3), .ref (a2 4), .int 0, .int 0, .int 3, .int 20, .int 40, .int 0])) :: ((a2 1), .inl (cA 0, 8, .inl (fun _ => 0))) :: ((a2 2), .inl (cA 0, 8, .inl (fun _ => 0))) :: ((a2 3), .inl (cA 0, 8, .inl (fun _ => 0))) :: ((a2 4), .inl (cA 0, 8, .inl (fun _ => 0))) :: (q3, .inr (1, [.int 0, .ref (a4 1), .ref (a4 2), .ref (a4 3), .int 0])) :: ((a4 1), .inl (cA 0, 12, .inl (fun _ => 0))) :: ((a4 2), .inl (cA 0, 12, .inl (fun _ => 0))) :: ((a4 3), .inl (cA 0, 400, .inl (fun _ => 0))) :: []) := hD
  refine va_putF (D := D) (ci := 3) (v := .ref q3) (ty := tyX3 1) (C := RX3) (T := TX3) (N := 11) hx hb hts (mcl_in (ci := 3) rfl) tyX3 tyX3_ok nmX3 hown hK hP hD hS 0 rfl rfl 1 (by decide) (hts _ (mg_1 141 (by decide +kernel) (by decide +kernel))) (fun _ h9 => h9) rfl hin rfl (tyX3_ok 1 (by decide)) rfl rfl (Nat.le_of_ble_eq_true rfl) dX3_init_23 (fun H locs hP hD hS => ?_)
  have hP : va_P D mcl ((h0, .inr (3, [.ref q1, .ref q3, .int 0, .int 0, .null, .int 0, .int 0, .int 0, .int 0, .int 0, .int 0])) :: (q1, .inr (6, [.int 1, .int 0, .ref (a2 1), .ref (a2 2), .ref (a2 3), .ref (a2 4), .int 0, .int 0, .int 3, .int 20, .int 40, .int 0])) :: ((a2 1), .inl (cA 0, 8, .inl (fun _ => 0))) :: ((a2 2), .inl (cA 0, 8, .inl (fun _ => 0))) :: ((a2 3), .inl (cA 0, 8, .inl (fun _ => 0))) :: ((a2 4), .inl (cA 0, 8, .inl (fun _ => 0))) :: (q3, .inr (1, [.int 0, .ref (a4 1), .ref (a4 2), .ref (a4 3), .int 0])) :: ((a4 1), .inl (cA 0, 12, .inl (fun _ => 0))) :: ((a4 2), .inl (cA 0, 12, .inl (fun _ => 0))) :: ((a4 3), .inl (cA 0, 400, .inl (fun _ => 0))) :: []) H := hP
  have hD : va_D A ((h0, .inr (3, [.ref q1, .ref q3, .int 0, .int 0, .null, .int 0, .int 0, .int 0, .int 0, .int 0, .int 0])) :: (q1, .inr (6, [.int 1, .int 0, .ref (a2 1), .ref (a2 2), .ref (a2 3), .ref (a2 4), .int 0, .int 0, .int 3, .int 20, .int 40, .int 0])) :: ((a2 1), .inl (cA 0, 8, .inl (fun _ => 0))) :: ((a2 2), .inl (cA 0, 8, .inl (fun _ => 0))) :: ((a2 3), .inl (cA 0, 8, .inl (fun _ => 0))) :: ((a2 4), .inl (cA 0, 8, .inl (fun _ => 0))) :: (q3, .inr (1, [.int 0, .ref (a4 1), .ref (a4 2), .ref (a4 3), .int 0])) :: ((a4 1), .inl (cA 0, 12, .inl (fun _ => 0))) :: ((a4 2), .inl (cA 0, 12, .inl (fun _ => 0))) :: ((a4 3), .inl (cA 0, 400, .inl (fun _ => 0))) :: []) := hD
  refine lv_aload_n hx hb dX3_init_26 rfl (lv_at hl 0 rfl) ?_
  refine lv_iconst (v := -1) hx hb dX3_init_27 (by decide) ?_
  refine va_put (D := D) (ci := 3) (v := .int (-1)) (ty := tyX3 3) (C := RX3) (T := TX3) (N := 11) hx hb hts (mcl_in (ci := 3) rfl) tyX3 tyX3_ok nmX3 hown hK hP hD hS 0 rfl rfl 3 (by decide) (hts _ (mg_1 145 (by decide +kernel) (by decide +kernel))) (fun _ h9 => h9) rfl (tyX3_ok 3 (by decide)) rfl rfl (Nat.le_of_ble_eq_true rfl) dX3_init_28 (fun H locs hP hD hS => ?_)
  have hP : va_P D mcl ((h0, .inr (3, [.ref q1, .ref q3, .int 0, .int (-1), .null, .int 0, .int 0, .int 0, .int 0, .int 0, .int 0])) :: (q1, .inr (6, [.int 1, .int 0, .ref (a2 1), .ref (a2 2), .ref (a2 3), .ref (a2 4), .int 0, .int 0, .int 3, .int 20, .int 40, .int 0])) :: ((a2 1), .inl (cA 0, 8, .inl (fun _ => 0))) :: ((a2 2), .inl (cA 0, 8, .inl (fun _ => 0))) :: ((a2 3), .inl (cA 0, 8, .inl (fun _ => 0))) :: ((a2 4), .inl (cA 0, 8, .inl (fun _ => 0))) :: (q3, .inr (1, [.int 0, .ref (a4 1), .ref (a4 2), .ref (a4 3), .int 0])) :: ((a4 1), .inl (cA 0, 12, .inl (fun _ => 0))) :: ((a4 2), .inl (cA 0, 12, .inl (fun _ => 0))) :: ((a4 3), .inl (cA 0, 400, .inl (fun _ => 0))) :: []) H := hP
  have hD : va_D A ((h0, .inr (3, [.ref q1, .ref q3, .int 0, .int (-1), .null, .int 0, .int 0, .int 0, .int 0, .int 0, .int 0])) :: (q1, .inr (6, [.int 1, .int 0, .ref (a2 1), .ref (a2 2), .ref (a2 3), .ref (a2 4), .int 0, .int 0, .int 3, .int 20, .int 40, .int 0])) :: ((a2 1), .inl (cA 0, 8, .inl (fun _ => 0))) :: ((a2 2), .inl (cA 0, 8, .inl (fun _ => 0))) :: ((a2 3), .inl (cA 0, 8, .inl (fun _ => 0))) :: ((a2 4), .inl (cA 0, 8, .inl (fun _ => 0))) :: (q3, .inr (1, [.int 0, .ref (a4 1), .ref (a4 2), .ref (a4 3), .int 0])) :: ((a4 1), .inl (cA 0, 12, .inl (fun _ => 0))) :: ((a4 2), .inl (cA 0, 12, .inl (fun _ => 0))) :: ((a4 3), .inl (cA 0, 400, .inl (fun _ => 0))) :: []) := hD
  refine lv_aload_n hx hb dX3_init_31 rfl (lv_at hl 0 rfl) ?_
  refine lv_iconst (v := 0) hx hb dX3_init_32 (by decide) ?_
  refine na_B hx hb hts hK hP hD hS hA 0 (by decide) (by decide) (Nat.le_of_ble_eq_true rfl) (Nat.le_of_ble_eq_true rfl) (Nat.le_of_ble_eq_true rfl) dX3_init_33 (fun q5 H hP hD hS => ?_)
  have hP : va_P D mcl ((h0, .inr (3, [.ref q1, .ref q3, .int 0, .int (-1), .null, .int 0, .int 0, .int 0, .int 0, .int 0, .int 0])) :: (q1, .inr (6, [.int 1, .int 0, .ref (a2 1), .ref (a2 2), .ref (a2 3), .ref (a2 4), .int 0, .int 0, .int 3, .int 20, .int 40, .int 0])) :: ((a2 1), .inl (cA 0, 8, .inl (fun _ => 0))) :: ((a2 2), .inl (cA 0, 8, .inl (fun _ => 0))) :: ((a2 3), .inl (cA 0, 8, .inl (fun _ => 0))) :: ((a2 4), .inl (cA 0, 8, .inl (fun _ => 0))) :: (q3, .inr (1, [.int 0, .ref (a4 1), .ref (a4 2), .ref (a4 3), .int 0])) :: ((a4 1), .inl (cA 0, 12, .inl (fun _ => 0))) :: ((a4 2), .inl (cA 0, 12, .inl (fun _ => 0))) :: ((a4 3), .inl (cA 0, 400, .inl (fun _ => 0))) :: (q5, .inl (cA 3, 0, .inl (fun _ => 0))) :: []) H := hP
  have hD : va_D A ((h0, .inr (3, [.ref q1, .ref q3, .int 0, .int (-1), .null, .int 0, .int 0, .int 0, .int 0, .int 0, .int 0])) :: (q1, .inr (6, [.int 1, .int 0, .ref (a2 1), .ref (a2 2), .ref (a2 3), .ref (a2 4), .int 0, .int 0, .int 3, .int 20, .int 40, .int 0])) :: ((a2 1), .inl (cA 0, 8, .inl (fun _ => 0))) :: ((a2 2), .inl (cA 0, 8, .inl (fun _ => 0))) :: ((a2 3), .inl (cA 0, 8, .inl (fun _ => 0))) :: ((a2 4), .inl (cA 0, 8, .inl (fun _ => 0))) :: (q3, .inr (1, [.int 0, .ref (a4 1), .ref (a4 2), .ref (a4 3), .int 0])) :: ((a4 1), .inl (cA 0, 12, .inl (fun _ => 0))) :: ((a4 2), .inl (cA 0, 12, .inl (fun _ => 0))) :: ((a4 3), .inl (cA 0, 400, .inl (fun _ => 0))) :: (q5, .inl (cA 3, 0, .inl (fun _ => 0))) :: []) := hD
  refine va_put (D := D) (ci := 3) (v := .ref q5) (ty := tyX3 4) (C := RX3) (T := TX3) (N := 11) hx hb hts (mcl_in (ci := 3) rfl) tyX3 tyX3_ok nmX3 hown hK hP hD hS 0 rfl rfl 4 (by decide) (hts _ (mg_1 147 (by decide +kernel) (by decide +kernel))) (fun _ h9 => h9) rfl (tyX3_ok 4 (by decide)) rfl rfl (Nat.le_of_ble_eq_true rfl) dX3_init_35 (fun H locs hP hD hS => ?_)
  have hP : va_P D mcl ((h0, .inr (3, [.ref q1, .ref q3, .int 0, .int (-1), .ref q5, .int 0, .int 0, .int 0, .int 0, .int 0, .int 0])) :: (q1, .inr (6, [.int 1, .int 0, .ref (a2 1), .ref (a2 2), .ref (a2 3), .ref (a2 4), .int 0, .int 0, .int 3, .int 20, .int 40, .int 0])) :: ((a2 1), .inl (cA 0, 8, .inl (fun _ => 0))) :: ((a2 2), .inl (cA 0, 8, .inl (fun _ => 0))) :: ((a2 3), .inl (cA 0, 8, .inl (fun _ => 0))) :: ((a2 4), .inl (cA 0, 8, .inl (fun _ => 0))) :: (q3, .inr (1, [.int 0, .ref (a4 1), .ref (a4 2), .ref (a4 3), .int 0])) :: ((a4 1), .inl (cA 0, 12, .inl (fun _ => 0))) :: ((a4 2), .inl (cA 0, 12, .inl (fun _ => 0))) :: ((a4 3), .inl (cA 0, 400, .inl (fun _ => 0))) :: (q5, .inl (cA 3, 0, .inl (fun _ => 0))) :: []) H := hP
  have hD : va_D A ((h0, .inr (3, [.ref q1, .ref q3, .int 0, .int (-1), .ref q5, .int 0, .int 0, .int 0, .int 0, .int 0, .int 0])) :: (q1, .inr (6, [.int 1, .int 0, .ref (a2 1), .ref (a2 2), .ref (a2 3), .ref (a2 4), .int 0, .int 0, .int 3, .int 20, .int 40, .int 0])) :: ((a2 1), .inl (cA 0, 8, .inl (fun _ => 0))) :: ((a2 2), .inl (cA 0, 8, .inl (fun _ => 0))) :: ((a2 3), .inl (cA 0, 8, .inl (fun _ => 0))) :: ((a2 4), .inl (cA 0, 8, .inl (fun _ => 0))) :: (q3, .inr (1, [.int 0, .ref (a4 1), .ref (a4 2), .ref (a4 3), .int 0])) :: ((a4 1), .inl (cA 0, 12, .inl (fun _ => 0))) :: ((a4 2), .inl (cA 0, 12, .inl (fun _ => 0))) :: ((a4 3), .inl (cA 0, 400, .inl (fun _ => 0))) :: (q5, .inl (cA 3, 0, .inl (fun _ => 0))) :: []) := hD
  refine W.widen (k := 10) (n := 473) (Nat.le_of_ble_eq_true rfl) (Nat.le_of_ble_eq_true rfl) ?_
  exact W.vret hx hb hr (fun t ht hW => ⟨⟨(), rfl, trivial, fun j => (h0 :: q1 :: (a2 1) :: (a2 2) :: (a2 3) :: (a2 4) :: q3 :: (a4 1) :: (a4 2) :: (a4 3) :: q5 :: []).getD j 0, by rw [ht]; exact hP, va_K.moved hW.alike hK, hD⟩, hS.F ht⟩) hS.2.2 dX3_init_38

abbrev mX8_init : MI := (yX8_init, cX8_init, 1, none)
theorem ok_X8_init : okNw mX8_init 0 := ⟨⟨mg_1 181 (by decide +kernel) (by decide +kernel), by decide +kernel, by decide, mg_1 5 (by decide +kernel) (by decide +kernel)⟩, ⟨by decide +kernel, by decide +kernel, by decide +kernel⟩, mg_1 180 (by decide +kernel) (by decide +kernel), rfl, rfl⟩
abbrev wX8 (cA : Nat → ClassId) (h0 : Nat) (a : Nat → Nat) : va_W := ((h0, .inr (8, [.ref (a 1), .ref (a 6), .ref (a 10), .ref (a 19)])) :: ((a 1), .inr (6, [.int 1, .int 0, .ref (a 2), .ref (a 3), .ref (a 4), .ref (a 5), .int 0, .int 0, .int 3, .int 20, .int 40, .int 0])) :: ((a 2), .inl (cA 0, 8, .inl (fun _ => 0))) :: ((a 3), .inl (cA 0, 8, .inl (fun _ => 0))) :: ((a 4), .inl (cA 0, 8, .inl (fun _ => 0))) :: ((a 5), .inl (cA 0, 8, .inl (fun _ => 0))) :: ((a 6), .inr (1, [.int 0, .ref (a 7), .ref (a 8), .ref (a 9), .int 0])) :: ((a 7), .inl (cA 0, 12, .inl (fun _ => 0))) :: ((a 8), .inl (cA 0, 12, .inl (fun _ => 0))) :: ((a 9), .inl (cA 0, 400, .inl (fun _ => 0))) :: ((a 10), .inr (2, [.int 0, .ref (a 11), .ref (a 12), .ref (a 13), .ref (a 14), .ref (a 15), .ref (a 16), .ref (a 17), .ref (a 18)])) :: ((a 11), .inl (cA 0, 12, .inl (fun _ => 0))) :: ((a 12), .inl (cA 0, 12, .inl (fun _ => 0))) :: ((a 13), .inl (cA 0, 12, .inl (fun _ => 0))) :: ((a 14), .inl (cA 0, 12, .inl (fun _ => 0))) :: ((a 15), .inl (cA 0, 12, .inl (fun _ => 0))) :: ((a 16), .inl (cA 0, 12, .inl (fun _ => 0))) :: ((a 17), .inl (cA 0, 4, .inl (upd (upd (upd (upd (fun _ => 0) 0 1) 1 1) 2 1) 3 1))) :: ((a 18), .inl (cA 0, 4, .inl (upd (upd (upd (upd (fun _ => 0) 0 100) 1 100) 2 100) 3 100))) :: ((a 19), .inl (cA 0, 20, .inl (fun _ => 0))) :: [])
set_option maxHeartbeats 4000000 in
set_option maxRecDepth 100000 in
theorem c_X8_init (l : Launch) (D : va_G) (cA : Nat → ClassId) (h0 : Nat) : cN l D cA mX8_init [(h0, .inr (8, [.null, .null, .null, .null]))] (wX8 cA h0) [.ref h0] { frames := 2, cells := 19, slots := 582, locals := 84 } 19 582 := by
  intro sz
  refine Met.ofW (cc := cX8_init) (maxL := 1) (ret := none) (by decide +kernel) rfl ?_
  intro p e s m args below meth c s₁ B hml hv
  obtain ⟨rfl, hsz, hP, hK, hD0, hE⟩ := hv
  have hx := B.exec
  have hb := B.bytes
  have hr := B.returns
  have hts0 := atoms_spec (ws := mw mX8_init) B.pre
  have hts : ∀ w ∈ mG, w.before _ s = true := fun w hw => hts0 w (List.mem_cons_of_mem _ hw)
  have hown : s.vm.findClass RX8 = some m.cls := findClass_of_methodNamed B.named
  have hin : meth.name = "<init>" := (name_of_methodNamed B.named B.method).1
  subst hsz
  have hD := hD0.self (sz := s.heap.size)
  generalize hAe : va_A [(h0, .inr (8, [.null, .null, .null, .null]))] s.heap.size = A at hD ⊢
  have hA : ∀ q : Nat, s.heap.size ≤ q → A q := fun q h => by rw [← hAe]; exact Or.inr h
  have hS : va_S A s.heap s.heap [] := va_S.rf
  have hl := lv_entry ([.ref h0]) (n := 1) (Nat.le_of_ble_eq_true rfl)
  rw [lg_entry_eq]
  generalize (lg_sl ([.ref h0]) ++ List.replicate (1 - (lg_sl ([.ref h0])).length) Slot.unset).toArray = ls at hl ⊢
  have hl : lv_has ls 1 [(0, .ref h0)] := hl
  refine lv_aload_n hx hb dX8_init_0 rfl (lv_at hl 0 rfl) ?_
  refine W.objInit hx hb hown (hts _ (mg_1 182 (by decide +kernel) (by decide +kernel))) (hts _ (mg_1 27 (by decide +kernel) (by decide +kernel))) (hts _ (mg_1 28 (by decide +kernel) (by decide +kernel))) rfl (by rw [hml]; exact hl.1) rfl dX8_init_1 (Nat.le_of_ble_eq_true rfl) (Nat.le_of_ble_eq_true rfl) ?_
  refine W.eq (g2 := F0 m 4 ls []) rfl ?_
  refine lv_aload_n hx hb dX8_init_4 rfl (lv_at hl 0 rfl) ?_
  refine va_new (ci := 6) (fs := [.int 0, .int 0, .null, .null, .null, .null, .int 0, .int 0, .int 0, .int 0, .int 0, .int 0]) (C := RX6) (T := TX6) (N := 12) hx hb hts (mcl_in (ci := 6) rfl) tyX6 tyX6_ok hown (hts _ (mg_1 183 (by decide +kernel) (by decide +kernel))) (hts _ (mg_1 36 (by decide +kernel) (by decide +kernel))) (hts _ (mg_1 3 (by decide +kernel) (by decide +kernel))) hK hP hD hS hA rfl (fun j hj => by rcases (show j = 0 ∨ j = 1 ∨ j = 2 ∨ j = 3 ∨ j = 4 ∨ j = 5 ∨ j = 6 ∨ j = 7 ∨ j = 8 ∨ j = 9 ∨ j = 10 ∨ j = 11 by omega) with rfl | rfl | rfl | rfl | rfl | rfl | rfl | rfl | rfl | rfl | rfl | rfl <;> rfl) (Nat.le_of_ble_eq_true rfl) (Nat.le_of_ble_eq_true rfl) dX8_init_5 (fun q1 H hP hD hS => ?_)
  have hP : va_P D mcl [(h0, .inr (8, [.null, .null, .null, .null])), (q1, .inr (6, [.int 0, .int 0, .null, .null, .null, .null, .int 0, .int 0, .int 0, .int 0, .int 0, .int 0]))] H := hP
  have hD : va_D A [(h0, .inr (8, [.null, .null, .null, .null])), (q1, .inr (6, [.int 0, .int 0, .null, .null, .null, .null, .int 0, .int 0, .int 0, .int 0, .int 0, .int 0]))] := hD
  refine lv_dup hx hb dX8_init_8 rfl ?_
  refine ini_callN (ws := [(h0, .inr (8, [.null, .null, .null, .null]))]) [] hx hb hml hown hts hK hE (c_X6_init l D cA q1 ) (List.mem_of_getElem? (i := 4) rfl) ok_X6_init rfl hP hD hS hA rfl rfl ⟨(Nat.le_of_ble_eq_true rfl), (Nat.le_of_ble_eq_true rfl)⟩ hl.1 (Nat.le_of_ble_eq_true rfl) dX8_init_9 ⟨(Nat.le_of_ble_eq_true rfl), (Nat.le_of_ble_eq_true rfl)⟩ (fun a2 H locs hP hD hS => ?_)
  have hP : va_P D mcl [(h0, .inr (8, [.null, .null, .null, .null])), (q1, .inr (6, [.int 1, .int 0, .ref (a2 1), .ref (a2 2), .ref (a2 3), .ref (a2 4), .int 0, .int 0, .int 3, .int 20, .int 40, .int 0])), ((a2 1), .inl (cA 0, 8, .inl (fun _ => 0))), ((a2 2), .inl (cA 0, 8, .inl (fun _ => 0))), ((a2 3), .inl (cA 0, 8, .inl (fun _ => 0))), ((a2 4), .inl (cA 0, 8, .inl (fun _ => 0)))] H := hP
  have hD : va_D A [(h0, .inr (8, [.null, .null, .null, .null])), (q1, .inr (6, [.int 1, .int 0, .ref (a2 1), .ref (a2 2), .ref (a2 3), .ref (a2 4), .int 0, .int 0, .int 3, .int 20, .int 40, .int 0])), ((a2 1), .inl (cA 0, 8, .inl (fun _ => 0))), ((a2 2), .inl (cA 0, 8, .inl (fun _ => 0))), ((a2 3), .inl (cA 0, 8, .inl (fun _ => 0))), ((a2 4), .inl (cA 0, 8, .inl (fun _ => 0)))] := hD
  refine va_putF (D := D) (ci := 8) (v := .ref q1) (ty := tyX8 0) (C := RX8) (T := TX8) (N := 4) hx hb hts (mcl_in (ci := 8) rfl) tyX8 tyX8_ok nmX8 hown hK hP hD hS 0 rfl rfl 0 (by decide) (hts _ (mg_1 231 (by decide +kernel) (by decide +kernel))) (fun _ h9 => h9) rfl hin rfl (tyX8_ok 0 (by decide)) rfl rfl (Nat.le_of_ble_eq_true rfl) dX8_init_12 (fun H locs hP hD hS => ?_)
  have hP : va_P D mcl [(h0, .inr (8, [.ref q1, .null, .null, .null])), (q1, .inr (6, [.int 1, .int 0, .ref (a2 1), .ref (a2 2), .ref (a2 3), .ref (a2 4), .int 0, .int 0, .int 3, .int 20, .int 40, .int 0])), ((a2 1), .inl (cA 0, 8, .inl (fun _ => 0))), ((a2 2), .inl (cA 0, 8, .inl (fun _ => 0))), ((a2 3), .inl (cA 0, 8, .inl (fun _ => 0))), ((a2 4), .inl (cA 0, 8, .inl (fun _ => 0)))] H := hP
  have hD : va_D A [(h0, .inr (8, [.ref q1, .null, .null, .null])), (q1, .inr (6, [.int 1, .int 0, .ref (a2 1), .ref (a2 2), .ref (a2 3), .ref (a2 4), .int 0, .int 0, .int 3, .int 20, .int 40, .int 0])), ((a2 1), .inl (cA 0, 8, .inl (fun _ => 0))), ((a2 2), .inl (cA 0, 8, .inl (fun _ => 0))), ((a2 3), .inl (cA 0, 8, .inl (fun _ => 0))), ((a2 4), .inl (cA 0, 8, .inl (fun _ => 0)))] := hD
  refine lv_aload_n hx hb dX8_init_15 rfl (lv_at hl 0 rfl) ?_
  refine va_new (ci := 1) (fs := [.int 0, .null, .null, .null, .int 0]) (C := RX1) (T := TX1) (N := 5) hx hb hts (mcl_in (ci := 1) rfl) tyX1 tyX1_ok hown (hts _ (mg_1 185 (by decide +kernel) (by decide +kernel))) (hts _ (mg_1 112 (by decide +kernel) (by decide +kernel))) (hts _ (mg_1 4 (by decide +kernel) (by decide +kernel))) hK hP hD hS hA rfl (fun j hj => by rcases (show j = 0 ∨ j = 1 ∨ j = 2 ∨ j = 3 ∨ j = 4 by omega) with rfl | rfl | rfl | rfl | rfl <;> rfl) (Nat.le_of_ble_eq_true rfl) (Nat.le_of_ble_eq_true rfl) dX8_init_16 (fun q3 H hP hD hS => ?_)
  have hP : va_P D mcl [(h0, .inr (8, [.ref q1, .null, .null, .null])), (q1, .inr (6, [.int 1, .int 0, .ref (a2 1), .ref (a2 2), .ref (a2 3), .ref (a2 4), .int 0, .int 0, .int 3, .int 20, .int 40, .int 0])), ((a2 1), .inl (cA 0, 8, .inl (fun _ => 0))), ((a2 2), .inl (cA 0, 8, .inl (fun _ => 0))), ((a2 3), .inl (cA 0, 8, .inl (fun _ => 0))), ((a2 4), .inl (cA 0, 8, .inl (fun _ => 0))), (q3, .inr (1, [.int 0, .null, .null, .null, .int 0]))] H := hP
  have hD : va_D A [(h0, .inr (8, [.ref q1, .null, .null, .null])), (q1, .inr (6, [.int 1, .int 0, .ref (a2 1), .ref (a2 2), .ref (a2 3), .ref (a2 4), .int 0, .int 0, .int 3, .int 20, .int 40, .int 0])), ((a2 1), .inl (cA 0, 8, .inl (fun _ => 0))), ((a2 2), .inl (cA 0, 8, .inl (fun _ => 0))), ((a2 3), .inl (cA 0, 8, .inl (fun _ => 0))), ((a2 4), .inl (cA 0, 8, .inl (fun _ => 0))), (q3, .inr (1, [.int 0, .null, .null, .null, .int 0]))] := hD
  refine lv_dup hx hb dX8_init_19 rfl ?_
  refine ini_callN (ws := [(h0, .inr (8, [.ref q1, .null, .null, .null])), (q1, .inr (6, [.int 1, .int 0, .ref (a2 1), .ref (a2 2), .ref (a2 3), .ref (a2 4), .int 0, .int 0, .int 3, .int 20, .int 40, .int 0])), ((a2 1), .inl (cA 0, 8, .inl (fun _ => 0))), ((a2 2), .inl (cA 0, 8, .inl (fun _ => 0))), ((a2 3), .inl (cA 0, 8, .inl (fun _ => 0))), ((a2 4), .inl (cA 0, 8, .inl (fun _ => 0)))]) [] hx hb hml hown hts hK hE (c_X1_init l D cA q3 ) (List.mem_of_getElem? (i := 5) rfl) ok_X1_init rfl hP hD hS hA rfl rfl ⟨(Nat.le_of_ble_eq_true rfl), (Nat.le_of_ble_eq_true rfl)⟩ hl.1 (Nat.le_of_ble_eq_true rfl) dX8_init_20 ⟨(Nat.le_of_ble_eq_true rfl), (Nat.le_of_ble_eq_true rfl)⟩ (fun a4 H locs hP hD hS => ?_)
  have hP : va_P D mcl ((h0, .inr (8, [.ref q1, .null, .null, .null])) :: (q1, .inr (6, [.int 1, .int 0, .ref (a2 1), .ref (a2 2), .ref (a2 3), .ref (a2 4), .int 0, .int 0, .int 3, .int 20, .int 40, .int 0])) :: ((a2 1), .inl (cA 0, 8, .inl (fun _ => 0))) :: ((a2 2), .inl (cA 0, 8, .inl (fun _ => 0))) :: ((a2 3), .inl (cA 0, 8, .inl (fun _ => 0))) :: ((a2 4), .inl (cA 0, 8, .inl (fun _ => 0))) :: (q3, .inr (1, [.int 0, .ref (a4 1), .ref (a4 2), .ref (a4 3), .int 0])) :: ((a4 1), .inl (cA 0, 12, .inl (fun _ => 0))) :: ((a4 2), .inl (cA 0, 12, .inl (fun _ => 0))) :: ((a4 3), .inl (cA 0, 400, .inl (fun _ => 0))) :: []) H := hP
  have hD : va_D A ((h0, .inr (8, [.ref q1, .null, .null, .null])) :: (q1, .inr (6, [.int 1, .int 0, .ref (a2 1), .ref (a2 2), .ref (a2 3), .ref (a2 4), .int 0, .int 0, .int 3, .int 20, .int 40, .int 0])) :: ((a2 1), .inl (cA 0, 8, .inl (fun _ => 0))) :: ((a2 2), .inl (cA 0, 8, .inl (fun _ => 0))) :: ((a2 3), .inl (cA 0, 8, .inl (fun _ => 0))) :: ((a2 4), .inl (cA 0, 8, .inl (fun _ => 0))) :: (q3, .inr (1, [.int 0, .ref (a4 1), .ref (a4 2), .ref (a4 3), .int 0])) :: ((a4 1), .inl (cA 0, 12, .inl (fun _ => 0))) :: ((a4 2), .inl (cA 0, 12, .inl (fun _ => 0))) :: ((a4 3), .inl (cA 0, 400, .inl (fun _ => 0))) :: []) := hD
  refine va_putF (D := D) (ci := 8) (v := .ref q3) (ty := tyX8 1) (C := RX8) (T := TX8) (N := 4) hx hb hts (mcl_in (ci := 8) rfl) tyX8 tyX8_ok nmX8 hown hK hP hD hS 0 rfl rfl 1 (by decide) (hts _ (mg_1 233 (by decide +kernel) (by decide +kernel))) (fun _ h9 => h9) rfl hin rfl (tyX8_ok 1 (by decide)) rfl rfl (Nat.le_of_ble_eq_true rfl) dX8_init_23 (fun H locs hP hD hS => ?_)
  have hP : va_P D mcl ((h0, .inr (8, [.ref q1, .ref q3, .null, .null])) :: (q1, .inr (6, [.int 1, .int 0, .ref (a2 1), .ref (a2 2), .ref (a2 3), .ref (a2 4), .int 0, .int 0, .int 3, .int 20, .int 40, .int 0])) :: ((a2 1), .inl (cA 0, 8, .inl (fun _ => 0))) :: ((a2 2), .inl (cA 0, 8, .inl (fun _ => 0))) :: ((a2 3), .inl (cA 0, 8, .inl (fun _ => 0))) :: ((a2 4), .inl (cA 0, 8, .inl (fun _ => 0))) :: (q3, .inr (1, [.int 0, .ref (a4 1), .ref (a4 2), .ref (a4 3), .int 0])) :: ((a4 1), .inl (cA 0, 12, .inl (fun _ => 0))) :: ((a4 2), .inl (cA 0, 12, .inl (fun _ => 0))) :: ((a4 3), .inl (cA 0, 400, .inl (fun _ => 0))) :: []) H := hP
  have hD : va_D A ((h0, .inr (8, [.ref q1, .ref q3, .null, .null])) :: (q1, .inr (6, [.int 1, .int 0, .ref (a2 1), .ref (a2 2), .ref (a2 3), .ref (a2 4), .int 0, .int 0, .int 3, .int 20, .int 40, .int 0])) :: ((a2 1), .inl (cA 0, 8, .inl (fun _ => 0))) :: ((a2 2), .inl (cA 0, 8, .inl (fun _ => 0))) :: ((a2 3), .inl (cA 0, 8, .inl (fun _ => 0))) :: ((a2 4), .inl (cA 0, 8, .inl (fun _ => 0))) :: (q3, .inr (1, [.int 0, .ref (a4 1), .ref (a4 2), .ref (a4 3), .int 0])) :: ((a4 1), .inl (cA 0, 12, .inl (fun _ => 0))) :: ((a4 2), .inl (cA 0, 12, .inl (fun _ => 0))) :: ((a4 3), .inl (cA 0, 400, .inl (fun _ => 0))) :: []) := hD
  refine lv_aload_n hx hb dX8_init_26 rfl (lv_at hl 0 rfl) ?_
  refine va_new (ci := 2) (fs := [.int 0, .null, .null, .null, .null, .null, .null, .null, .null]) (C := RX2) (T := TX2) (N := 9) hx hb hts (mcl_in (ci := 2) rfl) tyX2 tyX2_ok hown (hts _ (mg_1 187 (by decide +kernel) (by decide +kernel))) (hts _ (mg_1 188 (by decide +kernel) (by decide +kernel))) (hts _ (mg_1 6 (by decide +kernel) (by decide +kernel))) hK hP hD hS hA rfl (fun j hj => by rcases (show j = 0 ∨ j = 1 ∨ j = 2 ∨ j = 3 ∨ j = 4 ∨ j = 5 ∨ j = 6 ∨ j = 7 ∨ j = 8 by omega) with rfl | rfl | rfl | rfl | rfl | rfl | rfl | rfl | rfl <;> rfl) (Nat.le_of_ble_eq_true rfl) (Nat.le_of_ble_eq_true rfl) dX8_init_27 (fun q5 H hP hD hS => ?_)
  have hP : va_P D mcl ((h0, .inr (8, [.ref q1, .ref q3, .null, .null])) :: (q1, .inr (6, [.int 1, .int 0, .ref (a2 1), .ref (a2 2), .ref (a2 3), .ref (a2 4), .int 0, .int 0, .int 3, .int 20, .int 40, .int 0])) :: ((a2 1), .inl (cA 0, 8, .inl (fun _ => 0))) :: ((a2 2), .inl (cA 0, 8, .inl (fun _ => 0))) :: ((a2 3), .inl (cA 0, 8, .inl (fun _ => 0))) :: ((a2 4), .inl (cA 0, 8, .inl (fun _ => 0))) :: (q3, .inr (1, [.int 0, .ref (a4 1), .ref (a4 2), .ref (a4 3), .int 0])) :: ((a4 1), .inl (cA 0, 12, .inl (fun _ => 0))) :: ((a4 2), .inl (cA 0, 12, .inl (fun _ => 0))) :: ((a4 3), .inl (cA 0, 400, .inl (fun _ => 0))) :: (q5, .inr (2, [.int 0, .null, .null, .null, .null, .null, .null, .null, .null])) :: []) H := hP
  have hD : va_D A ((h0, .inr (8, [.ref q1, .ref q3, .null, .null])) :: (q1, .inr (6, [.int 1, .int 0, .ref (a2 1), .ref (a2 2), .ref (a2 3), .ref (a2 4), .int 0, .int 0, .int 3, .int 20, .int 40, .int 0])) :: ((a2 1), .inl (cA 0, 8, .inl (fun _ => 0))) :: ((a2 2), .inl (cA 0, 8, .inl (fun _ => 0))) :: ((a2 3), .inl (cA 0, 8, .inl (fun _ => 0))) :: ((a2 4), .inl (cA 0, 8, .inl (fun _ => 0))) :: (q3, .inr (1, [.int 0, .ref (a4 1), .ref (a4 2), .ref (a4 3), .int 0])) :: ((a4 1), .inl (cA 0, 12, .inl (fun _ => 0))) :: ((a4 2), .inl (cA 0, 12, .inl (fun _ => 0))) :: ((a4 3), .inl (cA 0, 400, .inl (fun _ => 0))) :: (q5, .inr (2, [.int 0, .null, .null, .null, .null, .null, .null, .null, .null])) :: []) := hD
  refine lv_dup hx hb dX8_init_30 rfl ?_
  refine ini_callN (ws := ((h0, .inr (8, [.ref q1, .ref q3, .null, .null])) :: (q1, .inr (6, [.int 1, .int 0, .ref (a2 1), .ref (a2 2), .ref (a2 3), .ref (a2 4), .int 0, .int 0, .int 3, .int 20, .int 40, .int 0])) :: ((a2 1), .inl (cA 0, 8, .inl (fun _ => 0))) :: ((a2 2), .inl (cA 0, 8, .inl (fun _ => 0))) :: ((a2 3), .inl (cA 0, 8, .inl (fun _ => 0))) :: ((a2 4), .inl (cA 0, 8, .inl (fun _ => 0))) :: (q3, .inr (1, [.int 0, .ref (a4 1), .ref (a4 2), .ref (a4 3), .int 0])) :: ((a4 1), .inl (cA 0, 12, .inl (fun _ => 0))) :: ((a4 2), .inl (cA 0, 12, .inl (fun _ => 0))) :: ((a4 3), .inl (cA 0, 400, .inl (fun _ => 0))) :: [])) [] hx hb hml hown hts hK hE (c_X2_init l D cA q5 ) (List.mem_of_getElem? (i := 6) rfl) ok_X2_init rfl hP hD hS hA rfl rfl ⟨(Nat.le_of_ble_eq_true rfl), (Nat.le_of_ble_eq_true rfl)⟩ hl.1 (Nat.le_of_ble_eq_true rfl) dX8_init_31 ⟨(Nat.le_of_ble_eq_true rfl), (Nat.le_of_ble_eq_true rfl)⟩ (fun a6 H locs hP hD hS => ?_)
  have hP : va_P D mcl ((h0, .inr (8, [.ref q1, .ref q3, .null, .null])) :: (q1, .inr (6, [.int 1, .int 0, .ref (a2 1), .ref (a2 2), .ref (a2 3), .ref (a2 4), .int 0, .int 0, .int 3, .int 20, .int 40, .int 0])) :: ((a2 1), .inl (cA 0, 8, .inl (fun _ => 0))) :: ((a2 2), .inl (cA 0, 8, .inl (fun _ => 0))) :: ((a2 3), .inl (cA 0, 8, .inl (fun _ => 0))) :: ((a2 4), .inl (cA 0, 8, .inl (fun _ => 0))) :: (q3, .inr (1, [.int 0, .ref (a4 1), .ref (a4 2), .ref (a4 3), .int 0])) :: ((a4 1), .inl (cA 0, 12, .inl (fun _ => 0))) :: ((a4 2), .inl (cA 0, 12, .inl (fun _ => 0))) :: ((a4 3), .inl (cA 0, 400, .inl (fun _ => 0))) :: (q5, .inr (2, [.int 0, .ref (a6 1), .ref (a6 2), .ref (a6 3), .ref (a6 4), .ref (a6 5), .ref (a6 6), .ref (a6 7), .ref (a6 8)])) :: ((a6 1), .inl (cA 0, 12, .inl (fun _ => 0))) :: ((a6 2), .inl (cA 0, 12, .inl (fun _ => 0))) :: ((a6 3), .inl (cA 0, 12, .inl (fun _ => 0))) :: ((a6 4), .inl (cA 0, 12, .inl (fun _ => 0))) :: ((a6 5), .inl (cA 0, 12, .inl (fun _ => 0))) :: ((a6 6), .inl (cA 0, 12, .inl (fun _ => 0))) :: ((a6 7), .inl (cA 0, 4, .inl (upd (upd (upd (upd (fun _ => 0) 0 1) 1 1) 2 1) 3 1))) :: ((a6 8), .inl (cA 0, 4, .inl (upd (upd (upd (upd (fun _ => 0) 0 100) 1 100) 2 100) 3 100))) :: []) H := hP
  have hD : va_D A ((h0, .inr (8, [.ref q1, .ref q3, .null, .null])) :: (q1, .inr (6, [.int 1, .int 0, .ref (a2 1), .ref (a2 2), .ref (a2 3), .ref (a2 4), .int 0, .int 0, .int 3, .int 20, .int 40, .int 0])) :: ((a2 1), .inl (cA 0, 8, .inl (fun _ => 0))) :: ((a2 2), .inl (cA 0, 8, .inl (fun _ => 0))) :: ((a2 3), .inl (cA 0, 8, .inl (fun _ => 0))) :: ((a2 4), .inl (cA 0, 8, .inl (fun _ => 0))) :: (q3, .inr (1, [.int 0, .ref (a4 1), .ref (a4 2), .ref (a4 3), .int 0])) :: ((a4 1), .inl (cA 0, 12, .inl (fun _ => 0))) :: ((a4 2), .inl (cA 0, 12, .inl (fun _ => 0))) :: ((a4 3), .inl (cA 0, 400, .inl (fun _ => 0))) :: (q5, .inr (2, [.int 0, .ref (a6 1), .ref (a6 2), .ref (a6 3), .ref (a6 4), .ref (a6 5), .ref (a6 6), .ref (a6 7), .ref (a6 8)])) :: ((a6 1), .inl (cA 0, 12, .inl (fun _ => 0))) :: ((a6 2), .inl (cA 0, 12, .inl (fun _ => 0))) :: ((a6 3), .inl (cA 0, 12, .inl (fun _ => 0))) :: ((a6 4), .inl (cA 0, 12, .inl (fun _ => 0))) :: ((a6 5), .inl (cA 0, 12, .inl (fun _ => 0))) :: ((a6 6), .inl (cA 0, 12, .inl (fun _ => 0))) :: ((a6 7), .inl (cA 0, 4, .inl (upd (upd (upd (upd (fun _ => 0) 0 1) 1 1) 2 1) 3 1))) :: ((a6 8), .inl (cA 0, 4, .inl (upd (upd (upd (upd (fun _ => 0) 0 100) 1 100) 2 100) 3 100))) :: []) := hD
  refine va_putF (D := D) (ci := 8) (v := .ref q5) (ty := tyX8 2) (C := RX8) (T := TX8) (N := 4) hx hb hts (mcl_in (ci := 8) rfl) tyX8 tyX8_ok nmX8 hown hK hP hD hS 0 rfl rfl 2 (by decide) (hts _ (mg_1 235 (by decide +kernel) (by decide +kernel))) (fun _ h9 => h9) rfl hin rfl (tyX8_ok 2 (by decide)) rfl rfl (Nat.le_of_ble_eq_true rfl) dX8_init_34 (fun H locs hP hD hS => ?_)
  have hP : va_P D mcl ((h0, .inr (8, [.ref q1, .ref q3, .ref q5, .null])) :: (q1, .inr (6, [.int 1, .int 0, .ref (a2 1), .ref (a2 2), .ref (a2 3), .ref (a2 4), .int 0, .int 0, .int 3, .int 20, .int 40, .int 0])) :: ((a2 1), .inl (cA 0, 8, .inl (fun _ => 0))) :: ((a2 2), .inl (cA 0, 8, .inl (fun _ => 0))) :: ((a2 3), .inl (cA 0, 8, .inl (fun _ => 0))) :: ((a2 4), .inl (cA 0, 8, .inl (fun _ => 0))) :: (q3, .inr (1, [.int 0, .ref (a4 1), .ref (a4 2), .ref (a4 3), .int 0])) :: ((a4 1), .inl (cA 0, 12, .inl (fun _ => 0))) :: ((a4 2), .inl (cA 0, 12, .inl (fun _ => 0))) :: ((a4 3), .inl (cA 0, 400, .inl (fun _ => 0))) :: (q5, .inr (2, [.int 0, .ref (a6 1), .ref (a6 2), .ref (a6 3), .ref (a6 4), .ref (a6 5), .ref (a6 6), .ref (a6 7), .ref (a6 8)])) :: ((a6 1), .inl (cA 0, 12, .inl (fun _ => 0))) :: ((a6 2), .inl (cA 0, 12, .inl (fun _ => 0))) :: ((a6 3), .inl (cA 0, 12, .inl (fun _ => 0))) :: ((a6 4), .inl (cA 0, 12, .inl (fun _ => 0))) :: ((a6 5), .inl (cA 0, 12, .inl (fun _ => 0))) :: ((a6 6), .inl (cA 0, 12, .inl (fun _ => 0))) :: ((a6 7), .inl (cA 0, 4, .inl (upd (upd (upd (upd (fun _ => 0) 0 1) 1 1) 2 1) 3 1))) :: ((a6 8), .inl (cA 0, 4, .inl (upd (upd (upd (upd (fun _ => 0) 0 100) 1 100) 2 100) 3 100))) :: []) H := hP
  have hD : va_D A ((h0, .inr (8, [.ref q1, .ref q3, .ref q5, .null])) :: (q1, .inr (6, [.int 1, .int 0, .ref (a2 1), .ref (a2 2), .ref (a2 3), .ref (a2 4), .int 0, .int 0, .int 3, .int 20, .int 40, .int 0])) :: ((a2 1), .inl (cA 0, 8, .inl (fun _ => 0))) :: ((a2 2), .inl (cA 0, 8, .inl (fun _ => 0))) :: ((a2 3), .inl (cA 0, 8, .inl (fun _ => 0))) :: ((a2 4), .inl (cA 0, 8, .inl (fun _ => 0))) :: (q3, .inr (1, [.int 0, .ref (a4 1), .ref (a4 2), .ref (a4 3), .int 0])) :: ((a4 1), .inl (cA 0, 12, .inl (fun _ => 0))) :: ((a4 2), .inl (cA 0, 12, .inl (fun _ => 0))) :: ((a4 3), .inl (cA 0, 400, .inl (fun _ => 0))) :: (q5, .inr (2, [.int 0, .ref (a6 1), .ref (a6 2), .ref (a6 3), .ref (a6 4), .ref (a6 5), .ref (a6 6), .ref (a6 7), .ref (a6 8)])) :: ((a6 1), .inl (cA 0, 12, .inl (fun _ => 0))) :: ((a6 2), .inl (cA 0, 12, .inl (fun _ => 0))) :: ((a6 3), .inl (cA 0, 12, .inl (fun _ => 0))) :: ((a6 4), .inl (cA 0, 12, .inl (fun _ => 0))) :: ((a6 5), .inl (cA 0, 12, .inl (fun _ => 0))) :: ((a6 6), .inl (cA 0, 12, .inl (fun _ => 0))) :: ((a6 7), .inl (cA 0, 4, .inl (upd (upd (upd (upd (fun _ => 0) 0 1) 1 1) 2 1) 3 1))) :: ((a6 8), .inl (cA 0, 4, .inl (upd (upd (upd (upd (fun _ => 0) 0 100) 1 100) 2 100) 3 100))) :: []) := hD
  refine lv_aload_n hx hb dX8_init_37 rfl (lv_at hl 0 rfl) ?_
  refine lv_bipush (v := 20) hx hb dX8_init_38 (by decide) ?_
  refine na_I hx hb hts hK hP hD hS hA 20 (by decide) (by decide) (Nat.le_of_ble_eq_true rfl) (Nat.le_of_ble_eq_true rfl) (Nat.le_of_ble_eq_true rfl) dX8_init_40 (fun q7 H hP hD hS => ?_)
  have hP : va_P D mcl ((h0, .inr (8, [.ref q1, .ref q3, .ref q5, .null])) :: (q1, .inr (6, [.int 1, .int 0, .ref (a2 1), .ref (a2 2), .ref (a2 3), .ref (a2 4), .int 0, .int 0, .int 3, .int 20, .int 40, .int 0])) :: ((a2 1), .inl (cA 0, 8, .inl (fun _ => 0))) :: ((a2 2), .inl (cA 0, 8, .inl (fun _ => 0))) :: ((a2 3), .inl (cA 0, 8, .inl (fun _ => 0))) :: ((a2 4), .inl (cA 0, 8, .inl (fun _ => 0))) :: (q3, .inr (1, [.int 0, .ref (a4 1), .ref (a4 2), .ref (a4 3), .int 0])) :: ((a4 1), .inl (cA 0, 12, .inl (fun _ => 0))) :: ((a4 2), .inl (cA 0, 12, .inl (fun _ => 0))) :: ((a4 3), .inl (cA 0, 400, .inl (fun _ => 0))) :: (q5, .inr (2, [.int 0, .ref (a6 1), .ref (a6 2), .ref (a6 3), .ref (a6 4), .ref (a6 5), .ref (a6 6), .ref (a6 7), .ref (a6 8)])) :: ((a6 1), .inl (cA 0, 12, .inl (fun _ => 0))) :: ((a6 2), .inl (cA 0, 12, .inl (fun _ => 0))) :: ((a6 3), .inl (cA 0, 12, .inl (fun _ => 0))) :: ((a6 4), .inl (cA 0, 12, .inl (fun _ => 0))) :: ((a6 5), .inl (cA 0, 12, .inl (fun _ => 0))) :: ((a6 6), .inl (cA 0, 12, .inl (fun _ => 0))) :: ((a6 7), .inl (cA 0, 4, .inl (upd (upd (upd (upd (fun _ => 0) 0 1) 1 1) 2 1) 3 1))) :: ((a6 8), .inl (cA 0, 4, .inl (upd (upd (upd (upd (fun _ => 0) 0 100) 1 100) 2 100) 3 100))) :: (q7, .inl (cA 0, 20, .inl (fun _ => 0))) :: []) H := hP
  have hD : va_D A ((h0, .inr (8, [.ref q1, .ref q3, .ref q5, .null])) :: (q1, .inr (6, [.int 1, .int 0, .ref (a2 1), .ref (a2 2), .ref (a2 3), .ref (a2 4), .int 0, .int 0, .int 3, .int 20, .int 40, .int 0])) :: ((a2 1), .inl (cA 0, 8, .inl (fun _ => 0))) :: ((a2 2), .inl (cA 0, 8, .inl (fun _ => 0))) :: ((a2 3), .inl (cA 0, 8, .inl (fun _ => 0))) :: ((a2 4), .inl (cA 0, 8, .inl (fun _ => 0))) :: (q3, .inr (1, [.int 0, .ref (a4 1), .ref (a4 2), .ref (a4 3), .int 0])) :: ((a4 1), .inl (cA 0, 12, .inl (fun _ => 0))) :: ((a4 2), .inl (cA 0, 12, .inl (fun _ => 0))) :: ((a4 3), .inl (cA 0, 400, .inl (fun _ => 0))) :: (q5, .inr (2, [.int 0, .ref (a6 1), .ref (a6 2), .ref (a6 3), .ref (a6 4), .ref (a6 5), .ref (a6 6), .ref (a6 7), .ref (a6 8)])) :: ((a6 1), .inl (cA 0, 12, .inl (fun _ => 0))) :: ((a6 2), .inl (cA 0, 12, .inl (fun _ => 0))) :: ((a6 3), .inl (cA 0, 12, .inl (fun _ => 0))) :: ((a6 4), .inl (cA 0, 12, .inl (fun _ => 0))) :: ((a6 5), .inl (cA 0, 12, .inl (fun _ => 0))) :: ((a6 6), .inl (cA 0, 12, .inl (fun _ => 0))) :: ((a6 7), .inl (cA 0, 4, .inl (upd (upd (upd (upd (fun _ => 0) 0 1) 1 1) 2 1) 3 1))) :: ((a6 8), .inl (cA 0, 4, .inl (upd (upd (upd (upd (fun _ => 0) 0 100) 1 100) 2 100) 3 100))) :: (q7, .inl (cA 0, 20, .inl (fun _ => 0))) :: []) := hD
  refine va_putF (D := D) (ci := 8) (v := .ref q7) (ty := tyX8 3) (C := RX8) (T := TX8) (N := 4) hx hb hts (mcl_in (ci := 8) rfl) tyX8 tyX8_ok nmX8 hown hK hP hD hS 0 rfl rfl 3 (by decide) (hts _ (mg_1 237 (by decide +kernel) (by decide +kernel))) (fun _ h9 => h9) rfl hin rfl (tyX8_ok 3 (by decide)) rfl rfl (Nat.le_of_ble_eq_true rfl) dX8_init_42 (fun H locs hP hD hS => ?_)
  have hP : va_P D mcl ((h0, .inr (8, [.ref q1, .ref q3, .ref q5, .ref q7])) :: (q1, .inr (6, [.int 1, .int 0, .ref (a2 1), .ref (a2 2), .ref (a2 3), .ref (a2 4), .int 0, .int 0, .int 3, .int 20, .int 40, .int 0])) :: ((a2 1), .inl (cA 0, 8, .inl (fun _ => 0))) :: ((a2 2), .inl (cA 0, 8, .inl (fun _ => 0))) :: ((a2 3), .inl (cA 0, 8, .inl (fun _ => 0))) :: ((a2 4), .inl (cA 0, 8, .inl (fun _ => 0))) :: (q3, .inr (1, [.int 0, .ref (a4 1), .ref (a4 2), .ref (a4 3), .int 0])) :: ((a4 1), .inl (cA 0, 12, .inl (fun _ => 0))) :: ((a4 2), .inl (cA 0, 12, .inl (fun _ => 0))) :: ((a4 3), .inl (cA 0, 400, .inl (fun _ => 0))) :: (q5, .inr (2, [.int 0, .ref (a6 1), .ref (a6 2), .ref (a6 3), .ref (a6 4), .ref (a6 5), .ref (a6 6), .ref (a6 7), .ref (a6 8)])) :: ((a6 1), .inl (cA 0, 12, .inl (fun _ => 0))) :: ((a6 2), .inl (cA 0, 12, .inl (fun _ => 0))) :: ((a6 3), .inl (cA 0, 12, .inl (fun _ => 0))) :: ((a6 4), .inl (cA 0, 12, .inl (fun _ => 0))) :: ((a6 5), .inl (cA 0, 12, .inl (fun _ => 0))) :: ((a6 6), .inl (cA 0, 12, .inl (fun _ => 0))) :: ((a6 7), .inl (cA 0, 4, .inl (upd (upd (upd (upd (fun _ => 0) 0 1) 1 1) 2 1) 3 1))) :: ((a6 8), .inl (cA 0, 4, .inl (upd (upd (upd (upd (fun _ => 0) 0 100) 1 100) 2 100) 3 100))) :: (q7, .inl (cA 0, 20, .inl (fun _ => 0))) :: []) H := hP
  have hD : va_D A ((h0, .inr (8, [.ref q1, .ref q3, .ref q5, .ref q7])) :: (q1, .inr (6, [.int 1, .int 0, .ref (a2 1), .ref (a2 2), .ref (a2 3), .ref (a2 4), .int 0, .int 0, .int 3, .int 20, .int 40, .int 0])) :: ((a2 1), .inl (cA 0, 8, .inl (fun _ => 0))) :: ((a2 2), .inl (cA 0, 8, .inl (fun _ => 0))) :: ((a2 3), .inl (cA 0, 8, .inl (fun _ => 0))) :: ((a2 4), .inl (cA 0, 8, .inl (fun _ => 0))) :: (q3, .inr (1, [.int 0, .ref (a4 1), .ref (a4 2), .ref (a4 3), .int 0])) :: ((a4 1), .inl (cA 0, 12, .inl (fun _ => 0))) :: ((a4 2), .inl (cA 0, 12, .inl (fun _ => 0))) :: ((a4 3), .inl (cA 0, 400, .inl (fun _ => 0))) :: (q5, .inr (2, [.int 0, .ref (a6 1), .ref (a6 2), .ref (a6 3), .ref (a6 4), .ref (a6 5), .ref (a6 6), .ref (a6 7), .ref (a6 8)])) :: ((a6 1), .inl (cA 0, 12, .inl (fun _ => 0))) :: ((a6 2), .inl (cA 0, 12, .inl (fun _ => 0))) :: ((a6 3), .inl (cA 0, 12, .inl (fun _ => 0))) :: ((a6 4), .inl (cA 0, 12, .inl (fun _ => 0))) :: ((a6 5), .inl (cA 0, 12, .inl (fun _ => 0))) :: ((a6 6), .inl (cA 0, 12, .inl (fun _ => 0))) :: ((a6 7), .inl (cA 0, 4, .inl (upd (upd (upd (upd (fun _ => 0) 0 1) 1 1) 2 1) 3 1))) :: ((a6 8), .inl (cA 0, 4, .inl (upd (upd (upd (upd (fun _ => 0) 0 100) 1 100) 2 100) 3 100))) :: (q7, .inl (cA 0, 20, .inl (fun _ => 0))) :: []) := hD
  refine W.widen (k := 19) (n := 582) (Nat.le_of_ble_eq_true rfl) (Nat.le_of_ble_eq_true rfl) ?_
  exact W.vret hx hb hr (fun t ht hW => ⟨⟨(), rfl, trivial, fun j => (h0 :: q1 :: (a2 1) :: (a2 2) :: (a2 3) :: (a2 4) :: q3 :: (a4 1) :: (a4 2) :: (a4 3) :: q5 :: (a6 1) :: (a6 2) :: (a6 3) :: (a6 4) :: (a6 5) :: (a6 6) :: (a6 7) :: (a6 8) :: q7 :: []).getD j 0, by rw [ht]; exact hP, va_K.moved hW.alike hK, hD⟩, hS.F ht⟩) hS.2.2 dX8_init_45

abbrev mX4_init : MI := (yX4_init, cX4_init, 3, none)
theorem ok_X4_init : okNw mX4_init 2 := ⟨⟨mg_2 13 (by decide +kernel) (by decide +kernel), by decide +kernel, by decide, mg_1 7 (by decide +kernel) (by decide +kernel)⟩, ⟨by decide +kernel, by decide +kernel, by decide +kernel⟩, mg_2 12 (by decide +kernel) (by decide +kernel), rfl, rfl⟩
abbrev wX4 (cA : Nat → ClassId) (h0 sc lw : Nat) (a : Nat → Nat) : va_W := [(h0, .inr (4, [.ref (a 1), .ref sc, .ref lw, .int (-1), .ref (a 3), .ref (a 4), .ref (a 5), .ref (a 6), .ref (a 7), .ref (a 8), .int 0, .int 0, .int 0, .int 0, .int 0, .int 0, .int 0, .int 0, .int 0])), ((a 1), .inr (0, [.int 0, .int 0, .ref (a 2), .int 0, .int 0, .long 1])), ((a 2), .inl (cA 2, 8, .inl (fun _ => 0))), ((a 3), .inl (cA 0, 8, .inl (fun _ => 0))), ((a 4), .inl (cA 0, 8, .inl (fun _ => 0))), ((a 5), .inl (cA 0, 8, .inl (fun _ => 0))), ((a 6), .inl (cA 2, 8, .inl (fun _ => 0))), ((a 7), .inl (cA 0, 8, .inl (fun _ => 0))), ((a 8), .inl (cA 0, 4, .inl (fun _ => 0)))]
set_option maxHeartbeats 4000000 in
set_option maxRecDepth 100000 in
theorem c_X4_init (l : Launch) (D : va_G) (cA : Nat → ClassId) (h0 : Nat) (sc lw : Nat) : cN l D cA mX4_init [(h0, .inr (4, [.null, .null, .null, .int 0, .null, .null, .null, .null, .null, .null, .int 0, .int 0, .int 0, .int 0, .int 0, .int 0, .int 0, .int 0, .int 0]))] (wX4 cA h0 sc lw) [.ref h0, .ref sc, .ref lw] { frames := 2, cells := 8, slots := 58, locals := 84 } 8 58 := by
  intro sz
  refine Met.ofW (cc := cX4_init) (maxL := 3) (ret := none) (by decide +kernel) rfl ?_
  intro p e s m args below meth c s₁ B hml hv
  obtain ⟨rfl, hsz, hP, hK, hD0, hE⟩ := hv
  have hx := B.exec
  have hb := B.bytes
  have hr := B.returns
  have hts0 := atoms_spec (ws := mw mX4_init) B.pre
  have hts : ∀ w ∈ mG, w.before _ s = true := fun w hw => hts0 w (List.mem_cons_of_mem _ hw)
  have hown : s.vm.findClass RX4 = some m.cls := findClass_of_methodNamed B.named
  have hin : meth.name = "<init>" := (name_of_methodNamed B.named B.method).1
  subst hsz
  have hD := hD0.self (sz := s.heap.size)
  generalize hAe : va_A [(h0, .inr (4, [.null, .null, .null, .int 0, .null, .null, .null, .null, .null, .null, .int 0, .int 0, .int 0, .int 0, .int 0, .int 0, .int 0, .int 0, .int 0]))] s.heap.size = A at hD ⊢
  have hA : ∀ q : Nat, s.heap.size ≤ q → A q := fun q h => by rw [← hAe]; exact Or.inr h
  have hS : va_S A s.heap s.heap [] := va_S.rf
  have hl := lv_entry ([.ref h0, .ref sc, .ref lw]) (n := 3) (Nat.le_of_ble_eq_true rfl)
  rw [lg_entry_eq]
  generalize (lg_sl ([.ref h0, .ref sc, .ref lw]) ++ List.replicate (3 - (lg_sl ([.ref h0, .ref sc, .ref lw])).length) Slot.unset).toArray = ls at hl ⊢
  have hl : lv_has ls 3 [(0, .ref h0), (1, .ref sc), (2, .ref lw)] := hl
  refine lv_aload_n hx hb dX4_init_0 rfl (lv_at hl 0 rfl) ?_
  refine W.objInit hx hb hown (hts _ (mg_2 14 (by decide +kernel) (by decide +kernel))) (hts _ (mg_1 27 (by decide +kernel) (by decide +kernel))) (hts _ (mg_1 28 (by decide +kernel) (by decide +kernel))) rfl (by rw [hml]; exact hl.1) rfl dX4_init_1 (Nat.le_of_ble_eq_true rfl) (Nat.le_of_ble_eq_true rfl) ?_
  refine W.eq (g2 := F0 m 4 ls []) rfl ?_
  refine lv_aload_n hx hb dX4_init_4 rfl (lv_at hl 0 rfl) ?_
  refine va_new (ci := 0) (fs := [.int 0, .int 0, .null, .int 0, .int 0, .long 0]) (C := RX0) (T := TX0) (N := 6) hx hb hts (mcl_in (ci := 0) rfl) tyX0 tyX0_ok hown (hts _ (mg_2 15 (by decide +kernel) (by decide +kernel))) (hts _ (mg_2 16 (by decide +kernel) (by decide +kernel))) (hts _ (mg_1 8 (by decide +kernel) (by decide +kernel))) hK hP hD hS hA rfl (fun j hj => by rcases (show j = 0 ∨ j = 1 ∨ j = 2 ∨ j = 3 ∨ j = 4 ∨ j = 5 by omega) with rfl | rfl | rfl | rfl | rfl | rfl <;> rfl) (Nat.le_of_ble_eq_true rfl) (Nat.le_of_ble_eq_true rfl) dX4_init_5 (fun q1 H hP hD hS => ?_)
  have hP : va_P D mcl [(h0, .inr (4, [.null, .null, .null, .int 0, .null, .null, .null, .null, .null, .null, .int 0, .int 0, .int 0, .int 0, .int 0, .int 0, .int 0, .int 0, .int 0])), (q1, .inr (0, [.int 0, .int 0, .null, .int 0, .int 0, .long 0]))] H := hP
  have hD : va_D A [(h0, .inr (4, [.null, .null, .null, .int 0, .null, .null, .null, .null, .null, .null, .int 0, .int 0, .int 0, .int 0, .int 0, .int 0, .int 0, .int 0, .int 0])), (q1, .inr (0, [.int 0, .int 0, .null, .int 0, .int 0, .long 0]))] := hD
  refine lv_dup hx hb dX4_init_8 rfl ?_
  refine ini_callN (ws := [(h0, .inr (4, [.null, .null, .null, .int 0, .null, .null, .null, .null, .null, .null, .int 0, .int 0, .int 0, .int 0, .int 0, .int 0, .int 0, .int 0, .int 0]))]) [] hx hb hml hown hts hK hE (c_X0_init l D cA q1 ) (List.mem_of_getElem? (i := 7) rfl) ok_X0_init rfl hP hD hS hA rfl rfl ⟨(Nat.le_of_ble_eq_true rfl), (Nat.le_of_ble_eq_true rfl)⟩ hl.1 (Nat.le_of_ble_eq_true rfl) dX4_init_9 ⟨(Nat.le_of_ble_eq_true rfl), (Nat.le_of_ble_eq_true rfl)⟩ (fun a2 H locs hP hD hS => ?_)
  have hP : va_P D mcl [(h0, .inr (4, [.null, .null, .null, .int 0, .null, .null, .null, .null, .null, .null, .int 0, .int 0, .int 0, .int 0, .int 0, .int 0, .int 0, .int 0, .int 0])), (q1, .inr (0, [.int 0, .int 0, .ref (a2 1), .int 0, .int 0, .long 1])), ((a2 1), .inl (cA 2, 8, .inl (fun _ => 0)))] H := hP
  have hD : va_D A [(h0, .inr (4, [.null, .null, .null, .int 0, .null, .null, .null, .null, .null, .null, .int 0, .int 0, .int 0, .int 0, .int 0, .int 0, .int 0, .int 0, .int 0])), (q1, .inr (0, [.int 0, .int 0, .ref (a2 1), .int 0, .int 0, .long 1])), ((a2 1), .inl (cA 2, 8, .inl (fun _ => 0)))] := hD
  refine va_putF (D := D) (ci := 4) (v := .ref q1) (ty := tyX4 0) (C := RX4) (T := TX4) (N := 19) hx hb hts (mcl_in (ci := 4) rfl) tyX4 tyX4_ok nmX4 hown hK hP hD hS 0 rfl rfl 0 (by decide) (hts _ (mg_2 43 (by decide +kernel) (by decide +kernel))) (fun _ h9 => h9) rfl hin rfl (tyX4_ok 0 (by decide)) rfl rfl (Nat.le_of_ble_eq_true rfl) dX4_init_12 (fun H locs hP hD hS => ?_)
  have hP : va_P D mcl [(h0, .inr (4, [.ref q1, .null, .null, .int 0, .null, .null, .null, .null, .null, .null, .int 0, .int 0, .int 0, .int 0, .int 0, .int 0, .int 0, .int 0, .int 0])), (q1, .inr (0, [.int 0, .int 0, .ref (a2 1), .int 0, .int 0, .long 1])), ((a2 1), .inl (cA 2, 8, .inl (fun _ => 0)))] H := hP
  have hD : va_D A [(h0, .inr (4, [.ref q1, .null, .null, .int 0, .null, .null, .null, .null, .null, .null, .int 0, .int 0, .int 0, .int 0, .int 0, .int 0, .int 0, .int 0, .int 0])), (q1, .inr (0, [.int 0, .int 0, .ref (a2 1), .int 0, .int 0, .long 1])), ((a2 1), .inl (cA 2, 8, .inl (fun _ => 0)))] := hD
  refine lv_aload_n hx hb dX4_init_15 rfl (lv_at hl 0 rfl) ?_
  refine lv_iconst (v := -1) hx hb dX4_init_16 (by decide) ?_
  refine va_put (D := D) (ci := 4) (v := .int (-1)) (ty := tyX4 3) (C := RX4) (T := TX4) (N := 19) hx hb hts (mcl_in (ci := 4) rfl) tyX4 tyX4_ok nmX4 hown hK hP hD hS 0 rfl rfl 3 (by decide) (hts _ (mg_2 49 (by decide +kernel) (by decide +kernel))) (fun _ h9 => h9) rfl (tyX4_ok 3 (by decide)) rfl rfl (Nat.le_of_ble_eq_true rfl) dX4_init_17 (fun H locs hP hD hS => ?_)
  have hP : va_P D mcl [(h0, .inr (4, [.ref q1, .null, .null, .int (-1), .null, .null, .null, .null, .null, .null, .int 0, .int 0, .int 0, .int 0, .int 0, .int 0, .int 0, .int 0, .int 0])), (q1, .inr (0, [.int 0, .int 0, .ref (a2 1), .int 0, .int 0, .long 1])), ((a2 1), .inl (cA 2, 8, .inl (fun _ => 0)))] H := hP
  have hD : va_D A [(h0, .inr (4, [.ref q1, .null, .null, .int (-1), .null, .null, .null, .null, .null, .null, .int 0, .int 0, .int 0, .int 0, .int 0, .int 0, .int 0, .int 0, .int 0])), (q1, .inr (0, [.int 0, .int 0, .ref (a2 1), .int 0, .int 0, .long 1])), ((a2 1), .inl (cA 2, 8, .inl (fun _ => 0)))] := hD
  refine lv_aload_n hx hb dX4_init_20 rfl (lv_at hl 0 rfl) ?_
  refine lv_bipush (v := 8) hx hb dX4_init_21 (by decide) ?_
  refine na_I hx hb hts hK hP hD hS hA 8 (by decide) (by decide) (Nat.le_of_ble_eq_true rfl) (Nat.le_of_ble_eq_true rfl) (Nat.le_of_ble_eq_true rfl) dX4_init_23 (fun q3 H hP hD hS => ?_)
  have hP : va_P D mcl [(h0, .inr (4, [.ref q1, .null, .null, .int (-1), .null, .null, .null, .null, .null, .null, .int 0, .int 0, .int 0, .int 0, .int 0, .int 0, .int 0, .int 0, .int 0])), (q1, .inr (0, [.int 0, .int 0, .ref (a2 1), .int 0, .int 0, .long 1])), ((a2 1), .inl (cA 2, 8, .inl (fun _ => 0))), (q3, .inl (cA 0, 8, .inl (fun _ => 0)))] H := hP
  have hD : va_D A [(h0, .inr (4, [.ref q1, .null, .null, .int (-1), .null, .null, .null, .null, .null, .null, .int 0, .int 0, .int 0, .int 0, .int 0, .int 0, .int 0, .int 0, .int 0])), (q1, .inr (0, [.int 0, .int 0, .ref (a2 1), .int 0, .int 0, .long 1])), ((a2 1), .inl (cA 2, 8, .inl (fun _ => 0))), (q3, .inl (cA 0, 8, .inl (fun _ => 0)))] := hD
  refine va_putF (D := D) (ci := 4) (v := .ref q3) (ty := tyX4 4) (C := RX4) (T := TX4) (N := 19) hx hb hts (mcl_in (ci := 4) rfl) tyX4 tyX4_ok nmX4 hown hK hP hD hS 0 rfl rfl 4 (by decide) (hts _ (mg_2 50 (by decide +kernel) (by decide +kernel))) (fun _ h9 => h9) rfl hin rfl (tyX4_ok 4 (by decide)) rfl rfl (Nat.le_of_ble_eq_true rfl) dX4_init_25 (fun H locs hP hD hS => ?_)
  have hP : va_P D mcl [(h0, .inr (4, [.ref q1, .null, .null, .int (-1), .ref q3, .null, .null, .null, .null, .null, .int 0, .int 0, .int 0, .int 0, .int 0, .int 0, .int 0, .int 0, .int 0])), (q1, .inr (0, [.int 0, .int 0, .ref (a2 1), .int 0, .int 0, .long 1])), ((a2 1), .inl (cA 2, 8, .inl (fun _ => 0))), (q3, .inl (cA 0, 8, .inl (fun _ => 0)))] H := hP
  have hD : va_D A [(h0, .inr (4, [.ref q1, .null, .null, .int (-1), .ref q3, .null, .null, .null, .null, .null, .int 0, .int 0, .int 0, .int 0, .int 0, .int 0, .int 0, .int 0, .int 0])), (q1, .inr (0, [.int 0, .int 0, .ref (a2 1), .int 0, .int 0, .long 1])), ((a2 1), .inl (cA 2, 8, .inl (fun _ => 0))), (q3, .inl (cA 0, 8, .inl (fun _ => 0)))] := hD
  refine lv_aload_n hx hb dX4_init_28 rfl (lv_at hl 0 rfl) ?_
  refine lv_bipush (v := 8) hx hb dX4_init_29 (by decide) ?_
  refine na_I hx hb hts hK hP hD hS hA 8 (by decide) (by decide) (Nat.le_of_ble_eq_true rfl) (Nat.le_of_ble_eq_true rfl) (Nat.le_of_ble_eq_true rfl) dX4_init_31 (fun q4 H hP hD hS => ?_)
  have hP : va_P D mcl [(h0, .inr (4, [.ref q1, .null, .null, .int (-1), .ref q3, .null, .null, .null, .null, .null, .int 0, .int 0, .int 0, .int 0, .int 0, .int 0, .int 0, .int 0, .int 0])), (q1, .inr (0, [.int 0, .int 0, .ref (a2 1), .int 0, .int 0, .long 1])), ((a2 1), .inl (cA 2, 8, .inl (fun _ => 0))), (q3, .inl (cA 0, 8, .inl (fun _ => 0))), (q4, .inl (cA 0, 8, .inl (fun _ => 0)))] H := hP
  have hD : va_D A [(h0, .inr (4, [.ref q1, .null, .null, .int (-1), .ref q3, .null, .null, .null, .null, .null, .int 0, .int 0, .int 0, .int 0, .int 0, .int 0, .int 0, .int 0, .int 0])), (q1, .inr (0, [.int 0, .int 0, .ref (a2 1), .int 0, .int 0, .long 1])), ((a2 1), .inl (cA 2, 8, .inl (fun _ => 0))), (q3, .inl (cA 0, 8, .inl (fun _ => 0))), (q4, .inl (cA 0, 8, .inl (fun _ => 0)))] := hD
  refine va_putF (D := D) (ci := 4) (v := .ref q4) (ty := tyX4 5) (C := RX4) (T := TX4) (N := 19) hx hb hts (mcl_in (ci := 4) rfl) tyX4 tyX4_ok nmX4 hown hK hP hD hS 0 rfl rfl 5 (by decide) (hts _ (mg_2 52 (by decide +kernel) (by decide +kernel))) (fun _ h9 => h9) rfl hin rfl (tyX4_ok 5 (by decide)) rfl rfl (Nat.le_of_ble_eq_true rfl) dX4_init_33 (fun H locs hP hD hS => ?_)
  have hP : va_P D mcl [(h0, .inr (4, [.ref q1, .null, .null, .int (-1), .ref q3, .ref q4, .null, .null, .null, .null, .int 0, .int 0, .int 0, .int 0, .int 0, .int 0, .int 0, .int 0, .int 0])), (q1, .inr (0, [.int 0, .int 0, .ref (a2 1), .int 0, .int 0, .long 1])), ((a2 1), .inl (cA 2, 8, .inl (fun _ => 0))), (q3, .inl (cA 0, 8, .inl (fun _ => 0))), (q4, .inl (cA 0, 8, .inl (fun _ => 0)))] H := hP
  have hD : va_D A [(h0, .inr (4, [.ref q1, .null, .null, .int (-1), .ref q3, .ref q4, .null, .null, .null, .null, .int 0, .int 0, .int 0, .int 0, .int 0, .int 0, .int 0, .int 0, .int 0])), (q1, .inr (0, [.int 0, .int 0, .ref (a2 1), .int 0, .int 0, .long 1])), ((a2 1), .inl (cA 2, 8, .inl (fun _ => 0))), (q3, .inl (cA 0, 8, .inl (fun _ => 0))), (q4, .inl (cA 0, 8, .inl (fun _ => 0)))] := hD
  refine lv_aload_n hx hb dX4_init_36 rfl (lv_at hl 0 rfl) ?_
  refine lv_bipush (v := 8) hx hb dX4_init_37 (by decide) ?_
  refine na_I hx hb hts hK hP hD hS hA 8 (by decide) (by decide) (Nat.le_of_ble_eq_true rfl) (Nat.le_of_ble_eq_true rfl) (Nat.le_of_ble_eq_true rfl) dX4_init_39 (fun q5 H hP hD hS => ?_)
  have hP : va_P D mcl [(h0, .inr (4, [.ref q1, .null, .null, .int (-1), .ref q3, .ref q4, .null, .null, .null, .null, .int 0, .int 0, .int 0, .int 0, .int 0, .int 0, .int 0, .int 0, .int 0])), (q1, .inr (0, [.int 0, .int 0, .ref (a2 1), .int 0, .int 0, .long 1])), ((a2 1), .inl (cA 2, 8, .inl (fun _ => 0))), (q3, .inl (cA 0, 8, .inl (fun _ => 0))), (q4, .inl (cA 0, 8, .inl (fun _ => 0))), (q5, .inl (cA 0, 8, .inl (fun _ => 0)))] H := hP
  have hD : va_D A [(h0, .inr (4, [.ref q1, .null, .null, .int (-1), .ref q3, .ref q4, .null, .null, .null, .null, .int 0, .int 0, .int 0, .int 0, .int 0, .int 0, .int 0, .int 0, .int 0])), (q1, .inr (0, [.int 0, .int 0, .ref (a2 1), .int 0, .int 0, .long 1])), ((a2 1), .inl (cA 2, 8, .inl (fun _ => 0))), (q3, .inl (cA 0, 8, .inl (fun _ => 0))), (q4, .inl (cA 0, 8, .inl (fun _ => 0))), (q5, .inl (cA 0, 8, .inl (fun _ => 0)))] := hD
  refine va_putF (D := D) (ci := 4) (v := .ref q5) (ty := tyX4 6) (C := RX4) (T := TX4) (N := 19) hx hb hts (mcl_in (ci := 4) rfl) tyX4 tyX4_ok nmX4 hown hK hP hD hS 0 rfl rfl 6 (by decide) (hts _ (mg_2 54 (by decide +kernel) (by decide +kernel))) (fun _ h9 => h9) rfl hin rfl (tyX4_ok 6 (by decide)) rfl rfl (Nat.le_of_ble_eq_true rfl) dX4_init_41 (fun H locs hP hD hS => ?_)
  have hP : va_P D mcl [(h0, .inr (4, [.ref q1, .null, .null, .int (-1), .ref q3, .ref q4, .ref q5, .null, .null, .null, .int 0, .int 0, .int 0, .int 0, .int 0, .int 0, .int 0, .int 0, .int 0])), (q1, .inr (0, [.int 0, .int 0, .ref (a2 1), .int 0, .int 0, .long 1])), ((a2 1), .inl (cA 2, 8, .inl (fun _ => 0))), (q3, .inl (cA 0, 8, .inl (fun _ => 0))), (q4, .inl (cA 0, 8, .inl (fun _ => 0))), (q5, .inl (cA 0, 8, .inl (fun _ => 0)))] H := hP
  have hD : va_D A [(h0, .inr (4, [.ref q1, .null, .null, .int (-1), .ref q3, .ref q4, .ref q5, .null, .null, .null, .int 0, .int 0, .int 0, .int 0, .int 0, .int 0, .int 0, .int 0, .int 0])), (q1, .inr (0, [.int 0, .int 0, .ref (a2 1), .int 0, .int 0, .long 1])), ((a2 1), .inl (cA 2, 8, .inl (fun _ => 0))), (q3, .inl (cA 0, 8, .inl (fun _ => 0))), (q4, .inl (cA 0, 8, .inl (fun _ => 0))), (q5, .inl (cA 0, 8, .inl (fun _ => 0)))] := hD
  refine lv_aload_n hx hb dX4_init_44 rfl (lv_at hl 0 rfl) ?_
  refine lv_bipush (v := 8) hx hb dX4_init_45 (by decide) ?_
  refine na_Z hx hb hts hK hP hD hS hA 8 (by decide) (by decide) (Nat.le_of_ble_eq_true rfl) (Nat.le_of_ble_eq_true rfl) (Nat.le_of_ble_eq_true rfl) dX4_init_47 (fun q6 H hP hD hS => ?_)
  have hP : va_P D mcl [(h0, .inr (4, [.ref q1, .null, .null, .int (-1), .ref q3, .ref q4, .ref q5, .null, .null, .null, .int 0, .int 0, .int 0, .int 0, .int 0, .int 0, .int 0, .int 0, .int 0])), (q1, .inr (0, [.int 0, .int 0, .ref (a2 1), .int 0, .int 0, .long 1])), ((a2 1), .inl (cA 2, 8, .inl (fun _ => 0))), (q3, .inl (cA 0, 8, .inl (fun _ => 0))), (q4, .inl (cA 0, 8, .inl (fun _ => 0))), (q5, .inl (cA 0, 8, .inl (fun _ => 0))), (q6, .inl (cA 2, 8, .inl (fun _ => 0)))] H := hP
  have hD : va_D A [(h0, .inr (4, [.ref q1, .null, .null, .int (-1), .ref q3, .ref q4, .ref q5, .null, .null, .null, .int 0, .int 0, .int 0, .int 0, .int 0, .int 0, .int 0, .int 0, .int 0])), (q1, .inr (0, [.int 0, .int 0, .ref (a2 1), .int 0, .int 0, .long 1])), ((a2 1), .inl (cA 2, 8, .inl (fun _ => 0))), (q3, .inl (cA 0, 8, .inl (fun _ => 0))), (q4, .inl (cA 0, 8, .inl (fun _ => 0))), (q5, .inl (cA 0, 8, .inl (fun _ => 0))), (q6, .inl (cA 2, 8, .inl (fun _ => 0)))] := hD
  refine va_putF (D := D) (ci := 4) (v := .ref q6) (ty := tyX4 7) (C := RX4) (T := TX4) (N := 19) hx hb hts (mcl_in (ci := 4) rfl) tyX4 tyX4_ok nmX4 hown hK hP hD hS 0 rfl rfl 7 (by decide) (hts _ (mg_2 57 (by decide +kernel) (by decide +kernel))) (fun _ h9 => h9) rfl hin rfl (tyX4_ok 7 (by decide)) rfl rfl (Nat.le_of_ble_eq_true rfl) dX4_init_49 (fun H locs hP hD hS => ?_)
  have hP : va_P D mcl [(h0, .inr (4, [.ref q1, .null, .null, .int (-1), .ref q3, .ref q4, .ref q5, .ref q6, .null, .null, .int 0, .int 0, .int 0, .int 0, .int 0, .int 0, .int 0, .int 0, .int 0])), (q1, .inr (0, [.int 0, .int 0, .ref (a2 1), .int 0, .int 0, .long 1])), ((a2 1), .inl (cA 2, 8, .inl (fun _ => 0))), (q3, .inl (cA 0, 8, .inl (fun _ => 0))), (q4, .inl (cA 0, 8, .inl (fun _ => 0))), (q5, .inl (cA 0, 8, .inl (fun _ => 0))), (q6, .inl (cA 2, 8, .inl (fun _ => 0)))] H := hP
  have hD : va_D A [(h0, .inr (4, [.ref q1, .null, .null, .int (-1), .ref q3, .ref q4, .ref q5, .ref q6, .null, .null, .int 0, .int 0, .int 0, .int 0, .int 0, .int 0, .int 0, .int 0, .int 0])), (q1, .inr (0, [.int 0, .int 0, .ref (a2 1), .int 0, .int 0, .long 1])), ((a2 1), .inl (cA 2, 8, .inl (fun _ => 0))), (q3, .inl (cA 0, 8, .inl (fun _ => 0))), (q4, .inl (cA 0, 8, .inl (fun _ => 0))), (q5, .inl (cA 0, 8, .inl (fun _ => 0))), (q6, .inl (cA 2, 8, .inl (fun _ => 0)))] := hD
  refine lv_aload_n hx hb dX4_init_52 rfl (lv_at hl 0 rfl) ?_
  refine lv_bipush (v := 8) hx hb dX4_init_53 (by decide) ?_
  refine na_I hx hb hts hK hP hD hS hA 8 (by decide) (by decide) (Nat.le_of_ble_eq_true rfl) (Nat.le_of_ble_eq_true rfl) (Nat.le_of_ble_eq_true rfl) dX4_init_55 (fun q7 H hP hD hS => ?_)
  have hP : va_P D mcl [(h0, .inr (4, [.ref q1, .null, .null, .int (-1), .ref q3, .ref q4, .ref q5, .ref q6, .null, .null, .int 0, .int 0, .int 0, .int 0, .int 0, .int 0, .int 0, .int 0, .int 0])), (q1, .inr (0, [.int 0, .int 0, .ref (a2 1), .int 0, .int 0, .long 1])), ((a2 1), .inl (cA 2, 8, .inl (fun _ => 0))), (q3, .inl (cA 0, 8, .inl (fun _ => 0))), (q4, .inl (cA 0, 8, .inl (fun _ => 0))), (q5, .inl (cA 0, 8, .inl (fun _ => 0))), (q6, .inl (cA 2, 8, .inl (fun _ => 0))), (q7, .inl (cA 0, 8, .inl (fun _ => 0)))] H := hP
  have hD : va_D A [(h0, .inr (4, [.ref q1, .null, .null, .int (-1), .ref q3, .ref q4, .ref q5, .ref q6, .null, .null, .int 0, .int 0, .int 0, .int 0, .int 0, .int 0, .int 0, .int 0, .int 0])), (q1, .inr (0, [.int 0, .int 0, .ref (a2 1), .int 0, .int 0, .long 1])), ((a2 1), .inl (cA 2, 8, .inl (fun _ => 0))), (q3, .inl (cA 0, 8, .inl (fun _ => 0))), (q4, .inl (cA 0, 8, .inl (fun _ => 0))), (q5, .inl (cA 0, 8, .inl (fun _ => 0))), (q6, .inl (cA 2, 8, .inl (fun _ => 0))), (q7, .inl (cA 0, 8, .inl (fun _ => 0)))] := hD
  refine va_putF (D := D) (ci := 4) (v := .ref q7) (ty := tyX4 8) (C := RX4) (T := TX4) (N := 19) hx hb hts (mcl_in (ci := 4) rfl) tyX4 tyX4_ok nmX4 hown hK hP hD hS 0 rfl rfl 8 (by decide) (hts _ (mg_2 59 (by decide +kernel) (by decide +kernel))) (fun _ h9 => h9) rfl hin rfl (tyX4_ok 8 (by decide)) rfl rfl (Nat.le_of_ble_eq_true rfl) dX4_init_57 (fun H locs hP hD hS => ?_)
  have hP : va_P D mcl [(h0, .inr (4, [.ref q1, .null, .null, .int (-1), .ref q3, .ref q4, .ref q5, .ref q6, .ref q7, .null, .int 0, .int 0, .int 0, .int 0, .int 0, .int 0, .int 0, .int 0, .int 0])), (q1, .inr (0, [.int 0, .int 0, .ref (a2 1), .int 0, .int 0, .long 1])), ((a2 1), .inl (cA 2, 8, .inl (fun _ => 0))), (q3, .inl (cA 0, 8, .inl (fun _ => 0))), (q4, .inl (cA 0, 8, .inl (fun _ => 0))), (q5, .inl (cA 0, 8, .inl (fun _ => 0))), (q6, .inl (cA 2, 8, .inl (fun _ => 0))), (q7, .inl (cA 0, 8, .inl (fun _ => 0)))] H := hP
  have hD : va_D A [(h0, .inr (4, [.ref q1, .null, .null, .int (-1), .ref q3, .ref q4, .ref q5, .ref q6, .ref q7, .null, .int 0, .int 0, .int 0, .int 0, .int 0, .int 0, .int 0, .int 0, .int 0])), (q1, .inr (0, [.int 0, .int 0, .ref (a2 1), .int 0, .int 0, .long 1])), ((a2 1), .inl (cA 2, 8, .inl (fun _ => 0))), (q3, .inl (cA 0, 8, .inl (fun _ => 0))), (q4, .inl (cA 0, 8, .inl (fun _ => 0))), (q5, .inl (cA 0, 8, .inl (fun _ => 0))), (q6, .inl (cA 2, 8, .inl (fun _ => 0))), (q7, .inl (cA 0, 8, .inl (fun _ => 0)))] := hD
  refine lv_aload_n hx hb dX4_init_60 rfl (lv_at hl 0 rfl) ?_
  refine lv_iconst (v := 4) hx hb dX4_init_61 (by decide) ?_
  refine na_I hx hb hts hK hP hD hS hA 4 (by decide) (by decide) (Nat.le_of_ble_eq_true rfl) (Nat.le_of_ble_eq_true rfl) (Nat.le_of_ble_eq_true rfl) dX4_init_62 (fun q8 H hP hD hS => ?_)
  have hP : va_P D mcl [(h0, .inr (4, [.ref q1, .null, .null, .int (-1), .ref q3, .ref q4, .ref q5, .ref q6, .ref q7, .null, .int 0, .int 0, .int 0, .int 0, .int 0, .int 0, .int 0, .int 0, .int 0])), (q1, .inr (0, [.int 0, .int 0, .ref (a2 1), .int 0, .int 0, .long 1])), ((a2 1), .inl (cA 2, 8, .inl (fun _ => 0))), (q3, .inl (cA 0, 8, .inl (fun _ => 0))), (q4, .inl (cA 0, 8, .inl (fun _ => 0))), (q5, .inl (cA 0, 8, .inl (fun _ => 0))), (q6, .inl (cA 2, 8, .inl (fun _ => 0))), (q7, .inl (cA 0, 8, .inl (fun _ => 0))), (q8, .inl (cA 0, 4, .inl (fun _ => 0)))] H := hP
  have hD : va_D A [(h0, .inr (4, [.ref q1, .null, .null, .int (-1), .ref q3, .ref q4, .ref q5, .ref q6, .ref q7, .null, .int 0, .int 0, .int 0, .int 0, .int 0, .int 0, .int 0, .int 0, .int 0])), (q1, .inr (0, [.int 0, .int 0, .ref (a2 1), .int 0, .int 0, .long 1])), ((a2 1), .inl (cA 2, 8, .inl (fun _ => 0))), (q3, .inl (cA 0, 8, .inl (fun _ => 0))), (q4, .inl (cA 0, 8, .inl (fun _ => 0))), (q5, .inl (cA 0, 8, .inl (fun _ => 0))), (q6, .inl (cA 2, 8, .inl (fun _ => 0))), (q7, .inl (cA 0, 8, .inl (fun _ => 0))), (q8, .inl (cA 0, 4, .inl (fun _ => 0)))] := hD
  refine va_putF (D := D) (ci := 4) (v := .ref q8) (ty := tyX4 9) (C := RX4) (T := TX4) (N := 19) hx hb hts (mcl_in (ci := 4) rfl) tyX4 tyX4_ok nmX4 hown hK hP hD hS 0 rfl rfl 9 (by decide) (hts _ (mg_2 60 (by decide +kernel) (by decide +kernel))) (fun _ h9 => h9) rfl hin rfl (tyX4_ok 9 (by decide)) rfl rfl (Nat.le_of_ble_eq_true rfl) dX4_init_64 (fun H locs hP hD hS => ?_)
  have hP : va_P D mcl [(h0, .inr (4, [.ref q1, .null, .null, .int (-1), .ref q3, .ref q4, .ref q5, .ref q6, .ref q7, .ref q8, .int 0, .int 0, .int 0, .int 0, .int 0, .int 0, .int 0, .int 0, .int 0])), (q1, .inr (0, [.int 0, .int 0, .ref (a2 1), .int 0, .int 0, .long 1])), ((a2 1), .inl (cA 2, 8, .inl (fun _ => 0))), (q3, .inl (cA 0, 8, .inl (fun _ => 0))), (q4, .inl (cA 0, 8, .inl (fun _ => 0))), (q5, .inl (cA 0, 8, .inl (fun _ => 0))), (q6, .inl (cA 2, 8, .inl (fun _ => 0))), (q7, .inl (cA 0, 8, .inl (fun _ => 0))), (q8, .inl (cA 0, 4, .inl (fun _ => 0)))] H := hP
  have hD : va_D A [(h0, .inr (4, [.ref q1, .null, .null, .int (-1), .ref q3, .ref q4, .ref q5, .ref q6, .ref q7, .ref q8, .int 0, .int 0, .int 0, .int 0, .int 0, .int 0, .int 0, .int 0, .int 0])), (q1, .inr (0, [.int 0, .int 0, .ref (a2 1), .int 0, .int 0, .long 1])), ((a2 1), .inl (cA 2, 8, .inl (fun _ => 0))), (q3, .inl (cA 0, 8, .inl (fun _ => 0))), (q4, .inl (cA 0, 8, .inl (fun _ => 0))), (q5, .inl (cA 0, 8, .inl (fun _ => 0))), (q6, .inl (cA 2, 8, .inl (fun _ => 0))), (q7, .inl (cA 0, 8, .inl (fun _ => 0))), (q8, .inl (cA 0, 4, .inl (fun _ => 0)))] := hD
  refine lv_aload_n hx hb dX4_init_67 rfl (lv_at hl 0 rfl) ?_
  refine lv_aload_n hx hb dX4_init_68 rfl (lv_at hl 1 rfl) ?_
  refine va_put (D := D) (ci := 4) (v := .ref sc) (ty := tyX4 1) (C := RX4) (T := TX4) (N := 19) hx hb hts (mcl_in (ci := 4) rfl) tyX4 tyX4_ok nmX4 hown hK hP hD hS 0 rfl rfl 1 (by decide) (hts _ (mg_2 46 (by decide +kernel) (by decide +kernel))) (fun _ h9 => h9) rfl (tyX4_ok 1 (by decide)) rfl rfl (Nat.le_of_ble_eq_true rfl) dX4_init_69 (fun H locs hP hD hS => ?_)
  have hP : va_P D mcl [(h0, .inr (4, [.ref q1, .ref sc, .null, .int (-1), .ref q3, .ref q4, .ref q5, .ref q6, .ref q7, .ref q8, .int 0, .int 0, .int 0, .int 0, .int 0, .int 0, .int 0, .int 0, .int 0])), (q1, .inr (0, [.int 0, .int 0, .ref (a2 1), .int 0, .int 0, .long 1])), ((a2 1), .inl (cA 2, 8, .inl (fun _ => 0))), (q3, .inl (cA 0, 8, .inl (fun _ => 0))), (q4, .inl (cA 0, 8, .inl (fun _ => 0))), (q5, .inl (cA 0, 8, .inl (fun _ => 0))), (q6, .inl (cA 2, 8, .inl (fun _ => 0))), (q7, .inl (cA 0, 8, .inl (fun _ => 0))), (q8, .inl (cA 0, 4, .inl (fun _ => 0)))] H := hP
  have hD : va_D A [(h0, .inr (4, [.ref q1, .ref sc, .null, .int (-1), .ref q3, .ref q4, .ref q5, .ref q6, .ref q7, .ref q8, .int 0, .int 0, .int 0, .int 0, .int 0, .int 0, .int 0, .int 0, .int 0])), (q1, .inr (0, [.int 0, .int 0, .ref (a2 1), .int 0, .int 0, .long 1])), ((a2 1), .inl (cA 2, 8, .inl (fun _ => 0))), (q3, .inl (cA 0, 8, .inl (fun _ => 0))), (q4, .inl (cA 0, 8, .inl (fun _ => 0))), (q5, .inl (cA 0, 8, .inl (fun _ => 0))), (q6, .inl (cA 2, 8, .inl (fun _ => 0))), (q7, .inl (cA 0, 8, .inl (fun _ => 0))), (q8, .inl (cA 0, 4, .inl (fun _ => 0)))] := hD
  refine lv_aload_n hx hb dX4_init_72 rfl (lv_at hl 0 rfl) ?_
  refine lv_aload_n hx hb dX4_init_73 rfl (lv_at hl 2 rfl) ?_
  refine va_putF (D := D) (ci := 4) (v := .ref lw) (ty := tyX4 2) (C := RX4) (T := TX4) (N := 19) hx hb hts (mcl_in (ci := 4) rfl) tyX4 tyX4_ok nmX4 hown hK hP hD hS 0 rfl rfl 2 (by decide) (hts _ (mg_2 48 (by decide +kernel) (by decide +kernel))) (fun _ h9 => h9) rfl hin rfl (tyX4_ok 2 (by decide)) rfl rfl (Nat.le_of_ble_eq_true rfl) dX4_init_74 (fun H locs hP hD hS => ?_)
  have hP : va_P D mcl [(h0, .inr (4, [.ref q1, .ref sc, .ref lw, .int (-1), .ref q3, .ref q4, .ref q5, .ref q6, .ref q7, .ref q8, .int 0, .int 0, .int 0, .int 0, .int 0, .int 0, .int 0, .int 0, .int 0])), (q1, .inr (0, [.int 0, .int 0, .ref (a2 1), .int 0, .int 0, .long 1])), ((a2 1), .inl (cA 2, 8, .inl (fun _ => 0))), (q3, .inl (cA 0, 8, .inl (fun _ => 0))), (q4, .inl (cA 0, 8, .inl (fun _ => 0))), (q5, .inl (cA 0, 8, .inl (fun _ => 0))), (q6, .inl (cA 2, 8, .inl (fun _ => 0))), (q7, .inl (cA 0, 8, .inl (fun _ => 0))), (q8, .inl (cA 0, 4, .inl (fun _ => 0)))] H := hP
  have hD : va_D A [(h0, .inr (4, [.ref q1, .ref sc, .ref lw, .int (-1), .ref q3, .ref q4, .ref q5, .ref q6, .ref q7, .ref q8, .int 0, .int 0, .int 0, .int 0, .int 0, .int 0, .int 0, .int 0, .int 0])), (q1, .inr (0, [.int 0, .int 0, .ref (a2 1), .int 0, .int 0, .long 1])), ((a2 1), .inl (cA 2, 8, .inl (fun _ => 0))), (q3, .inl (cA 0, 8, .inl (fun _ => 0))), (q4, .inl (cA 0, 8, .inl (fun _ => 0))), (q5, .inl (cA 0, 8, .inl (fun _ => 0))), (q6, .inl (cA 2, 8, .inl (fun _ => 0))), (q7, .inl (cA 0, 8, .inl (fun _ => 0))), (q8, .inl (cA 0, 4, .inl (fun _ => 0)))] := hD
  refine W.widen (k := 8) (n := 58) (Nat.le_of_ble_eq_true rfl) (Nat.le_of_ble_eq_true rfl) ?_
  exact W.vret hx hb hr (fun t ht hW => ⟨⟨(), rfl, trivial, fun j => [h0, q1, (a2 1), q3, q4, q5, q6, q7, q8].getD j 0, by rw [ht]; exact hP, va_K.moved hW.alike hK, hD⟩, hS.F ht⟩) hS.2.2 dX4_init_77
