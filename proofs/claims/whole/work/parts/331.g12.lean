/-! GROUP G12: the lanes. -/
theorem c_X11_carsGo {d : Nat} {H : ZH} (ok : okZ H)  (ws : WFS (H.1 2)) (wn : WFN (H.1 2) (H.1 6)) : EvC zX (d + 2) mX11_carsGo [.ref 0] (eh H) (zPv (fun (H1 : ZH) => FrC H H1 ∧ H1.1 6 = mvN (H.1 2) (H.1 6) ∧ H1.1 0 26 = knF (H.1 2) (H.1 6))) := by
  show _ ∧ Ev zX mX11_carsGo (EvC zX (d + 1)) (zPv (fun (H1 : ZH) => FrC H H1 ∧ H1.1 6 = mvN (H.1 2) (H.1 6) ∧ H1.1 0 26 = knF (H.1 2) (H.1 6))) 0 [(0, .ref 0)] [] (eh H)
  refine ⟨Nat.le_of_ble_eq_true rfl, ?_⟩
  have wsx := ws
  obtain ⟨ws0, ws1, wsC, ws34, ws35, ws36, ws37, ws38, ws39⟩ := wsx
  have wnx := wn
  obtain ⟨wnC, wn32, wn33, wn34, wn35, wn36, wn37, wn38, wn39⟩ := wnx
  refine x_aload_n (pc := 0) dX11_carsGo_0 (List.Mem.head _) ?_
  refine z_iconst (pc := 1) dX11_carsGo_1 ?_
  refine z_putI (pc := 2) (k := 26) dX11_carsGo_2 lp_X11_256 sh_0 rfl ?_
  have ok1 := okI ok 0 26 (v := (-1)) (by decide) (by decide)
  refine z_iconst (pc := 5) dX11_carsGo_5 ?_
  refine x_istore_n (pc := 6) dX11_carsGo_6 (Nat.le_of_ble_eq_true rfl) ?_
  show Ev _ _ _ _ _ [(1, .int (zN (0))), (0, .ref 0)] _ _
  have lp7 : ∀ (nF : Nat) (k : Nat) (Hi : ZH), okZ Hi → (k ≤ 8) → (FrC H Hi) → (Hi.1 6 = H.1 6) → (Hi.1 0 26 = -1) → (∀ j, j < k → Hi.1 9 j = 0 ∧ Hi.1 10 j = 0) → 8 - k < nF → Ev zX mX11_carsGo (EvC zX (d + 1)) (zPv (fun (H1 : ZH) => FrC H H1 ∧ H1.1 6 = mvN (H.1 2) (H.1 6) ∧ H1.1 0 26 = knF (H.1 2) (H.1 6))) 7 [(0, .ref 0), (1, .int (zN ((k : Int))))] [] (eh Hi) := by
    intro nF
    induction nF with
    | zero => intro k Hi okl7 hk fr e6 ek e9 hm; exact absurd hm (Nat.not_lt_zero _)
    | succ nF ih7 =>
      intro k Hi okl7 hk fr e6 ek e9 hm
      refine x_iload_n (pc := 7) dX11_carsGo_7 (List.Mem.tail _ (List.Mem.head _)) ?_
      refine z_bipush (pc := 8) dX11_carsGo_8 bp_8 ?_
      refine z_icmp_ge (pc := 10) (tgt := 33) dX11_carsGo_10 (by decide) (by omega) (by omega) (by decide) (by decide) (fun hb2 => ?_) (fun hb2 => ?_)
      · skip
        refine z_iconst (pc := 33) dX11_carsGo_33 ?_
        refine x_istore_n (pc := 34) dX11_carsGo_34 (Nat.le_of_ble_eq_true rfl) ?_
        show Ev _ _ _ _ _ [(1, .int (zN (0))), (0, .ref 0)] _ _
        have lp35 : ∀ (nF : Nat) (L : Nat) (G : Nat → Bool) (Hm : ZH), okZ Hm → ((L : Int) ≤ H.1 2 0) → (CgI H Hm G) → (∀ d : Nat, (d : Int) < H.1 2 1 → 0 < H.1 6 d → (G d = true ↔ H.1 2 (2 + d) < (L : Int))) → (H.1 2 0).toNat - L < nF → Ev zX mX11_carsGo (EvC zX (d + 1)) (zPv (fun (H1 : ZH) => FrC H H1 ∧ H1.1 6 = mvN (H.1 2) (H.1 6) ∧ H1.1 0 26 = knF (H.1 2) (H.1 6))) 35 [(0, .ref 0), (1, .int (zN ((L : Int))))] [] (eh Hm) := by
          intro nF
          induction nF with
          | zero => intro L G Hm okl35 hL ci ga hm; exact absurd hm (Nat.not_lt_zero _)
          | succ nF ih35 =>
            intro L G Hm okl35 hL ci ga hm
            have e2 := FrC_2 ci.1
            have e2a : ∀ j, Hm.1 2 j = H.1 2 j := fun j => by rw [e2]
            refine x_iload_n (pc := 35) dX11_carsGo_35 (List.Mem.tail _ (List.Mem.head _)) ?_
            refine x_aload_n (pc := 36) dX11_carsGo_36 (List.Mem.head _) ?_
            refine z_getR (pc := 37) (k := 2) (r := 2) dX11_carsGo_37 lf_X11_17 sh_0 rfl rf_0_2 ?_
            refine z_iconst (pc := 40) dX11_carsGo_40 ?_
            refine z_iald (pc := 41) (j := 0) (v := (H.1 2 0)) dX11_carsGo_41 sh_2 rfl (Nat.le_of_ble_eq_true rfl) (by decide) (e2a 0) ?_
            refine z_icmp_ge (pc := 42) (tgt := 165) dX11_carsGo_42 (by decide) (by omega) (by omega) (by omega) (by omega) (fun hb3 => ?_) (fun hb3 => ?_)
            · skip
              have hall : ∀ d : Nat, (d : Int) < H.1 2 1 → 0 < H.1 6 d → G d = true := fun d hd h => (ga d hd h).mpr (by have := wsC d hd; omega)
              refine z_iconst (pc := 165) dX11_carsGo_165 ?_
              refine x_istore_n (pc := 166) dX11_carsGo_166 (Nat.le_of_ble_eq_true rfl) ?_
              show Ev _ _ _ _ _ [(1, .int (zN (0))), (0, .ref 0)] _ _
              have lp167 : ∀ (nF : Nat) (k : Nat), okZ (wA Hm 6 (fun j => if 24 ≤ j ∧ j < 24 + k then Hm.1 10 (j - 24) else Hm.1 6 j)) → (k ≤ 8) → 8 - k < nF → Ev zX mX11_carsGo (EvC zX (d + 1)) (zPv (fun (H1 : ZH) => FrC H H1 ∧ H1.1 6 = mvN (H.1 2) (H.1 6) ∧ H1.1 0 26 = knF (H.1 2) (H.1 6))) 167 [(0, .ref 0), (1, .int (zN ((k : Int))))] [] (eh (wA Hm 6 (fun j => if 24 ≤ j ∧ j < 24 + k then Hm.1 10 (j - 24) else Hm.1 6 j))) := by
                intro nF
                induction nF with
                | zero => intro k okl167 hk hm; exact absurd hm (Nat.not_lt_zero _)
                | succ nF ih167 =>
                  intro k okl167 hk hm
                  refine x_iload_n (pc := 167) dX11_carsGo_167 (List.Mem.tail _ (List.Mem.head _)) ?_
                  refine z_bipush (pc := 168) dX11_carsGo_168 bp_8 ?_
                  refine z_icmp_ge (pc := 170) (tgt := 202) dX11_carsGo_170 (by decide) (by omega) (by omega) (by decide) (by decide) (fun hb4 => ?_) (fun hb4 => ?_)
                  · skip
                    obtain ⟨en1, en2⟩ := cg_end ci ws hall
                    refine z_vreturn (pc := 202) dX11_carsGo_202 rfl okl167 ?_
                    refine ⟨⟨ci.1.1, fun cc j h => by rw [wA1c (by omega)]; exact ci.1.2 cc j h⟩, ?_, ?_⟩
                    · rw [wA1, show k = 8 by omega]; exact en1
                    · rw [wA1c (by omega)]; exact en2
                  · skip
                    refine x_aload_n (pc := 173) dX11_carsGo_173 (List.Mem.head _) ?_
                    refine z_getR (pc := 174) (k := 18) (r := 6) dX11_carsGo_174 lf_X11_33 sh_0 rfl rf_0_18 ?_
                    refine z_bipush (pc := 177) dX11_carsGo_177 bp_24 ?_
                    refine x_iload_n (pc := 179) dX11_carsGo_179 (List.Mem.tail _ (List.Mem.head _)) ?_
                    refine z_iadd (pc := 180) dX11_carsGo_180 ?_
                    refine x_aload_n (pc := 181) dX11_carsGo_181 (List.Mem.head _) ?_
                    refine z_getR (pc := 182) (k := 25) (r := 10) dX11_carsGo_182 lf_X11_51 sh_0 rfl rf_0_25 ?_
                    refine x_iload_n (pc := 185) dX11_carsGo_185 (List.Mem.tail _ (List.Mem.head _)) ?_
                    have rd5 := okl35.1 10 k
                    refine z_zald (pc := 186) (j := k) (v := Hm.1 10 k) dX11_carsGo_186 sh_10 rfl (by omega) (by decide) (by rw [wA1c (by omega)]) ?_
                    refine z_if_eq (pc := 187) (tgt := 194) dX11_carsGo_187 (by decide) (by omega) (by omega) (fun hb6 => ?_) (fun hb6 => ?_)
                    · skip
                      refine z_iconst (pc := 194) dX11_carsGo_194 ?_
                      refine z_iast (pc := 195) (j := 24 + k) (v := 0) dX11_carsGo_195 sh_6 (by omega) (by omega) (by decide) ?_
                      have ok7 := okI okl167 6 (24 + k) (v := 0) (by decide) (by decide)
                      refine z_iinc (pc := 196) dX11_carsGo_196 (List.Mem.tail _ (List.Mem.head _)) (Nat.le_of_ble_eq_true rfl) ?_
                      show Ev _ _ _ _ _ [(1, .int (zN ((k : Int) + 1))), (0, .ref 0)] _ _
                      refine x_goto (pc := 199) (tgt := 167) dX11_carsGo_199 (by decide) ?_
                      refine x_weaken (L1 := [(0, .ref 0), (1, .int (zN ((((k + 1) : Nat) : Int))))]) (List.forall_mem_cons.mpr ⟨(List.Mem.tail _ (List.Mem.head _)), (List.forall_mem_cons.mpr ⟨(mem_ci (by omega) (List.Mem.head _)), (fun _ h => absurd h List.not_mem_nil)⟩)⟩) ?_
                      have he8 : (wI (wA Hm 6 (fun j => if 24 ≤ j ∧ j < 24 + k then Hm.1 10 (j - 24) else Hm.1 6 j)) 6 (24 + k) (0)) = (wA Hm 6 (fun j => if 24 ≤ j ∧ j < 24 + (k + 1) then Hm.1 10 (j - 24) else Hm.1 6 j)) := wA_gen Hm 6 24 (Hm.1 10) k _ (by have := cg_10 ci (c := k) (by omega); omega)
                      refine Ev_heq he8 ?_
                      have ok9 : okZ (wA Hm 6 (fun j => if 24 ≤ j ∧ j < 24 + (k + 1) then Hm.1 10 (j - 24) else Hm.1 6 j)) := by rw [← he8]; exact ok7
                      exact ih167 ((k + 1)) ok9 (by omega) (by omega)
                    · skip
                      refine z_iconst (pc := 190) dX11_carsGo_190 ?_
                      refine x_goto (pc := 191) (tgt := 195) dX11_carsGo_191 (by decide) ?_
                      refine z_iast (pc := 195) (j := 24 + k) (v := 1) dX11_carsGo_195 sh_6 (by omega) (by omega) (by decide) ?_
                      have ok10 := okI okl167 6 (24 + k) (v := 1) (by decide) (by decide)
                      refine z_iinc (pc := 196) dX11_carsGo_196 (List.Mem.tail _ (List.Mem.head _)) (Nat.le_of_ble_eq_true rfl) ?_
                      show Ev _ _ _ _ _ [(1, .int (zN ((k : Int) + 1))), (0, .ref 0)] _ _
                      refine x_goto (pc := 199) (tgt := 167) dX11_carsGo_199 (by decide) ?_
                      refine x_weaken (L1 := [(0, .ref 0), (1, .int (zN ((((k + 1) : Nat) : Int))))]) (List.forall_mem_cons.mpr ⟨(List.Mem.tail _ (List.Mem.head _)), (List.forall_mem_cons.mpr ⟨(mem_ci (by omega) (List.Mem.head _)), (fun _ h => absurd h List.not_mem_nil)⟩)⟩) ?_
                      have he11 : (wI (wA Hm 6 (fun j => if 24 ≤ j ∧ j < 24 + k then Hm.1 10 (j - 24) else Hm.1 6 j)) 6 (24 + k) (1)) = (wA Hm 6 (fun j => if 24 ≤ j ∧ j < 24 + (k + 1) then Hm.1 10 (j - 24) else Hm.1 6 j)) := wA_gen Hm 6 24 (Hm.1 10) k _ (by have := cg_10 ci (c := k) (by omega); omega)
                      refine Ev_heq he11 ?_
                      have ok12 : okZ (wA Hm 6 (fun j => if 24 ≤ j ∧ j < 24 + (k + 1) then Hm.1 10 (j - 24) else Hm.1 6 j)) := by rw [← he11]; exact ok10
                      exact ih167 ((k + 1)) ok12 (by omega) (by omega)
              refine x_weaken (L1 := [(0, .ref 0), (1, .int (zN (((0 : Nat) : Int))))]) (List.forall_mem_cons.mpr ⟨(List.Mem.tail _ (List.Mem.head _)), (List.forall_mem_cons.mpr ⟨(mem_ci (by omega) (List.Mem.head _)), (fun _ h => absurd h List.not_mem_nil)⟩)⟩) ?_
              have he13 : Hm = (wA Hm 6 (fun j => if 24 ≤ j ∧ j < 24 + 0 then Hm.1 10 (j - 24) else Hm.1 6 j)) := wA_gen0 Hm 6 24 (Hm.1 10)
              refine Ev_heq he13 ?_
              have ok14 : okZ (wA Hm 6 (fun j => if 24 ≤ j ∧ j < 24 + 0 then Hm.1 10 (j - 24) else Hm.1 6 j)) := by rw [← he13]; exact okl35
              exact lp167 (8 - 0 + 1) (0) ok14 (by omega) (Nat.lt_succ_self _)
            · skip
              refine z_iconst (pc := 45) dX11_carsGo_45 ?_
              refine x_istore_n (pc := 46) dX11_carsGo_46 (Nat.le_of_ble_eq_true rfl) ?_
              show Ev _ _ _ _ _ [(2, .int (zN (1))), (0, .ref 0), (1, .int (zN ((L : Int))))] _ _
              have lp47 : ∀ (nF : Nat) (m : Int) (F : Nat → Bool) (Hn : ZH), okZ Hn → (CgI H Hn F) → (∀ d : Nat, (d : Int) < H.1 2 1 → 0 < H.1 6 d → H.1 2 (2 + d) ≠ (L : Int) → (F d = true ↔ H.1 2 (2 + d) < (L : Int))) → (∀ x y : Nat, (x : Int) < H.1 2 1 → (y : Int) < H.1 2 1 → H.1 2 (2 + x) = (L : Int) → H.1 2 (2 + y) = (L : Int) → F x = true → F y = false → 0 < H.1 6 y → bfo (H.1 6) x y) → (m = 1 ∨ (m = 0 ∧ ∀ d : Nat, (d : Int) < H.1 2 1 → 0 < H.1 6 d → H.1 2 (2 + d) = (L : Int) → F d = true)) → 2 * cnF F (H.1 2 1).toNat + Int.toNat m < nF → Ev zX mX11_carsGo (EvC zX (d + 1)) (zPv (fun (H1 : ZH) => FrC H H1 ∧ H1.1 6 = mvN (H.1 2) (H.1 6) ∧ H1.1 0 26 = knF (H.1 2) (H.1 6))) 47 [(0, .ref 0), (1, .int (zN ((L : Int)))), (2, .int (zN (m)))] [] (eh Hn) := by
                intro nF
                induction nF with
                | zero => intro m F Hn okl47 ci2 gb cl hmm hm; exact absurd hm (Nat.not_lt_zero _)
                | succ nF ih47 =>
                  intro m F Hn okl47 ci2 gb cl hmm hm
                  have e2n := FrC_2 ci2.1
                  have e2b : ∀ j, Hn.1 2 j = H.1 2 j := fun j => by rw [e2n]
                  refine x_iload_n (pc := 47) dX11_carsGo_47 (List.Mem.tail _ (List.Mem.tail _ (List.Mem.head _))) ?_
                  refine z_if_eq (pc := 48) (tgt := 159) dX11_carsGo_48 (by decide) (by omega) (by omega) (fun hb15 => ?_) (fun hb15 => ?_)
                  · skip
                    refine z_iinc (pc := 159) dX11_carsGo_159 (List.Mem.tail _ (List.Mem.head _)) (Nat.le_of_ble_eq_true rfl) ?_
                    show Ev _ _ _ _ _ [(1, .int (zN ((L : Int) + 1))), (0, .ref 0), (2, .int (zN (m)))] _ _
                    refine x_goto (pc := 162) (tgt := 35) dX11_carsGo_162 (by decide) ?_
                    refine x_weaken (L1 := [(0, .ref 0), (1, .int (zN ((((L + 1) : Nat) : Int))))]) (List.forall_mem_cons.mpr ⟨(List.Mem.tail _ (List.Mem.head _)), (List.forall_mem_cons.mpr ⟨(mem_ci (by omega) (List.Mem.head _)), (fun _ h => absurd h List.not_mem_nil)⟩)⟩) ?_
                    exact ih35 ((L + 1)) (F) Hn okl47 (by omega) (ci2) (fun d hd h => by
      have z := gb d hd h
      rcases hmm with q | q
      · omega
      · by_cases w : H.1 2 (2 + d) = (L : Int)
        · exact ⟨fun _ => by omega, fun _ => q.2 d hd h w⟩
        · rw [z w]; omega) (by omega)
                  · skip
                    refine z_iconst (pc := 51) dX11_carsGo_51 ?_
                    refine x_istore_n (pc := 52) dX11_carsGo_52 (Nat.le_of_ble_eq_true rfl) ?_
                    show Ev _ _ _ _ _ [(3, .int (zN ((-1)))), (0, .ref 0), (1, .int (zN ((L : Int)))), (2, .int (zN (m)))] _ _
                    refine z_iconst (pc := 53) dX11_carsGo_53 ?_
                    refine x_istore (pc := 54) dX11_carsGo_54 (Nat.le_of_ble_eq_true rfl) ?_
                    show Ev _ _ _ _ _ [(4, .int (zN (0))), (3, .int (zN ((-1)))), (0, .ref 0), (1, .int (zN ((L : Int)))), (2, .int (zN (m)))] _ _
                    have lp56 : ∀ (nF : Nat) (k : Nat) (b : Int), ((k : Int) ≤ H.1 2 1) → (BestI (fun j => ((H.1 2 (2 + j) = (L : Int) ∧ F j = false) ∧ 0 < H.1 6 j)) (H.1 6) b k) → (H.1 2 1).toNat - k < nF → Ev zX mX11_carsGo (EvC zX (d + 1)) (zPv (fun (H1 : ZH) => FrC H H1 ∧ H1.1 6 = mvN (H.1 2) (H.1 6) ∧ H1.1 0 26 = knF (H.1 2) (H.1 6))) 56 [(0, .ref 0), (1, .int (zN ((L : Int)))), (2, .int (zN (m))), (3, .int (zN (b))), (4, .int (zN ((k : Int))))] [] (eh Hn) := by
                      intro nF
                      induction nF with
                      | zero => intro k b hk hb hm; exact absurd hm (Nat.not_lt_zero _)
                      | succ nF ih56 =>
                        intro k b hk hb hm
                        have bbd : -1 ≤ b ∧ b ≤ 8 := by rcases hb with ⟨e, _⟩ | ⟨bb, e, hl, _⟩ <;> omega
                        refine x_iload (pc := 56) dX11_carsGo_56 (List.Mem.tail _ (List.Mem.tail _ (List.Mem.tail _ (List.Mem.tail _ (List.Mem.head _))))) ?_
                        refine x_aload_n (pc := 58) dX11_carsGo_58 (List.Mem.head _) ?_
                        refine z_getR (pc := 59) (k := 2) (r := 2) dX11_carsGo_59 lf_X11_17 sh_0 rfl rf_0_2 ?_
                        refine z_iconst (pc := 62) dX11_carsGo_62 ?_
                        refine z_iald (pc := 63) (j := 1) (v := (H.1 2 1)) dX11_carsGo_63 sh_2 rfl (Nat.le_of_ble_eq_true rfl) (by decide) (e2b 1) ?_
                        refine z_icmp_ge (pc := 64) (tgt := 136) dX11_carsGo_64 (by decide) (by omega) (by omega) (by omega) (by omega) (fun hb16 => ?_) (fun hb16 => ?_)
                        · skip
                          refine x_iload_n (pc := 136) dX11_carsGo_136 (List.Mem.tail _ (List.Mem.tail _ (List.Mem.tail _ (List.Mem.head _)))) ?_
                          refine z_iconst (pc := 137) dX11_carsGo_137 ?_
                          refine z_icmp_eq (pc := 138) (tgt := 145) dX11_carsGo_138 (by decide) (by omega) (by omega) (by decide) (by decide) (fun hb17 => ?_) (fun hb17 => ?_)
                          · skip
                            have ci3 := ci2
                            have gb3 := gb
                            have cl3 := cl
                            have hm3 : (0 : Int) = 1 ∨ ((0 : Int) = 0 ∧ ∀ d : Nat, (d : Int) < H.1 2 1 → 0 < H.1 6 d → H.1 2 (2 + d) = (L : Int) → F d = true) := Or.inr ⟨rfl, fun d hd h e => by
                                rcases hb with ⟨_, q⟩ | ⟨bb, q, _⟩
                                · cases g : F d with
                                  | true => rfl
                                  | false => exact absurd ⟨⟨e, g⟩, h⟩ (q d (by omega))
                                · omega⟩
                            refine z_iconst (pc := 145) dX11_carsGo_145 ?_
                            refine x_istore_n (pc := 146) dX11_carsGo_146 (Nat.le_of_ble_eq_true rfl) ?_
                            show Ev _ _ _ _ _ [(2, .int (zN (0))), (0, .ref 0), (1, .int (zN ((L : Int)))), (3, .int (zN (b))), (4, .int (zN ((k : Int))))] _ _
                            refine x_iload_n (pc := 147) dX11_carsGo_147 (List.Mem.head _) ?_
                            refine z_if_eq (pc := 148) (tgt := 156) dX11_carsGo_148 (by decide) (by decide) (by decide) (fun _ => ?_) (fun h => absurd h (by decide))
                            refine x_goto (pc := 156) (tgt := 47) dX11_carsGo_156 (by decide) ?_
                            refine x_weaken (L1 := [(0, .ref 0), (1, .int (zN ((L : Int)))), (2, .int (zN (0)))]) (List.forall_mem_cons.mpr ⟨(List.Mem.tail _ (List.Mem.head _)), (List.forall_mem_cons.mpr ⟨(List.Mem.tail _ (List.Mem.tail _ (List.Mem.head _))), (List.forall_mem_cons.mpr ⟨(List.Mem.head _), (fun _ h => absurd h List.not_mem_nil)⟩)⟩)⟩) ?_
                            exact ih47 (0) (F) Hn okl47 (ci3) (gb3) (cl3) (hm3) (by omega)
                          · skip
                            obtain ⟨bb, ebb, hlt, hpb, hmin⟩ : ∃ bb : Nat, b = (bb : Int) ∧ bb < k ∧ ((H.1 2 (2 + bb) = (L : Int) ∧ F bb = false) ∧ 0 < H.1 6 bb) ∧ ∀ j, j < k → ((H.1 2 (2 + j) = (L : Int) ∧ F j = false) ∧ 0 < H.1 6 j) → j = bb ∨ bfo (H.1 6) bb j := hb.resolve_left (fun z => by omega)
                            have wcb := wsC bb (by omega)
                            have vcb := wnC bb (by omega)
                            have dbb : Hn.1 6 bb = H.1 6 bb ∧ Hn.1 6 (8 + bb) = H.1 6 (8 + bb) ∧ Hn.1 10 bb = 0 := ci2.2.2.1.2.1 bb (by omega) hpb.1.2
                            have d16 := ci2.2.1 (16 + bb) (by omega) (by omega)
                            have hkey : ∀ d : Nat, (d : Int) < H.1 2 1 → H.1 2 (2 + d) = H.1 2 (2 + bb) → (F d = true ↔ 0 < H.1 6 d ∧ bfo (H.1 6) d bb) := fun d hd e => by
                              have e3 : H.1 2 (2 + d) = (L : Int) := e.trans hpb.1.1
                              refine ⟨fun g => ⟨(ci2.2.2.1.1 d hd g).1, cl d bb hd (by omega) e3 hpb.1.1 g hpb.1.2 hpb.2⟩, fun g => ?_⟩
                              cases gd : F d with
                              | true => rfl
                              | false =>
                                rcases hmin d (by omega) ⟨⟨e3, gd⟩, g.1⟩ with q | q
                                · subst q; exact absurd g.2 bfo_irr
                                · exact absurd (bfo_tr q g.2) bfo_irr
                            refine z_iconst (pc := 141) dX11_carsGo_141 ?_
                            refine x_goto (pc := 142) (tgt := 146) dX11_carsGo_142 (by decide) ?_
                            refine x_istore_n (pc := 146) dX11_carsGo_146 (Nat.le_of_ble_eq_true rfl) ?_
                            show Ev _ _ _ _ _ [(2, .int (zN (1))), (0, .ref 0), (1, .int (zN ((L : Int)))), (3, .int (zN (b))), (4, .int (zN ((k : Int))))] _ _
                            refine x_iload_n (pc := 147) dX11_carsGo_147 (List.Mem.head _) ?_
                            refine z_if_eq (pc := 148) (tgt := 156) dX11_carsGo_148 (by decide) (by decide) (by decide) (fun h => absurd h (by decide)) (fun _ => ?_)
                            refine x_aload_n (pc := 151) dX11_carsGo_151 (List.Mem.tail _ (List.Mem.head _)) ?_
                            refine x_iload_n (pc := 152) dX11_carsGo_152 (List.Mem.tail _ (List.Mem.tail _ (List.Mem.tail _ (List.Mem.head _)))) ?_
                            refine z_callVv (pc := 153) (i := mX11_goesOn) (S := []) [.int (zN (b))] dX11_carsGo_153 ml_X11_259 ok_X11_goesOn rfl sh_0 rfl rfl (Nat.le_of_ble_eq_true rfl) (by have qz := c_X11_goesOn (d := d) (c := bb) (hc := (show (bb : Int) < Hn.1 2 1 by rw [e2b]; omega)) (ok := okl47) (hn8 := (by rw [e2b]; omega)) (vb := (fun d hd => cg_bd ci2 wn d (by rw [e2b] at hd; exact hd))) (vc := (by rw [dbb.1]; omega)) (sb := (by rw [dbb.2.1]; exact vcb.2.1)) (go := (by rw [d16, dbb.2.1]; exact vcb.2.2.2.1)) (e0 := dbb.2.2); rw [show ((bb : Nat) : Int) = b by omega] at qz; exact qz) ?_
                            intro H23 ok21 hp22
                            rw [ebb] at hp22
                            have ci3 : CgI H H23 (Gup F bb) := by rw [hp22]; exact go_step ci2 ws wn (by omega) hpb.1.2 hpb.2 hkey rfl
                            have gb3 : ∀ d : Nat, (d : Int) < H.1 2 1 → 0 < H.1 6 d → H.1 2 (2 + d) ≠ (L : Int) → (Gup F bb d = true ↔ H.1 2 (2 + d) < (L : Int)) := fun d hd h e => by
                              rw [Gup_ne (fun q => e (by rw [q]; exact hpb.1.1))]
                              exact gb d hd h e
                            have cl3 : ∀ x y : Nat, (x : Int) < H.1 2 1 → (y : Int) < H.1 2 1 → H.1 2 (2 + x) = (L : Int) → H.1 2 (2 + y) = (L : Int) → Gup F bb x = true → Gup F bb y = false → 0 < H.1 6 y → bfo (H.1 6) x y := fun x y hx hy ex ey gx gy h => by
                              have ny : ¬ y = bb := fun q => by rw [q, Gup_at] at gy; exact absurd gy (by decide)
                              rw [Gup_ne ny] at gy
                              by_cases q : x = bb
                              · rw [q]
                                exact (hmin y (by omega) ⟨⟨ey, gy⟩, h⟩).resolve_left ny
                              · rw [Gup_ne q] at gx
                                exact cl x y hx hy ex ey gx gy h
                            have hm3 : (1 : Int) = 1 ∨ ((1 : Int) = 0 ∧ ∀ d : Nat, (d : Int) < H.1 2 1 → 0 < H.1 6 d → H.1 2 (2 + d) = (L : Int) → Gup F bb d = true) := Or.inl rfl
                            have cnu := cnF_up (G := F) (c := bb) (n := (H.1 2 1).toNat) (by omega) hpb.1.2
                            refine x_goto (pc := 156) (tgt := 47) dX11_carsGo_156 (by decide) ?_
                            refine x_weaken (L1 := [(0, .ref 0), (1, .int (zN ((L : Int)))), (2, .int (zN (1)))]) (List.forall_mem_cons.mpr ⟨(List.Mem.tail _ (List.Mem.head _)), (List.forall_mem_cons.mpr ⟨(List.Mem.tail _ (List.Mem.tail _ (List.Mem.head _))), (List.forall_mem_cons.mpr ⟨(List.Mem.head _), (fun _ h => absurd h List.not_mem_nil)⟩)⟩)⟩) ?_
                            exact ih47 (1) ((Gup F bb)) H23 ok21 (ci3) (gb3) (cl3) (hm3) (by omega)
                        · skip
                          have wck := wsC k (by omega)
                          have vck := wnC k (by omega)
                          refine x_aload_n (pc := 67) dX11_carsGo_67 (List.Mem.head _) ?_
                          refine z_getR (pc := 68) (k := 2) (r := 2) dX11_carsGo_68 lf_X11_17 sh_0 rfl rf_0_2 ?_
                          refine z_iconst (pc := 71) dX11_carsGo_71 ?_
                          refine x_iload (pc := 72) dX11_carsGo_72 (List.Mem.tail _ (List.Mem.tail _ (List.Mem.tail _ (List.Mem.tail _ (List.Mem.head _))))) ?_
                          refine z_iadd (pc := 74) dX11_carsGo_74 ?_
                          refine z_iald (pc := 75) (j := 2 + k) (v := (H.1 2 (2 + k))) dX11_carsGo_75 sh_2 (by omega) (by omega) (by decide) (e2b _) ?_
                          refine x_iload_n (pc := 76) dX11_carsGo_76 (List.Mem.tail _ (List.Mem.head _)) ?_
                          refine z_icmp_ne (pc := 77) (tgt := 130) dX11_carsGo_77 (by decide) (by omega) (by omega) (by omega) (by omega) (fun hb24 => ?_) (fun hb24 => ?_)
                          · skip
                            refine z_iinc (pc := 130) dX11_carsGo_130 (List.Mem.tail _ (List.Mem.tail _ (List.Mem.tail _ (List.Mem.tail _ (List.Mem.head _))))) (Nat.le_of_ble_eq_true rfl) ?_
                            show Ev _ _ _ _ _ [(4, .int (zN ((k : Int) + 1))), (0, .ref 0), (1, .int (zN ((L : Int)))), (2, .int (zN (m))), (3, .int (zN (b)))] _ _
                            refine x_goto (pc := 133) (tgt := 56) dX11_carsGo_133 (by decide) ?_
                            refine x_weaken (L1 := [(0, .ref 0), (1, .int (zN ((L : Int)))), (2, .int (zN (m))), (3, .int (zN (b))), (4, .int (zN ((((k + 1) : Nat) : Int))))]) (List.forall_mem_cons.mpr ⟨(List.Mem.tail _ (List.Mem.head _)), (List.forall_mem_cons.mpr ⟨(List.Mem.tail _ (List.Mem.tail _ (List.Mem.head _))), (List.forall_mem_cons.mpr ⟨(List.Mem.tail _ (List.Mem.tail _ (List.Mem.tail _ (List.Mem.head _)))), (List.forall_mem_cons.mpr ⟨(List.Mem.tail _ (List.Mem.tail _ (List.Mem.tail _ (List.Mem.tail _ (List.Mem.head _))))), (List.forall_mem_cons.mpr ⟨(mem_ci (by omega) (List.Mem.head _)), (fun _ h => absurd h List.not_mem_nil)⟩)⟩)⟩)⟩)⟩) ?_
                            exact ih56 ((k + 1)) (b) (by first | assumption | omega) (by first | exact best_no hb (fun z => by first | omega | (rw [gk] at z; exact absurd z.1.2 (by decide))) | exact hbn) (by omega)
                          · skip
                            refine x_aload_n (pc := 80) dX11_carsGo_80 (List.Mem.head _) ?_
                            refine z_getR (pc := 81) (k := 24) (r := 9) dX11_carsGo_81 lf_X11_48 sh_0 rfl rf_0_24 ?_
                            refine x_iload (pc := 84) dX11_carsGo_84 (List.Mem.tail _ (List.Mem.tail _ (List.Mem.tail _ (List.Mem.tail _ (List.Mem.head _))))) ?_
                            have rd25 := okl47.1 9 k
                            refine z_zald (pc := 86) (j := k) (v := Hn.1 9 k) dX11_carsGo_86 sh_9 rfl (by omega) (by decide) rfl ?_
                            refine z_if_ne (pc := 87) (tgt := 130) dX11_carsGo_87 (by decide) (by omega) (by omega) (fun hb26 => ?_) (fun hb26 => ?_)
                            · skip
                              have gk := (Gof (ci2.2.2.2.1 k (by omega))).2 hb26
                              refine z_iinc (pc := 130) dX11_carsGo_130 (List.Mem.tail _ (List.Mem.tail _ (List.Mem.tail _ (List.Mem.tail _ (List.Mem.head _))))) (Nat.le_of_ble_eq_true rfl) ?_
                              show Ev _ _ _ _ _ [(4, .int (zN ((k : Int) + 1))), (0, .ref 0), (1, .int (zN ((L : Int)))), (2, .int (zN (m))), (3, .int (zN (b)))] _ _
                              refine x_goto (pc := 133) (tgt := 56) dX11_carsGo_133 (by decide) ?_
                              refine x_weaken (L1 := [(0, .ref 0), (1, .int (zN ((L : Int)))), (2, .int (zN (m))), (3, .int (zN (b))), (4, .int (zN ((((k + 1) : Nat) : Int))))]) (List.forall_mem_cons.mpr ⟨(List.Mem.tail _ (List.Mem.head _)), (List.forall_mem_cons.mpr ⟨(List.Mem.tail _ (List.Mem.tail _ (List.Mem.head _))), (List.forall_mem_cons.mpr ⟨(List.Mem.tail _ (List.Mem.tail _ (List.Mem.tail _ (List.Mem.head _)))), (List.forall_mem_cons.mpr ⟨(List.Mem.tail _ (List.Mem.tail _ (List.Mem.tail _ (List.Mem.tail _ (List.Mem.head _))))), (List.forall_mem_cons.mpr ⟨(mem_ci (by omega) (List.Mem.head _)), (fun _ h => absurd h List.not_mem_nil)⟩)⟩)⟩)⟩)⟩) ?_
                              exact ih56 ((k + 1)) (b) (by first | assumption | omega) (by first | exact best_no hb (fun z => by first | omega | (rw [gk] at z; exact absurd z.1.2 (by decide))) | exact hbn) (by omega)
                            · skip
                              have gk := (Gof (ci2.2.2.2.1 k (by omega))).1 hb26
                              have dk : Hn.1 6 k = H.1 6 k := (ci2.2.2.1.2.1 k (by omega) gk).1
                              refine x_aload_n (pc := 90) dX11_carsGo_90 (List.Mem.head _) ?_
                              refine z_getR (pc := 91) (k := 18) (r := 6) dX11_carsGo_91 lf_X11_33 sh_0 rfl rf_0_18 ?_
                              refine z_iconst (pc := 94) dX11_carsGo_94 ?_
                              refine x_iload (pc := 95) dX11_carsGo_95 (List.Mem.tail _ (List.Mem.tail _ (List.Mem.tail _ (List.Mem.tail _ (List.Mem.head _))))) ?_
                              refine z_iadd (pc := 97) dX11_carsGo_97 ?_
                              refine z_iald (pc := 98) (j := k) (v := (H.1 6 k)) dX11_carsGo_98 sh_6 (by omega) (by omega) (by decide) dk ?_
                              refine z_if_le (pc := 99) (tgt := 130) dX11_carsGo_99 (by decide) (by omega) (by omega) (fun hb27 => ?_) (fun hb27 => ?_)
                              · skip
                                refine z_iinc (pc := 130) dX11_carsGo_130 (List.Mem.tail _ (List.Mem.tail _ (List.Mem.tail _ (List.Mem.tail _ (List.Mem.head _))))) (Nat.le_of_ble_eq_true rfl) ?_
                                show Ev _ _ _ _ _ [(4, .int (zN ((k : Int) + 1))), (0, .ref 0), (1, .int (zN ((L : Int)))), (2, .int (zN (m))), (3, .int (zN (b)))] _ _
                                refine x_goto (pc := 133) (tgt := 56) dX11_carsGo_133 (by decide) ?_
                                refine x_weaken (L1 := [(0, .ref 0), (1, .int (zN ((L : Int)))), (2, .int (zN (m))), (3, .int (zN (b))), (4, .int (zN ((((k + 1) : Nat) : Int))))]) (List.forall_mem_cons.mpr ⟨(List.Mem.tail _ (List.Mem.head _)), (List.forall_mem_cons.mpr ⟨(List.Mem.tail _ (List.Mem.tail _ (List.Mem.head _))), (List.forall_mem_cons.mpr ⟨(List.Mem.tail _ (List.Mem.tail _ (List.Mem.tail _ (List.Mem.head _)))), (List.forall_mem_cons.mpr ⟨(List.Mem.tail _ (List.Mem.tail _ (List.Mem.tail _ (List.Mem.tail _ (List.Mem.head _))))), (List.forall_mem_cons.mpr ⟨(mem_ci (by omega) (List.Mem.head _)), (fun _ h => absurd h List.not_mem_nil)⟩)⟩)⟩)⟩)⟩) ?_
                                exact ih56 ((k + 1)) (b) (by first | assumption | omega) (by first | exact best_no hb (fun z => by first | omega | (rw [gk] at z; exact absurd z.1.2 (by decide))) | exact hbn) (by omega)
                              · skip
                                refine x_iload_n (pc := 102) dX11_carsGo_102 (List.Mem.tail _ (List.Mem.tail _ (List.Mem.tail _ (List.Mem.head _)))) ?_
                                refine z_iconst (pc := 103) dX11_carsGo_103 ?_
                                refine z_icmp_eq (pc := 104) (tgt := 127) dX11_carsGo_104 (by decide) (by omega) (by omega) (by decide) (by decide) (fun hb28 => ?_) (fun hb28 => ?_)
                                · skip
                                  have hbn : BestI (fun j => ((H.1 2 (2 + j) = (L : Int) ∧ F j = false) ∧ 0 < H.1 6 j)) (H.1 6) (k : Int) (k + 1) := best_one (by rw [show b = -1 by omega] at hb; exact hb) ⟨⟨by omega, gk⟩, by omega⟩
                                  refine x_iload (pc := 127) dX11_carsGo_127 (List.Mem.tail _ (List.Mem.tail _ (List.Mem.tail _ (List.Mem.tail _ (List.Mem.head _))))) ?_
                                  refine x_istore_n (pc := 129) dX11_carsGo_129 (Nat.le_of_ble_eq_true rfl) ?_
                                  show Ev _ _ _ _ _ [(3, .int (zN ((k : Int)))), (0, .ref 0), (1, .int (zN ((L : Int)))), (2, .int (zN (m))), (4, .int (zN ((k : Int))))] _ _
                                  refine z_iinc (pc := 130) dX11_carsGo_130 (List.Mem.tail _ (List.Mem.tail _ (List.Mem.tail _ (List.Mem.tail _ (List.Mem.head _))))) (Nat.le_of_ble_eq_true rfl) ?_
                                  show Ev _ _ _ _ _ [(4, .int (zN ((k : Int) + 1))), (3, .int (zN ((k : Int)))), (0, .ref 0), (1, .int (zN ((L : Int)))), (2, .int (zN (m)))] _ _
                                  refine x_goto (pc := 133) (tgt := 56) dX11_carsGo_133 (by decide) ?_
                                  refine x_weaken (L1 := [(0, .ref 0), (1, .int (zN ((L : Int)))), (2, .int (zN (m))), (3, .int (zN ((k : Int)))), (4, .int (zN ((((k + 1) : Nat) : Int))))]) (List.forall_mem_cons.mpr ⟨(List.Mem.tail _ (List.Mem.tail _ (List.Mem.head _))), (List.forall_mem_cons.mpr ⟨(List.Mem.tail _ (List.Mem.tail _ (List.Mem.tail _ (List.Mem.head _)))), (List.forall_mem_cons.mpr ⟨(List.Mem.tail _ (List.Mem.tail _ (List.Mem.tail _ (List.Mem.tail _ (List.Mem.head _))))), (List.forall_mem_cons.mpr ⟨(List.Mem.tail _ (List.Mem.head _)), (List.forall_mem_cons.mpr ⟨(mem_ci (by omega) (List.Mem.head _)), (fun _ h => absurd h List.not_mem_nil)⟩)⟩)⟩)⟩)⟩) ?_
                                  exact ih56 ((k + 1)) ((k : Int)) (by first | assumption | omega) (by first | exact best_no hb (fun z => by first | omega | (rw [gk] at z; exact absurd z.1.2 (by decide))) | exact hbn) (by omega)
                                · skip
                                  obtain ⟨bb, ebb, hlt, hpb, hmin⟩ : ∃ bb : Nat, b = (bb : Int) ∧ bb < k ∧ ((H.1 2 (2 + bb) = (L : Int) ∧ F bb = false) ∧ 0 < H.1 6 bb) ∧ ∀ j, j < k → ((H.1 2 (2 + j) = (L : Int) ∧ F j = false) ∧ 0 < H.1 6 j) → j = bb ∨ bfo (H.1 6) bb j := hb.resolve_left (fun z => by omega)
                                  have dbb : Hn.1 6 bb = H.1 6 bb := (ci2.2.2.1.2.1 bb (by omega) hpb.1.2).1
                                  have vcb := wnC bb (by omega)
                                  refine x_aload_n (pc := 107) dX11_carsGo_107 (List.Mem.head _) ?_
                                  refine z_getR (pc := 108) (k := 18) (r := 6) dX11_carsGo_108 lf_X11_33 sh_0 rfl rf_0_18 ?_
                                  refine z_iconst (pc := 111) dX11_carsGo_111 ?_
                                  refine x_iload (pc := 112) dX11_carsGo_112 (List.Mem.tail _ (List.Mem.tail _ (List.Mem.tail _ (List.Mem.tail _ (List.Mem.head _))))) ?_
                                  refine z_iadd (pc := 114) dX11_carsGo_114 ?_
                                  refine z_iald (pc := 115) (j := k) (v := (H.1 6 k)) dX11_carsGo_115 sh_6 (by omega) (by omega) (by decide) dk ?_
                                  refine x_aload_n (pc := 116) dX11_carsGo_116 (List.Mem.head _) ?_
                                  refine z_getR (pc := 117) (k := 18) (r := 6) dX11_carsGo_117 lf_X11_33 sh_0 rfl rf_0_18 ?_
                                  refine z_iconst (pc := 120) dX11_carsGo_120 ?_
                                  refine x_iload_n (pc := 121) dX11_carsGo_121 (List.Mem.tail _ (List.Mem.tail _ (List.Mem.tail _ (List.Mem.head _)))) ?_
                                  refine z_iadd (pc := 122) dX11_carsGo_122 ?_
                                  refine z_iald (pc := 123) (j := bb) (v := (H.1 6 bb)) dX11_carsGo_123 sh_6 (by omega) (by omega) (by decide) dbb ?_
                                  refine z_icmp_ge (pc := 124) (tgt := 130) dX11_carsGo_124 (by decide) (by omega) (by omega) (by omega) (by omega) (fun hb29 => ?_) (fun hb29 => ?_)
                                  · skip
                                    have hbn : BestI (fun j => ((H.1 2 (2 + j) = (L : Int) ∧ F j = false) ∧ 0 < H.1 6 j)) (H.1 6) b (k + 1) := best_ge hb ebb (by omega)
                                    refine z_iinc (pc := 130) dX11_carsGo_130 (List.Mem.tail _ (List.Mem.tail _ (List.Mem.tail _ (List.Mem.tail _ (List.Mem.head _))))) (Nat.le_of_ble_eq_true rfl) ?_
                                    show Ev _ _ _ _ _ [(4, .int (zN ((k : Int) + 1))), (0, .ref 0), (1, .int (zN ((L : Int)))), (2, .int (zN (m))), (3, .int (zN (b)))] _ _
                                    refine x_goto (pc := 133) (tgt := 56) dX11_carsGo_133 (by decide) ?_
                                    refine x_weaken (L1 := [(0, .ref 0), (1, .int (zN ((L : Int)))), (2, .int (zN (m))), (3, .int (zN (b))), (4, .int (zN ((((k + 1) : Nat) : Int))))]) (List.forall_mem_cons.mpr ⟨(List.Mem.tail _ (List.Mem.head _)), (List.forall_mem_cons.mpr ⟨(List.Mem.tail _ (List.Mem.tail _ (List.Mem.head _))), (List.forall_mem_cons.mpr ⟨(List.Mem.tail _ (List.Mem.tail _ (List.Mem.tail _ (List.Mem.head _)))), (List.forall_mem_cons.mpr ⟨(List.Mem.tail _ (List.Mem.tail _ (List.Mem.tail _ (List.Mem.tail _ (List.Mem.head _))))), (List.forall_mem_cons.mpr ⟨(mem_ci (by omega) (List.Mem.head _)), (fun _ h => absurd h List.not_mem_nil)⟩)⟩)⟩)⟩)⟩) ?_
                                    exact ih56 ((k + 1)) (b) (by first | assumption | omega) (by first | exact best_no hb (fun z => by first | omega | (rw [gk] at z; exact absurd z.1.2 (by decide))) | exact hbn) (by omega)
                                  · skip
                                    have hbn : BestI (fun j => ((H.1 2 (2 + j) = (L : Int) ∧ F j = false) ∧ 0 < H.1 6 j)) (H.1 6) (k : Int) (k + 1) := best_lt hb ebb ⟨⟨by omega, gk⟩, by omega⟩ (by omega)
                                    refine x_iload (pc := 127) dX11_carsGo_127 (List.Mem.tail _ (List.Mem.tail _ (List.Mem.tail _ (List.Mem.tail _ (List.Mem.head _))))) ?_
                                    refine x_istore_n (pc := 129) dX11_carsGo_129 (Nat.le_of_ble_eq_true rfl) ?_
                                    show Ev _ _ _ _ _ [(3, .int (zN ((k : Int)))), (0, .ref 0), (1, .int (zN ((L : Int)))), (2, .int (zN (m))), (4, .int (zN ((k : Int))))] _ _
                                    refine z_iinc (pc := 130) dX11_carsGo_130 (List.Mem.tail _ (List.Mem.tail _ (List.Mem.tail _ (List.Mem.tail _ (List.Mem.head _))))) (Nat.le_of_ble_eq_true rfl) ?_
                                    show Ev _ _ _ _ _ [(4, .int (zN ((k : Int) + 1))), (3, .int (zN ((k : Int)))), (0, .ref 0), (1, .int (zN ((L : Int)))), (2, .int (zN (m)))] _ _
                                    refine x_goto (pc := 133) (tgt := 56) dX11_carsGo_133 (by decide) ?_
                                    refine x_weaken (L1 := [(0, .ref 0), (1, .int (zN ((L : Int)))), (2, .int (zN (m))), (3, .int (zN ((k : Int)))), (4, .int (zN ((((k + 1) : Nat) : Int))))]) (List.forall_mem_cons.mpr ⟨(List.Mem.tail _ (List.Mem.tail _ (List.Mem.head _))), (List.forall_mem_cons.mpr ⟨(List.Mem.tail _ (List.Mem.tail _ (List.Mem.tail _ (List.Mem.head _)))), (List.forall_mem_cons.mpr ⟨(List.Mem.tail _ (List.Mem.tail _ (List.Mem.tail _ (List.Mem.tail _ (List.Mem.head _))))), (List.forall_mem_cons.mpr ⟨(List.Mem.tail _ (List.Mem.head _)), (List.forall_mem_cons.mpr ⟨(mem_ci (by omega) (List.Mem.head _)), (fun _ h => absurd h List.not_mem_nil)⟩)⟩)⟩)⟩)⟩) ?_
                                    exact ih56 ((k + 1)) ((k : Int)) (by first | assumption | omega) (by first | exact best_no hb (fun z => by first | omega | (rw [gk] at z; exact absurd z.1.2 (by decide))) | exact hbn) (by omega)
                    refine x_weaken (L1 := [(0, .ref 0), (1, .int (zN ((L : Int)))), (2, .int (zN (m))), (3, .int (zN ((-1)))), (4, .int (zN (((0 : Nat) : Int))))]) (List.forall_mem_cons.mpr ⟨(List.Mem.tail _ (List.Mem.tail _ (List.Mem.head _))), (List.forall_mem_cons.mpr ⟨(List.Mem.tail _ (List.Mem.tail _ (List.Mem.tail _ (List.Mem.head _)))), (List.forall_mem_cons.mpr ⟨(List.Mem.tail _ (List.Mem.tail _ (List.Mem.tail _ (List.Mem.tail _ (List.Mem.head _))))), (List.forall_mem_cons.mpr ⟨(List.Mem.tail _ (List.Mem.head _)), (List.forall_mem_cons.mpr ⟨(mem_ci (by omega) (List.Mem.head _)), (fun _ h => absurd h List.not_mem_nil)⟩)⟩)⟩)⟩)⟩) ?_
                    exact lp56 ((H.1 2 1).toNat - 0 + 1) (0) ((-1)) (by first | assumption | omega) (Or.inl ⟨rfl, fun j h => absurd h (Nat.not_lt_zero _)⟩) (Nat.lt_succ_self _)
              refine x_weaken (L1 := [(0, .ref 0), (1, .int (zN ((L : Int)))), (2, .int (zN (1)))]) (List.forall_mem_cons.mpr ⟨(List.Mem.tail _ (List.Mem.head _)), (List.forall_mem_cons.mpr ⟨(List.Mem.tail _ (List.Mem.tail _ (List.Mem.head _))), (List.forall_mem_cons.mpr ⟨(List.Mem.head _), (fun _ h => absurd h List.not_mem_nil)⟩)⟩)⟩) ?_
              exact lp47 (2 * cnF G (H.1 2 1).toNat + Int.toNat 1 + 1) (1) (G) Hm okl35 (ci) (fun d hd h _ => ga d hd h) (fun x y hx hy ex ey fx fy h => absurd ((ga x hx (ci.2.2.1.1 x hx fx).1).mp fx) (by omega)) (Or.inl rfl) (Nat.lt_succ_self _)
        refine x_weaken (L1 := [(0, .ref 0), (1, .int (zN (((0 : Nat) : Int))))]) (List.forall_mem_cons.mpr ⟨(List.Mem.tail _ (List.Mem.head _)), (List.forall_mem_cons.mpr ⟨(mem_ci (by omega) (List.Mem.head _)), (fun _ h => absurd h List.not_mem_nil)⟩)⟩) ?_
        exact lp35 ((H.1 2 0).toNat - 0 + 1) (0) (fun _ => false) Hi okl7 (by omega) (cg_0 fr e6 ek (fun j hj => e9 j (by omega)) (by omega)) (fun d hd h => ⟨fun q => Bool.noConfusion q, fun q => absurd q (by have := wsC d hd; omega)⟩) (Nat.lt_succ_self _)
      · skip
        refine x_aload_n (pc := 13) dX11_carsGo_13 (List.Mem.head _) ?_
        refine z_getR (pc := 14) (k := 24) (r := 9) dX11_carsGo_14 lf_X11_48 sh_0 rfl rf_0_24 ?_
        refine x_iload_n (pc := 17) dX11_carsGo_17 (List.Mem.tail _ (List.Mem.head _)) ?_
        refine z_iconst (pc := 18) dX11_carsGo_18 ?_
        refine z_zast (pc := 19) (j := k) (v := 0) dX11_carsGo_19 sh_9 rfl (by omega) (by decide) (by omega) ?_
        have ok30 := okI okl7 9 k (v := 0) (by decide) (by decide)
        refine x_aload_n (pc := 20) dX11_carsGo_20 (List.Mem.head _) ?_
        refine z_getR (pc := 21) (k := 25) (r := 10) dX11_carsGo_21 lf_X11_51 sh_0 rfl rf_0_25 ?_
        refine x_iload_n (pc := 24) dX11_carsGo_24 (List.Mem.tail _ (List.Mem.head _)) ?_
        refine z_iconst (pc := 25) dX11_carsGo_25 ?_
        refine z_zast (pc := 26) (j := k) (v := 0) dX11_carsGo_26 sh_10 rfl (by omega) (by decide) (by omega) ?_
        have ok31 := okI ok30 10 k (v := 0) (by decide) (by decide)
        refine z_iinc (pc := 27) dX11_carsGo_27 (List.Mem.tail _ (List.Mem.head _)) (Nat.le_of_ble_eq_true rfl) ?_
        show Ev _ _ _ _ _ [(1, .int (zN ((k : Int) + 1))), (0, .ref 0)] _ _
        refine x_goto (pc := 30) (tgt := 7) dX11_carsGo_30 (by decide) ?_
        refine x_weaken (L1 := [(0, .ref 0), (1, .int (zN ((((k + 1) : Nat) : Int))))]) (List.forall_mem_cons.mpr ⟨(List.Mem.tail _ (List.Mem.head _)), (List.forall_mem_cons.mpr ⟨(mem_ci (by omega) (List.Mem.head _)), (fun _ h => absurd h List.not_mem_nil)⟩)⟩) ?_
        exact ih7 ((k + 1)) (wI (wI Hi 9 k (0)) 10 k (0)) ok31 (by omega) (⟨fr.1, fun cc j h => by rw [wIg, if_neg (by omega), wIg, if_neg (by omega)]; exact fr.2 cc j h⟩) (funext (fun j => by rw [wI1c (by omega), wI1c (by omega), e6])) (by rw [wI1c (by omega), wI1c (by omega)]; exact ek) (fun j h => by rw [wI1c (by omega), wIg, wIg, wI1c (by omega)]; exact if q : j = k then ⟨if_pos ⟨rfl, q⟩, if_pos ⟨rfl, q⟩⟩ else ⟨(if_neg (fun z => q z.2)).trans (e9 j (by omega)).1, (if_neg (fun z => q z.2)).trans (e9 j (by omega)).2⟩) (by omega)
  refine x_weaken (L1 := [(0, .ref 0), (1, .int (zN (((0 : Nat) : Int))))]) (List.forall_mem_cons.mpr ⟨(List.Mem.tail _ (List.Mem.head _)), (List.forall_mem_cons.mpr ⟨(mem_ci (by omega) (List.Mem.head _)), (fun _ h => absurd h List.not_mem_nil)⟩)⟩) ?_
  exact lp7 (8 - 0 + 1) (0) (wI H 0 26 ((-1))) ok1 (by omega) (⟨rfl, fun cc k h => by rw [wIg]; exact if_neg (by omega)⟩) (funext (fun j => by rw [wI1c (by omega)])) (by rw [wI1]) (fun j h => absurd h (Nat.not_lt_zero _)) (Nat.lt_succ_self _)
