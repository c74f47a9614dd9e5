/-! GROUP F: the scene, the law, images. -/
theorem wIf {H : ZH} {c k c' : Nat} {v : Int} (h : c' ≠ c) : (wI H c k v).1 c' = H.1 c' := by
  funext k'
  exact wI1c h
theorem z_acpyf {X : MX} {mi : MI} {C : MCall} {Rt : MPost} {pc : Nat} {L : ML} {S : List Value} {H : ZH} {idx c0 c1 n0 n1 : Nat} {a b m : Int} (sp dp n : Nat) (f g : Nat → Int) (dg : decode mi.2.1 pc = .ok (.invokestatic idx, 3)) (lk : Cond.methodLink mi.1.cls idx arraycopyName ∈ mG) (sh0 : X.1[c0]? = some (.inr (0, n0))) (sh1 : X.1[c1]? = some (.inr (0, n1))) (ea : a = sp) (eb : b = dp) (em : m = n) (h1 : sp + n ≤ n0) (h2 : dp + n ≤ n1) (h3 : n0 ≤ 2000000000) (h4 : n1 ≤ 2000000000) (hw : (S.map fun v => v.category).sum ≤ 8) (hf : H.1 c0 = f) (hg : H.1 c1 = g) (kk : Ev X mi C Rt (pc + 3) L S (eh (wA H c1 (zcpy f g sp dp n)))) : Ev X mi C Rt pc L (.int (zN m) :: .int (zN b) :: .ref c1 :: .int (zN a) :: .ref c0 :: S) (eh H) := by
  subst hf; subst hg
  exact z_acpy sp dp n dg lk sh0 sh1 ea eb em h1 h2 h3 h4 hw kk
theorem okCf {H : ZH} (ok : okZ H) (c c0 sp dp n : Nat) {f g : Nat → Int} (hf : H.1 c0 = f) (hg : H.1 c = g) : okZ (wA H c (zcpy f g sp dp n)) := by
  subst hf; subst hg
  exact okC ok c c0 sp dp n
/-- the scene at s is told by q (the reference's first forty) -/
def RepSc (H : ZH) (s : Nat) (q : Nat → Int) : Prop := H.1 s 0 = q 0 ∧ H.1 s 1 = q 1 ∧ (∀ c : Nat, (c : Int) < q 1 → H.1 (s + 1) c = q (2 + c) ∧ H.1 (s + 2) c = q (10 + c) ∧ H.1 (s + 3) c = q (18 + c) ∧ H.1 (s + 4) c = q (26 + c)) ∧ H.1 s 6 = q 34 ∧ H.1 s 7 = q 35 ∧ H.1 s 8 = q 36 ∧ H.1 s 9 = q 37 ∧ H.1 s 10 = q 38 ∧ H.1 s 11 = q 39
def WFS (q : Nat → Int) : Prop := (1 ≤ q 0 ∧ q 0 ≤ 4) ∧ (0 ≤ q 1 ∧ q 1 ≤ 8) ∧ (∀ c : Nat, (c : Int) < q 1 → (0 ≤ q (2 + c) ∧ q (2 + c) < q 0) ∧ (1 ≤ q (10 + c) ∧ q (10 + c) ≤ 200) ∧ (1 ≤ q (18 + c) ∧ q (18 + c) ≤ 9) ∧ (0 ≤ q (26 + c) ∧ q (26 + c) ≤ 3)) ∧ (0 ≤ q 34 ∧ q 34 ≤ 255) ∧ (0 ≤ q 35 ∧ q 35 ≤ 30) ∧ (0 ≤ q 36 ∧ q 36 ≤ 20) ∧ (0 ≤ q 37 ∧ q 37 ≤ 60) ∧ (1 ≤ q 38 ∧ q 38 ≤ 200) ∧ (0 ≤ q 39 ∧ q 39 ≤ 400)
/-- the scene at s is now as that at o; nothing else has changed -/
def TakeSc (H H1 : ZH) (s o : Nat) : Prop := H1.2 = H.2 ∧ (∀ c, c < s ∨ s + 4 < c → H1.1 c = H.1 c) ∧ (H1.1 s 0 = H.1 o 0 ∧ H1.1 s 1 = H.1 o 1 ∧ H1.1 s 6 = H.1 o 6 ∧ H1.1 s 7 = H.1 o 7 ∧ H1.1 s 8 = H.1 o 8 ∧ H1.1 s 9 = H.1 o 9 ∧ H1.1 s 10 = H.1 o 10 ∧ H1.1 s 11 = H.1 o 11) ∧ (∀ i j, 1 ≤ i → i ≤ 4 → j < 8 → H1.1 (s + i) j = H.1 (o + i) j)
def TakeLw (H H1 : ZH) (s o : Nat) : Prop := H1.2 = H.2 ∧ (∀ c, c < s ∨ s + 3 < c → H1.1 c = H.1 c) ∧ (H1.1 s 0 = H.1 o 0 ∧ H1.1 s 4 = H.1 o 4) ∧ (∀ j, j < 12 → H1.1 (s + 1) j = H.1 (o + 1) j ∧ H1.1 (s + 2) j = H.1 (o + 2) j) ∧ (∀ j : Nat, (j : Int) < H.1 o 4 → H1.1 (s + 3) j = H.1 (o + 3) j)
def TakePl (H H1 : ZH) (s o : Nat) : Prop := H1.2 = H.2 ∧ (∀ c, c < s ∨ s + 8 < c → H1.1 c = H.1 c) ∧ H1.1 s 0 = H.1 o 0 ∧ (∀ i j, 1 ≤ i → i ≤ 6 → j < 12 → H1.1 (s + i) j = H.1 (o + i) j) ∧ (∀ i j, 7 ≤ i → i ≤ 8 → j < 4 → H1.1 (s + i) j = H.1 (o + i) j)
theorem zcpy_at {f g : Nat → Int} {n j : Nat} (h : j < n) : zcpy f g 0 0 n j = f j := by
  unfold zcpy
  rw [if_pos (by omega), Nat.zero_add, Nat.sub_zero]

theorem c_X6_take_50_35 {d : Nat} {H : ZH} (ok : okZ H)  : EvC zX (d + 1) mX6_take [.ref 50, .ref 35] (eh H) (zPv (fun (H1 : ZH) => TakeSc H H1 50 35)) := by
  show _ ∧ Ev zX mX6_take (EvC zX d) (zPv (fun (H1 : ZH) => TakeSc H H1 50 35)) 0 [(0, .ref 50), (1, .ref 35)] [] (eh H)
  refine ⟨Nat.le_of_ble_eq_true rfl, ?_⟩
  refine x_aload_n (pc := 0) dX6_take_0 (List.Mem.head _) ?_
  refine x_aload_n (pc := 1) dX6_take_1 (List.Mem.tail _ (List.Mem.head _)) ?_
  have rd1 := ok.1 35 0
  refine z_getI (pc := 2) (k := 0) (v := H.1 35 0) dX6_take_2 lf_X6_9 sh_35 rfl rfl ?_
  refine z_putI (pc := 5) (k := 0) dX6_take_5 lp_X6_9 sh_50 rfl ?_
  have ok2 := okI ok 50 0 (v := (H.1 35 0)) (by omega) (by omega)
  refine x_aload_n (pc := 8) dX6_take_8 (List.Mem.head _) ?_
  refine x_aload_n (pc := 9) dX6_take_9 (List.Mem.tail _ (List.Mem.head _)) ?_
  have rd3 := ok.1 35 1
  refine z_getI (pc := 10) (k := 1) (v := H.1 35 1) dX6_take_10 lf_X6_37 sh_35 rfl (by rw [wI1c (by omega)]) ?_
  refine z_putI (pc := 13) (k := 1) dX6_take_13 lp_X6_37 sh_50 rfl ?_
  have ok4 := okI ok2 50 1 (v := (H.1 35 1)) (by omega) (by omega)
  refine x_aload_n (pc := 16) dX6_take_16 (List.Mem.tail _ (List.Mem.head _)) ?_
  refine z_getR (pc := 17) (k := 2) (r := 36) dX6_take_17 lf_X6_15 sh_35 rfl rf_35_2 ?_
  refine z_iconst (pc := 20) dX6_take_20 ?_
  refine x_aload_n (pc := 21) dX6_take_21 (List.Mem.head _) ?_
  refine z_getR (pc := 22) (k := 2) (r := 51) dX6_take_22 lf_X6_15 sh_50 rfl rf_50_2 ?_
  refine z_iconst (pc := 25) dX6_take_25 ?_
  refine z_bipush (pc := 26) dX6_take_26 bp_8 ?_
  refine z_acpyf (pc := 28) (sp := 0) (dp := 0) (n := 8) (f := H.1 36) (g := H.1 51) dX6_take_28 ml_X6_49 sh_36 sh_51 rfl rfl rfl (by omega) (by omega) (by decide) (by decide) (Nat.le_of_ble_eq_true rfl) (by rw [wIf (by omega), wIf (by omega)]) (by rw [wIf (by omega), wIf (by omega)]) ?_
  have ok5 := okCf ok4 51 36 0 0 8 (by rw [wIf (by omega), wIf (by omega)]) (by rw [wIf (by omega), wIf (by omega)])
  refine x_aload_n (pc := 31) dX6_take_31 (List.Mem.tail _ (List.Mem.head _)) ?_
  refine z_getR (pc := 32) (k := 3) (r := 37) dX6_take_32 lf_X6_19 sh_35 rfl rf_35_3 ?_
  refine z_iconst (pc := 35) dX6_take_35 ?_
  refine x_aload_n (pc := 36) dX6_take_36 (List.Mem.head _) ?_
  refine z_getR (pc := 37) (k := 3) (r := 52) dX6_take_37 lf_X6_19 sh_50 rfl rf_50_3 ?_
  refine z_iconst (pc := 40) dX6_take_40 ?_
  refine z_bipush (pc := 41) dX6_take_41 bp_8 ?_
  refine z_acpyf (pc := 43) (sp := 0) (dp := 0) (n := 8) (f := H.1 37) (g := H.1 52) dX6_take_43 ml_X6_49 sh_37 sh_52 rfl rfl rfl (by omega) (by omega) (by decide) (by decide) (Nat.le_of_ble_eq_true rfl) (by rw [wA1c (by omega), wIf (by omega), wIf (by omega)]) (by rw [wA1c (by omega), wIf (by omega), wIf (by omega)]) ?_
  have ok6 := okCf ok5 52 37 0 0 8 (by rw [wA1c (by omega), wIf (by omega), wIf (by omega)]) (by rw [wA1c (by omega), wIf (by omega), wIf (by omega)])
  refine x_aload_n (pc := 46) dX6_take_46 (List.Mem.tail _ (List.Mem.head _)) ?_
  refine z_getR (pc := 47) (k := 4) (r := 38) dX6_take_47 lf_X6_22 sh_35 rfl rf_35_4 ?_
  refine z_iconst (pc := 50) dX6_take_50 ?_
  refine x_aload_n (pc := 51) dX6_take_51 (List.Mem.head _) ?_
  refine z_getR (pc := 52) (k := 4) (r := 53) dX6_take_52 lf_X6_22 sh_50 rfl rf_50_4 ?_
  refine z_iconst (pc := 55) dX6_take_55 ?_
  refine z_bipush (pc := 56) dX6_take_56 bp_8 ?_
  refine z_acpyf (pc := 58) (sp := 0) (dp := 0) (n := 8) (f := H.1 38) (g := H.1 53) dX6_take_58 ml_X6_49 sh_38 sh_53 rfl rfl rfl (by omega) (by omega) (by decide) (by decide) (Nat.le_of_ble_eq_true rfl) (by rw [wA1c (by omega), wA1c (by omega), wIf (by omega), wIf (by omega)]) (by rw [wA1c (by omega), wA1c (by omega), wIf (by omega), wIf (by omega)]) ?_
  have ok7 := okCf ok6 53 38 0 0 8 (by rw [wA1c (by omega), wA1c (by omega), wIf (by omega), wIf (by omega)]) (by rw [wA1c (by omega), wA1c (by omega), wIf (by omega), wIf (by omega)])
  refine x_aload_n (pc := 61) dX6_take_61 (List.Mem.tail _ (List.Mem.head _)) ?_
  refine z_getR (pc := 62) (k := 5) (r := 39) dX6_take_62 lf_X6_25 sh_35 rfl rf_35_5 ?_
  refine z_iconst (pc := 65) dX6_take_65 ?_
  refine x_aload_n (pc := 66) dX6_take_66 (List.Mem.head _) ?_
  refine z_getR (pc := 67) (k := 5) (r := 54) dX6_take_67 lf_X6_25 sh_50 rfl rf_50_5 ?_
  refine z_iconst (pc := 70) dX6_take_70 ?_
  refine z_bipush (pc := 71) dX6_take_71 bp_8 ?_
  refine z_acpyf (pc := 73) (sp := 0) (dp := 0) (n := 8) (f := H.1 39) (g := H.1 54) dX6_take_73 ml_X6_49 sh_39 sh_54 rfl rfl rfl (by omega) (by omega) (by decide) (by decide) (Nat.le_of_ble_eq_true rfl) (by rw [wA1c (by omega), wA1c (by omega), wA1c (by omega), wIf (by omega), wIf (by omega)]) (by rw [wA1c (by omega), wA1c (by omega), wA1c (by omega), wIf (by omega), wIf (by omega)]) ?_
  have ok8 := okCf ok7 54 39 0 0 8 (by rw [wA1c (by omega), wA1c (by omega), wA1c (by omega), wIf (by omega), wIf (by omega)]) (by rw [wA1c (by omega), wA1c (by omega), wA1c (by omega), wIf (by omega), wIf (by omega)])
  refine x_aload_n (pc := 76) dX6_take_76 (List.Mem.head _) ?_
  refine x_aload_n (pc := 77) dX6_take_77 (List.Mem.tail _ (List.Mem.head _)) ?_
  have rd9 := ok.1 35 6
  refine z_getI (pc := 78) (k := 6) (v := H.1 35 6) dX6_take_78 lf_X6_40 sh_35 rfl (by rw [wA1c (by omega), wA1c (by omega), wA1c (by omega), wA1c (by omega), wI1c (by omega), wI1c (by omega)]) ?_
  refine z_putI (pc := 81) (k := 6) dX6_take_81 lp_X6_40 sh_50 rfl ?_
  have ok10 := okI ok8 50 6 (v := (H.1 35 6)) (by omega) (by omega)
  refine x_aload_n (pc := 84) dX6_take_84 (List.Mem.head _) ?_
  refine x_aload_n (pc := 85) dX6_take_85 (List.Mem.tail _ (List.Mem.head _)) ?_
  have rd11 := ok.1 35 7
  refine z_getI (pc := 86) (k := 7) (v := H.1 35 7) dX6_take_86 lf_X6_43 sh_35 rfl (by rw [wI1c (by omega), wA1c (by omega), wA1c (by omega), wA1c (by omega), wA1c (by omega), wI1c (by omega), wI1c (by omega)]) ?_
  refine z_putI (pc := 89) (k := 7) dX6_take_89 lp_X6_43 sh_50 rfl ?_
  have ok12 := okI ok10 50 7 (v := (H.1 35 7)) (by omega) (by omega)
  refine x_aload_n (pc := 92) dX6_take_92 (List.Mem.head _) ?_
  refine x_aload_n (pc := 93) dX6_take_93 (List.Mem.tail _ (List.Mem.head _)) ?_
  have rd13 := ok.1 35 8
  refine z_getI (pc := 94) (k := 8) (v := H.1 35 8) dX6_take_94 lf_X6_28 sh_35 rfl (by rw [wI1c (by omega), wI1c (by omega), wA1c (by omega), wA1c (by omega), wA1c (by omega), wA1c (by omega), wI1c (by omega), wI1c (by omega)]) ?_
  refine z_putI (pc := 97) (k := 8) dX6_take_97 lp_X6_28 sh_50 rfl ?_
  have ok14 := okI ok12 50 8 (v := (H.1 35 8)) (by omega) (by omega)
  refine x_aload_n (pc := 100) dX6_take_100 (List.Mem.head _) ?_
  refine x_aload_n (pc := 101) dX6_take_101 (List.Mem.tail _ (List.Mem.head _)) ?_
  have rd15 := ok.1 35 9
  refine z_getI (pc := 102) (k := 9) (v := H.1 35 9) dX6_take_102 lf_X6_31 sh_35 rfl (by rw [wI1c (by omega), wI1c (by omega), wI1c (by omega), wA1c (by omega), wA1c (by omega), wA1c (by omega), wA1c (by omega), wI1c (by omega), wI1c (by omega)]) ?_
  refine z_putI (pc := 105) (k := 9) dX6_take_105 lp_X6_31 sh_50 rfl ?_
  have ok16 := okI ok14 50 9 (v := (H.1 35 9)) (by omega) (by omega)
  refine x_aload_n (pc := 108) dX6_take_108 (List.Mem.head _) ?_
  refine x_aload_n (pc := 109) dX6_take_109 (List.Mem.tail _ (List.Mem.head _)) ?_
  have rd17 := ok.1 35 10
  refine z_getI (pc := 110) (k := 10) (v := H.1 35 10) dX6_take_110 lf_X6_34 sh_35 rfl (by rw [wI1c (by omega), wI1c (by omega), wI1c (by omega), wI1c (by omega), wA1c (by omega), wA1c (by omega), wA1c (by omega), wA1c (by omega), wI1c (by omega), wI1c (by omega)]) ?_
  refine z_putI (pc := 113) (k := 10) dX6_take_113 lp_X6_34 sh_50 rfl ?_
  have ok18 := okI ok16 50 10 (v := (H.1 35 10)) (by omega) (by omega)
  refine x_aload_n (pc := 116) dX6_take_116 (List.Mem.head _) ?_
  refine x_aload_n (pc := 117) dX6_take_117 (List.Mem.tail _ (List.Mem.head _)) ?_
  have rd19 := ok.1 35 11
  refine z_getI (pc := 118) (k := 11) (v := H.1 35 11) dX6_take_118 lf_X6_46 sh_35 rfl (by rw [wI1c (by omega), wI1c (by omega), wI1c (by omega), wI1c (by omega), wI1c (by omega), wA1c (by omega), wA1c (by omega), wA1c (by omega), wA1c (by omega), wI1c (by omega), wI1c (by omega)]) ?_
  refine z_putI (pc := 121) (k := 11) dX6_take_121 lp_X6_46 sh_50 rfl ?_
  have ok20 := okI ok18 50 11 (v := (H.1 35 11)) (by omega) (by omega)
  refine z_vreturn (pc := 124) dX6_take_124 rfl ok20 ?_
  refine ⟨rfl, fun c hc => ?_, ⟨?_, ?_, ?_, ?_, ?_, ?_, ?_, ?_⟩, fun i j h1 h2 h3 => ?_⟩
  · (repeat first | rw [wIf (by omega)] | rw [wA1c (by omega)])
  · (repeat first | rw [wI1] | rw [wI1k (by omega)] | rw [wA1c (by omega)] | rw [wI1c (by omega)])
  · (repeat first | rw [wI1] | rw [wI1k (by omega)] | rw [wA1c (by omega)] | rw [wI1c (by omega)])
  · (repeat first | rw [wI1] | rw [wI1k (by omega)] | rw [wA1c (by omega)] | rw [wI1c (by omega)])
  · (repeat first | rw [wI1] | rw [wI1k (by omega)] | rw [wA1c (by omega)] | rw [wI1c (by omega)])
  · (repeat first | rw [wI1] | rw [wI1k (by omega)] | rw [wA1c (by omega)] | rw [wI1c (by omega)])
  · (repeat first | rw [wI1] | rw [wI1k (by omega)] | rw [wA1c (by omega)] | rw [wI1c (by omega)])
  · (repeat first | rw [wI1] | rw [wI1k (by omega)] | rw [wA1c (by omega)] | rw [wI1c (by omega)])
  · (repeat first | rw [wI1] | rw [wI1k (by omega)] | rw [wA1c (by omega)] | rw [wI1c (by omega)])
  · rcases (show i = 1 ∨ i = 2 ∨ i = 3 ∨ i = 4 by omega) with rfl | rfl | rfl | rfl
    · show (_ : ZH).1 51 j = H.1 36 j; (repeat first | rw [wIf (by omega)] | rw [wA1, zcpy_at h3] | rw [wA1c (by omega)])
    · show (_ : ZH).1 52 j = H.1 37 j; (repeat first | rw [wIf (by omega)] | rw [wA1, zcpy_at h3] | rw [wA1c (by omega)])
    · show (_ : ZH).1 53 j = H.1 38 j; (repeat first | rw [wIf (by omega)] | rw [wA1, zcpy_at h3] | rw [wA1c (by omega)])
    · show (_ : ZH).1 54 j = H.1 39 j; (repeat first | rw [wIf (by omega)] | rw [wA1, zcpy_at h3] | rw [wA1c (by omega)])

theorem c_X6_take_35_30 {d : Nat} {H : ZH} (ok : okZ H)  : EvC zX (d + 1) mX6_take [.ref 35, .ref 30] (eh H) (zPv (fun (H1 : ZH) => TakeSc H H1 35 30)) := by
  show _ ∧ Ev zX mX6_take (EvC zX d) (zPv (fun (H1 : ZH) => TakeSc H H1 35 30)) 0 [(0, .ref 35), (1, .ref 30)] [] (eh H)
  refine ⟨Nat.le_of_ble_eq_true rfl, ?_⟩
  refine x_aload_n (pc := 0) dX6_take_0 (List.Mem.head _) ?_
  refine x_aload_n (pc := 1) dX6_take_1 (List.Mem.tail _ (List.Mem.head _)) ?_
  have rd1 := ok.1 30 0
  refine z_getI (pc := 2) (k := 0) (v := H.1 30 0) dX6_take_2 lf_X6_9 sh_30 rfl rfl ?_
  refine z_putI (pc := 5) (k := 0) dX6_take_5 lp_X6_9 sh_35 rfl ?_
  have ok2 := okI ok 35 0 (v := (H.1 30 0)) (by omega) (by omega)
  refine x_aload_n (pc := 8) dX6_take_8 (List.Mem.head _) ?_
  refine x_aload_n (pc := 9) dX6_take_9 (List.Mem.tail _ (List.Mem.head _)) ?_
  have rd3 := ok.1 30 1
  refine z_getI (pc := 10) (k := 1) (v := H.1 30 1) dX6_take_10 lf_X6_37 sh_30 rfl (by rw [wI1c (by omega)]) ?_
  refine z_putI (pc := 13) (k := 1) dX6_take_13 lp_X6_37 sh_35 rfl ?_
  have ok4 := okI ok2 35 1 (v := (H.1 30 1)) (by omega) (by omega)
  refine x_aload_n (pc := 16) dX6_take_16 (List.Mem.tail _ (List.Mem.head _)) ?_
  refine z_getR (pc := 17) (k := 2) (r := 31) dX6_take_17 lf_X6_15 sh_30 rfl rf_30_2 ?_
  refine z_iconst (pc := 20) dX6_take_20 ?_
  refine x_aload_n (pc := 21) dX6_take_21 (List.Mem.head _) ?_
  refine z_getR (pc := 22) (k := 2) (r := 36) dX6_take_22 lf_X6_15 sh_35 rfl rf_35_2 ?_
  refine z_iconst (pc := 25) dX6_take_25 ?_
  refine z_bipush (pc := 26) dX6_take_26 bp_8 ?_
  refine z_acpyf (pc := 28) (sp := 0) (dp := 0) (n := 8) (f := H.1 31) (g := H.1 36) dX6_take_28 ml_X6_49 sh_31 sh_36 rfl rfl rfl (by omega) (by omega) (by decide) (by decide) (Nat.le_of_ble_eq_true rfl) (by rw [wIf (by omega), wIf (by omega)]) (by rw [wIf (by omega), wIf (by omega)]) ?_
  have ok5 := okCf ok4 36 31 0 0 8 (by rw [wIf (by omega), wIf (by omega)]) (by rw [wIf (by omega), wIf (by omega)])
  refine x_aload_n (pc := 31) dX6_take_31 (List.Mem.tail _ (List.Mem.head _)) ?_
  refine z_getR (pc := 32) (k := 3) (r := 32) dX6_take_32 lf_X6_19 sh_30 rfl rf_30_3 ?_
  refine z_iconst (pc := 35) dX6_take_35 ?_
  refine x_aload_n (pc := 36) dX6_take_36 (List.Mem.head _) ?_
  refine z_getR (pc := 37) (k := 3) (r := 37) dX6_take_37 lf_X6_19 sh_35 rfl rf_35_3 ?_
  refine z_iconst (pc := 40) dX6_take_40 ?_
  refine z_bipush (pc := 41) dX6_take_41 bp_8 ?_
  refine z_acpyf (pc := 43) (sp := 0) (dp := 0) (n := 8) (f := H.1 32) (g := H.1 37) dX6_take_43 ml_X6_49 sh_32 sh_37 rfl rfl rfl (by omega) (by omega) (by decide) (by decide) (Nat.le_of_ble_eq_true rfl) (by rw [wA1c (by omega), wIf (by omega), wIf (by omega)]) (by rw [wA1c (by omega), wIf (by omega), wIf (by omega)]) ?_
  have ok6 := okCf ok5 37 32 0 0 8 (by rw [wA1c (by omega), wIf (by omega), wIf (by omega)]) (by rw [wA1c (by omega), wIf (by omega), wIf (by omega)])
  refine x_aload_n (pc := 46) dX6_take_46 (List.Mem.tail _ (List.Mem.head _)) ?_
  refine z_getR (pc := 47) (k := 4) (r := 33) dX6_take_47 lf_X6_22 sh_30 rfl rf_30_4 ?_
  refine z_iconst (pc := 50) dX6_take_50 ?_
  refine x_aload_n (pc := 51) dX6_take_51 (List.Mem.head _) ?_
  refine z_getR (pc := 52) (k := 4) (r := 38) dX6_take_52 lf_X6_22 sh_35 rfl rf_35_4 ?_
  refine z_iconst (pc := 55) dX6_take_55 ?_
  refine z_bipush (pc := 56) dX6_take_56 bp_8 ?_
  refine z_acpyf (pc := 58) (sp := 0) (dp := 0) (n := 8) (f := H.1 33) (g := H.1 38) dX6_take_58 ml_X6_49 sh_33 sh_38 rfl rfl rfl (by omega) (by omega) (by decide) (by decide) (Nat.le_of_ble_eq_true rfl) (by rw [wA1c (by omega), wA1c (by omega), wIf (by omega), wIf (by omega)]) (by rw [wA1c (by omega), wA1c (by omega), wIf (by omega), wIf (by omega)]) ?_
  have ok7 := okCf ok6 38 33 0 0 8 (by rw [wA1c (by omega), wA1c (by omega), wIf (by omega), wIf (by omega)]) (by rw [wA1c (by omega), wA1c (by omega), wIf (by omega), wIf (by omega)])
  refine x_aload_n (pc := 61) dX6_take_61 (List.Mem.tail _ (List.Mem.head _)) ?_
  refine z_getR (pc := 62) (k := 5) (r := 34) dX6_take_62 lf_X6_25 sh_30 rfl rf_30_5 ?_
  refine z_iconst (pc := 65) dX6_take_65 ?_
  refine x_aload_n (pc := 66) dX6_take_66 (List.Mem.head _) ?_
  refine z_getR (pc := 67) (k := 5) (r := 39) dX6_take_67 lf_X6_25 sh_35 rfl rf_35_5 ?_
  refine z_iconst (pc := 70) dX6_take_70 ?_
  refine z_bipush (pc := 71) dX6_take_71 bp_8 ?_
  refine z_acpyf (pc := 73) (sp := 0) (dp := 0) (n := 8) (f := H.1 34) (g := H.1 39) dX6_take_73 ml_X6_49 sh_34 sh_39 rfl rfl rfl (by omega) (by omega) (by decide) (by decide) (Nat.le_of_ble_eq_true rfl) (by rw [wA1c (by omega), wA1c (by omega), wA1c (by omega), wIf (by omega), wIf (by omega)]) (by rw [wA1c (by omega), wA1c (by omega), wA1c (by omega), wIf (by omega), wIf (by omega)]) ?_
  have ok8 := okCf ok7 39 34 0 0 8 (by rw [wA1c (by omega), wA1c (by omega), wA1c (by omega), wIf (by omega), wIf (by omega)]) (by rw [wA1c (by omega), wA1c (by omega), wA1c (by omega), wIf (by omega), wIf (by omega)])
  refine x_aload_n (pc := 76) dX6_take_76 (List.Mem.head _) ?_
  refine x_aload_n (pc := 77) dX6_take_77 (List.Mem.tail _ (List.Mem.head _)) ?_
  have rd9 := ok.1 30 6
  refine z_getI (pc := 78) (k := 6) (v := H.1 30 6) dX6_take_78 lf_X6_40 sh_30 rfl (by rw [wA1c (by omega), wA1c (by omega), wA1c (by omega), wA1c (by omega), wI1c (by omega), wI1c (by omega)]) ?_
  refine z_putI (pc := 81) (k := 6) dX6_take_81 lp_X6_40 sh_35 rfl ?_
  have ok10 := okI ok8 35 6 (v := (H.1 30 6)) (by omega) (by omega)
  refine x_aload_n (pc := 84) dX6_take_84 (List.Mem.head _) ?_
  refine x_aload_n (pc := 85) dX6_take_85 (List.Mem.tail _ (List.Mem.head _)) ?_
  have rd11 := ok.1 30 7
  refine z_getI (pc := 86) (k := 7) (v := H.1 30 7) dX6_take_86 lf_X6_43 sh_30 rfl (by rw [wI1c (by omega), wA1c (by omega), wA1c (by omega), wA1c (by omega), wA1c (by omega), wI1c (by omega), wI1c (by omega)]) ?_
  refine z_putI (pc := 89) (k := 7) dX6_take_89 lp_X6_43 sh_35 rfl ?_
  have ok12 := okI ok10 35 7 (v := (H.1 30 7)) (by omega) (by omega)
  refine x_aload_n (pc := 92) dX6_take_92 (List.Mem.head _) ?_
  refine x_aload_n (pc := 93) dX6_take_93 (List.Mem.tail _ (List.Mem.head _)) ?_
  have rd13 := ok.1 30 8
  refine z_getI (pc := 94) (k := 8) (v := H.1 30 8) dX6_take_94 lf_X6_28 sh_30 rfl (by rw [wI1c (by omega), wI1c (by omega), wA1c (by omega), wA1c (by omega), wA1c (by omega), wA1c (by omega), wI1c (by omega), wI1c (by omega)]) ?_
  refine z_putI (pc := 97) (k := 8) dX6_take_97 lp_X6_28 sh_35 rfl ?_
  have ok14 := okI ok12 35 8 (v := (H.1 30 8)) (by omega) (by omega)
  refine x_aload_n (pc := 100) dX6_take_100 (List.Mem.head _) ?_
  refine x_aload_n (pc := 101) dX6_take_101 (List.Mem.tail _ (List.Mem.head _)) ?_
  have rd15 := ok.1 30 9
  refine z_getI (pc := 102) (k := 9) (v := H.1 30 9) dX6_take_102 lf_X6_31 sh_30 rfl (by rw [wI1c (by omega), wI1c (by omega), wI1c (by omega), wA1c (by omega), wA1c (by omega), wA1c (by omega), wA1c (by omega), wI1c (by omega), wI1c (by omega)]) ?_
  refine z_putI (pc := 105) (k := 9) dX6_take_105 lp_X6_31 sh_35 rfl ?_
  have ok16 := okI ok14 35 9 (v := (H.1 30 9)) (by omega) (by omega)
  refine x_aload_n (pc := 108) dX6_take_108 (List.Mem.head _) ?_
  refine x_aload_n (pc := 109) dX6_take_109 (List.Mem.tail _ (List.Mem.head _)) ?_
  have rd17 := ok.1 30 10
  refine z_getI (pc := 110) (k := 10) (v := H.1 30 10) dX6_take_110 lf_X6_34 sh_30 rfl (by rw [wI1c (by omega), wI1c (by omega), wI1c (by omega), wI1c (by omega), wA1c (by omega), wA1c (by omega), wA1c (by omega), wA1c (by omega), wI1c (by omega), wI1c (by omega)]) ?_
  refine z_putI (pc := 113) (k := 10) dX6_take_113 lp_X6_34 sh_35 rfl ?_
  have ok18 := okI ok16 35 10 (v := (H.1 30 10)) (by omega) (by omega)
  refine x_aload_n (pc := 116) dX6_take_116 (List.Mem.head _) ?_
  refine x_aload_n (pc := 117) dX6_take_117 (List.Mem.tail _ (List.Mem.head _)) ?_
  have rd19 := ok.1 30 11
  refine z_getI (pc := 118) (k := 11) (v := H.1 30 11) dX6_take_118 lf_X6_46 sh_30 rfl (by rw [wI1c (by omega), wI1c (by omega), wI1c (by omega), wI1c (by omega), wI1c (by omega), wA1c (by omega), wA1c (by omega), wA1c (by omega), wA1c (by omega), wI1c (by omega), wI1c (by omega)]) ?_
  refine z_putI (pc := 121) (k := 11) dX6_take_121 lp_X6_46 sh_35 rfl ?_
  have ok20 := okI ok18 35 11 (v := (H.1 30 11)) (by omega) (by omega)
  refine z_vreturn (pc := 124) dX6_take_124 rfl ok20 ?_
  refine ⟨rfl, fun c hc => ?_, ⟨?_, ?_, ?_, ?_, ?_, ?_, ?_, ?_⟩, fun i j h1 h2 h3 => ?_⟩
  · (repeat first | rw [wIf (by omega)] | rw [wA1c (by omega)])
  · (repeat first | rw [wI1] | rw [wI1k (by omega)] | rw [wA1c (by omega)] | rw [wI1c (by omega)])
  · (repeat first | rw [wI1] | rw [wI1k (by omega)] | rw [wA1c (by omega)] | rw [wI1c (by omega)])
  · (repeat first | rw [wI1] | rw [wI1k (by omega)] | rw [wA1c (by omega)] | rw [wI1c (by omega)])
  · (repeat first | rw [wI1] | rw [wI1k (by omega)] | rw [wA1c (by omega)] | rw [wI1c (by omega)])
  · (repeat first | rw [wI1] | rw [wI1k (by omega)] | rw [wA1c (by omega)] | rw [wI1c (by omega)])
  · (repeat first | rw [wI1] | rw [wI1k (by omega)] | rw [wA1c (by omega)] | rw [wI1c (by omega)])
  · (repeat first | rw [wI1] | rw [wI1k (by omega)] | rw [wA1c (by omega)] | rw [wI1c (by omega)])
  · (repeat first | rw [wI1] | rw [wI1k (by omega)] | rw [wA1c (by omega)] | rw [wI1c (by omega)])
  · rcases (show i = 1 ∨ i = 2 ∨ i = 3 ∨ i = 4 by omega) with rfl | rfl | rfl | rfl
    · show (_ : ZH).1 36 j = H.1 31 j; (repeat first | rw [wIf (by omega)] | rw [wA1, zcpy_at h3] | rw [wA1c (by omega)])
    · show (_ : ZH).1 37 j = H.1 32 j; (repeat first | rw [wIf (by omega)] | rw [wA1, zcpy_at h3] | rw [wA1c (by omega)])
    · show (_ : ZH).1 38 j = H.1 33 j; (repeat first | rw [wIf (by omega)] | rw [wA1, zcpy_at h3] | rw [wA1c (by omega)])
    · show (_ : ZH).1 39 j = H.1 34 j; (repeat first | rw [wIf (by omega)] | rw [wA1, zcpy_at h3] | rw [wA1c (by omega)])

theorem c_X6_take_40_35 {d : Nat} {H : ZH} (ok : okZ H)  : EvC zX (d + 1) mX6_take [.ref 40, .ref 35] (eh H) (zPv (fun (H1 : ZH) => TakeSc H H1 40 35)) := by
  show _ ∧ Ev zX mX6_take (EvC zX d) (zPv (fun (H1 : ZH) => TakeSc H H1 40 35)) 0 [(0, .ref 40), (1, .ref 35)] [] (eh H)
  refine ⟨Nat.le_of_ble_eq_true rfl, ?_⟩
  refine x_aload_n (pc := 0) dX6_take_0 (List.Mem.head _) ?_
  refine x_aload_n (pc := 1) dX6_take_1 (List.Mem.tail _ (List.Mem.head _)) ?_
  have rd1 := ok.1 35 0
  refine z_getI (pc := 2) (k := 0) (v := H.1 35 0) dX6_take_2 lf_X6_9 sh_35 rfl rfl ?_
  refine z_putI (pc := 5) (k := 0) dX6_take_5 lp_X6_9 sh_40 rfl ?_
  have ok2 := okI ok 40 0 (v := (H.1 35 0)) (by omega) (by omega)
  refine x_aload_n (pc := 8) dX6_take_8 (List.Mem.head _) ?_
  refine x_aload_n (pc := 9) dX6_take_9 (List.Mem.tail _ (List.Mem.head _)) ?_
  have rd3 := ok.1 35 1
  refine z_getI (pc := 10) (k := 1) (v := H.1 35 1) dX6_take_10 lf_X6_37 sh_35 rfl (by rw [wI1c (by omega)]) ?_
  refine z_putI (pc := 13) (k := 1) dX6_take_13 lp_X6_37 sh_40 rfl ?_
  have ok4 := okI ok2 40 1 (v := (H.1 35 1)) (by omega) (by omega)
  refine x_aload_n (pc := 16) dX6_take_16 (List.Mem.tail _ (List.Mem.head _)) ?_
  refine z_getR (pc := 17) (k := 2) (r := 36) dX6_take_17 lf_X6_15 sh_35 rfl rf_35_2 ?_
  refine z_iconst (pc := 20) dX6_take_20 ?_
  refine x_aload_n (pc := 21) dX6_take_21 (List.Mem.head _) ?_
  refine z_getR (pc := 22) (k := 2) (r := 41) dX6_take_22 lf_X6_15 sh_40 rfl rf_40_2 ?_
  refine z_iconst (pc := 25) dX6_take_25 ?_
  refine z_bipush (pc := 26) dX6_take_26 bp_8 ?_
  refine z_acpyf (pc := 28) (sp := 0) (dp := 0) (n := 8) (f := H.1 36) (g := H.1 41) dX6_take_28 ml_X6_49 sh_36 sh_41 rfl rfl rfl (by omega) (by omega) (by decide) (by decide) (Nat.le_of_ble_eq_true rfl) (by rw [wIf (by omega), wIf (by omega)]) (by rw [wIf (by omega), wIf (by omega)]) ?_
  have ok5 := okCf ok4 41 36 0 0 8 (by rw [wIf (by omega), wIf (by omega)]) (by rw [wIf (by omega), wIf (by omega)])
  refine x_aload_n (pc := 31) dX6_take_31 (List.Mem.tail _ (List.Mem.head _)) ?_
  refine z_getR (pc := 32) (k := 3) (r := 37) dX6_take_32 lf_X6_19 sh_35 rfl rf_35_3 ?_
  refine z_iconst (pc := 35) dX6_take_35 ?_
  refine x_aload_n (pc := 36) dX6_take_36 (List.Mem.head _) ?_
  refine z_getR (pc := 37) (k := 3) (r := 42) dX6_take_37 lf_X6_19 sh_40 rfl rf_40_3 ?_
  refine z_iconst (pc := 40) dX6_take_40 ?_
  refine z_bipush (pc := 41) dX6_take_41 bp_8 ?_
  refine z_acpyf (pc := 43) (sp := 0) (dp := 0) (n := 8) (f := H.1 37) (g := H.1 42) dX6_take_43 ml_X6_49 sh_37 sh_42 rfl rfl rfl (by omega) (by omega) (by decide) (by decide) (Nat.le_of_ble_eq_true rfl) (by rw [wA1c (by omega), wIf (by omega), wIf (by omega)]) (by rw [wA1c (by omega), wIf (by omega), wIf (by omega)]) ?_
  have ok6 := okCf ok5 42 37 0 0 8 (by rw [wA1c (by omega), wIf (by omega), wIf (by omega)]) (by rw [wA1c (by omega), wIf (by omega), wIf (by omega)])
  refine x_aload_n (pc := 46) dX6_take_46 (List.Mem.tail _ (List.Mem.head _)) ?_
  refine z_getR (pc := 47) (k := 4) (r := 38) dX6_take_47 lf_X6_22 sh_35 rfl rf_35_4 ?_
  refine z_iconst (pc := 50) dX6_take_50 ?_
  refine x_aload_n (pc := 51) dX6_take_51 (List.Mem.head _) ?_
  refine z_getR (pc := 52) (k := 4) (r := 43) dX6_take_52 lf_X6_22 sh_40 rfl rf_40_4 ?_
  refine z_iconst (pc := 55) dX6_take_55 ?_
  refine z_bipush (pc := 56) dX6_take_56 bp_8 ?_
  refine z_acpyf (pc := 58) (sp := 0) (dp := 0) (n := 8) (f := H.1 38) (g := H.1 43) dX6_take_58 ml_X6_49 sh_38 sh_43 rfl rfl rfl (by omega) (by omega) (by decide) (by decide) (Nat.le_of_ble_eq_true rfl) (by rw [wA1c (by omega), wA1c (by omega), wIf (by omega), wIf (by omega)]) (by rw [wA1c (by omega), wA1c (by omega), wIf (by omega), wIf (by omega)]) ?_
  have ok7 := okCf ok6 43 38 0 0 8 (by rw [wA1c (by omega), wA1c (by omega), wIf (by omega), wIf (by omega)]) (by rw [wA1c (by omega), wA1c (by omega), wIf (by omega), wIf (by omega)])
  refine x_aload_n (pc := 61) dX6_take_61 (List.Mem.tail _ (List.Mem.head _)) ?_
  refine z_getR (pc := 62) (k := 5) (r := 39) dX6_take_62 lf_X6_25 sh_35 rfl rf_35_5 ?_
  refine z_iconst (pc := 65) dX6_take_65 ?_
  refine x_aload_n (pc := 66) dX6_take_66 (List.Mem.head _) ?_
  refine z_getR (pc := 67) (k := 5) (r := 44) dX6_take_67 lf_X6_25 sh_40 rfl rf_40_5 ?_
  refine z_iconst (pc := 70) dX6_take_70 ?_
  refine z_bipush (pc := 71) dX6_take_71 bp_8 ?_
  refine z_acpyf (pc := 73) (sp := 0) (dp := 0) (n := 8) (f := H.1 39) (g := H.1 44) dX6_take_73 ml_X6_49 sh_39 sh_44 rfl rfl rfl (by omega) (by omega) (by decide) (by decide) (Nat.le_of_ble_eq_true rfl) (by rw [wA1c (by omega), wA1c (by omega), wA1c (by omega), wIf (by omega), wIf (by omega)]) (by rw [wA1c (by omega), wA1c (by omega), wA1c (by omega), wIf (by omega), wIf (by omega)]) ?_
  have ok8 := okCf ok7 44 39 0 0 8 (by rw [wA1c (by omega), wA1c (by omega), wA1c (by omega), wIf (by omega), wIf (by omega)]) (by rw [wA1c (by omega), wA1c (by omega), wA1c (by omega), wIf (by omega), wIf (by omega)])
  refine x_aload_n (pc := 76) dX6_take_76 (List.Mem.head _) ?_
  refine x_aload_n (pc := 77) dX6_take_77 (List.Mem.tail _ (List.Mem.head _)) ?_
  have rd9 := ok.1 35 6
  refine z_getI (pc := 78) (k := 6) (v := H.1 35 6) dX6_take_78 lf_X6_40 sh_35 rfl (by rw [wA1c (by omega), wA1c (by omega), wA1c (by omega), wA1c (by omega), wI1c (by omega), wI1c (by omega)]) ?_
  refine z_putI (pc := 81) (k := 6) dX6_take_81 lp_X6_40 sh_40 rfl ?_
  have ok10 := okI ok8 40 6 (v := (H.1 35 6)) (by omega) (by omega)
  refine x_aload_n (pc := 84) dX6_take_84 (List.Mem.head _) ?_
  refine x_aload_n (pc := 85) dX6_take_85 (List.Mem.tail _ (List.Mem.head _)) ?_
  have rd11 := ok.1 35 7
  refine z_getI (pc := 86) (k := 7) (v := H.1 35 7) dX6_take_86 lf_X6_43 sh_35 rfl (by rw [wI1c (by omega), wA1c (by omega), wA1c (by omega), wA1c (by omega), wA1c (by omega), wI1c (by omega), wI1c (by omega)]) ?_
  refine z_putI (pc := 89) (k := 7) dX6_take_89 lp_X6_43 sh_40 rfl ?_
  have ok12 := okI ok10 40 7 (v := (H.1 35 7)) (by omega) (by omega)
  refine x_aload_n (pc := 92) dX6_take_92 (List.Mem.head _) ?_
  refine x_aload_n (pc := 93) dX6_take_93 (List.Mem.tail _ (List.Mem.head _)) ?_
  have rd13 := ok.1 35 8
  refine z_getI (pc := 94) (k := 8) (v := H.1 35 8) dX6_take_94 lf_X6_28 sh_35 rfl (by rw [wI1c (by omega), wI1c (by omega), wA1c (by omega), wA1c (by omega), wA1c (by omega), wA1c (by omega), wI1c (by omega), wI1c (by omega)]) ?_
  refine z_putI (pc := 97) (k := 8) dX6_take_97 lp_X6_28 sh_40 rfl ?_
  have ok14 := okI ok12 40 8 (v := (H.1 35 8)) (by omega) (by omega)
  refine x_aload_n (pc := 100) dX6_take_100 (List.Mem.head _) ?_
  refine x_aload_n (pc := 101) dX6_take_101 (List.Mem.tail _ (List.Mem.head _)) ?_
  have rd15 := ok.1 35 9
  refine z_getI (pc := 102) (k := 9) (v := H.1 35 9) dX6_take_102 lf_X6_31 sh_35 rfl (by rw [wI1c (by omega), wI1c (by omega), wI1c (by omega), wA1c (by omega), wA1c (by omega), wA1c (by omega), wA1c (by omega), wI1c (by omega), wI1c (by omega)]) ?_
  refine z_putI (pc := 105) (k := 9) dX6_take_105 lp_X6_31 sh_40 rfl ?_
  have ok16 := okI ok14 40 9 (v := (H.1 35 9)) (by omega) (by omega)
  refine x_aload_n (pc := 108) dX6_take_108 (List.Mem.head _) ?_
  refine x_aload_n (pc := 109) dX6_take_109 (List.Mem.tail _ (List.Mem.head _)) ?_
  have rd17 := ok.1 35 10
  refine z_getI (pc := 110) (k := 10) (v := H.1 35 10) dX6_take_110 lf_X6_34 sh_35 rfl (by rw [wI1c (by omega), wI1c (by omega), wI1c (by omega), wI1c (by omega), wA1c (by omega), wA1c (by omega), wA1c (by omega), wA1c (by omega), wI1c (by omega), wI1c (by omega)]) ?_
  refine z_putI (pc := 113) (k := 10) dX6_take_113 lp_X6_34 sh_40 rfl ?_
  have ok18 := okI ok16 40 10 (v := (H.1 35 10)) (by omega) (by omega)
  refine x_aload_n (pc := 116) dX6_take_116 (List.Mem.head _) ?_
  refine x_aload_n (pc := 117) dX6_take_117 (List.Mem.tail _ (List.Mem.head _)) ?_
  have rd19 := ok.1 35 11
  refine z_getI (pc := 118) (k := 11) (v := H.1 35 11) dX6_take_118 lf_X6_46 sh_35 rfl (by rw [wI1c (by omega), wI1c (by omega), wI1c (by omega), wI1c (by omega), wI1c (by omega), wA1c (by omega), wA1c (by omega), wA1c (by omega), wA1c (by omega), wI1c (by omega), wI1c (by omega)]) ?_
  refine z_putI (pc := 121) (k := 11) dX6_take_121 lp_X6_46 sh_40 rfl ?_
  have ok20 := okI ok18 40 11 (v := (H.1 35 11)) (by omega) (by omega)
  refine z_vreturn (pc := 124) dX6_take_124 rfl ok20 ?_
  refine ⟨rfl, fun c hc => ?_, ⟨?_, ?_, ?_, ?_, ?_, ?_, ?_, ?_⟩, fun i j h1 h2 h3 => ?_⟩
  · (repeat first | rw [wIf (by omega)] | rw [wA1c (by omega)])
  · (repeat first | rw [wI1] | rw [wI1k (by omega)] | rw [wA1c (by omega)] | rw [wI1c (by omega)])
  · (repeat first | rw [wI1] | rw [wI1k (by omega)] | rw [wA1c (by omega)] | rw [wI1c (by omega)])
  · (repeat first | rw [wI1] | rw [wI1k (by omega)] | rw [wA1c (by omega)] | rw [wI1c (by omega)])
  · (repeat first | rw [wI1] | rw [wI1k (by omega)] | rw [wA1c (by omega)] | rw [wI1c (by omega)])
  · (repeat first | rw [wI1] | rw [wI1k (by omega)] | rw [wA1c (by omega)] | rw [wI1c (by omega)])
  · (repeat first | rw [wI1] | rw [wI1k (by omega)] | rw [wA1c (by omega)] | rw [wI1c (by omega)])
  · (repeat first | rw [wI1] | rw [wI1k (by omega)] | rw [wA1c (by omega)] | rw [wI1c (by omega)])
  · (repeat first | rw [wI1] | rw [wI1k (by omega)] | rw [wA1c (by omega)] | rw [wI1c (by omega)])
  · rcases (show i = 1 ∨ i = 2 ∨ i = 3 ∨ i = 4 by omega) with rfl | rfl | rfl | rfl
    · show (_ : ZH).1 41 j = H.1 36 j; (repeat first | rw [wIf (by omega)] | rw [wA1, zcpy_at h3] | rw [wA1c (by omega)])
    · show (_ : ZH).1 42 j = H.1 37 j; (repeat first | rw [wIf (by omega)] | rw [wA1, zcpy_at h3] | rw [wA1c (by omega)])
    · show (_ : ZH).1 43 j = H.1 38 j; (repeat first | rw [wIf (by omega)] | rw [wA1, zcpy_at h3] | rw [wA1c (by omega)])
    · show (_ : ZH).1 44 j = H.1 39 j; (repeat first | rw [wIf (by omega)] | rw [wA1, zcpy_at h3] | rw [wA1c (by omega)])

theorem c_X6_take_45_35 {d : Nat} {H : ZH} (ok : okZ H)  : EvC zX (d + 1) mX6_take [.ref 45, .ref 35] (eh H) (zPv (fun (H1 : ZH) => TakeSc H H1 45 35)) := by
  show _ ∧ Ev zX mX6_take (EvC zX d) (zPv (fun (H1 : ZH) => TakeSc H H1 45 35)) 0 [(0, .ref 45), (1, .ref 35)] [] (eh H)
  refine ⟨Nat.le_of_ble_eq_true rfl, ?_⟩
  refine x_aload_n (pc := 0) dX6_take_0 (List.Mem.head _) ?_
  refine x_aload_n (pc := 1) dX6_take_1 (List.Mem.tail _ (List.Mem.head _)) ?_
  have rd1 := ok.1 35 0
  refine z_getI (pc := 2) (k := 0) (v := H.1 35 0) dX6_take_2 lf_X6_9 sh_35 rfl rfl ?_
  refine z_putI (pc := 5) (k := 0) dX6_take_5 lp_X6_9 sh_45 rfl ?_
  have ok2 := okI ok 45 0 (v := (H.1 35 0)) (by omega) (by omega)
  refine x_aload_n (pc := 8) dX6_take_8 (List.Mem.head _) ?_
  refine x_aload_n (pc := 9) dX6_take_9 (List.Mem.tail _ (List.Mem.head _)) ?_
  have rd3 := ok.1 35 1
  refine z_getI (pc := 10) (k := 1) (v := H.1 35 1) dX6_take_10 lf_X6_37 sh_35 rfl (by rw [wI1c (by omega)]) ?_
  refine z_putI (pc := 13) (k := 1) dX6_take_13 lp_X6_37 sh_45 rfl ?_
  have ok4 := okI ok2 45 1 (v := (H.1 35 1)) (by omega) (by omega)
  refine x_aload_n (pc := 16) dX6_take_16 (List.Mem.tail _ (List.Mem.head _)) ?_
  refine z_getR (pc := 17) (k := 2) (r := 36) dX6_take_17 lf_X6_15 sh_35 rfl rf_35_2 ?_
  refine z_iconst (pc := 20) dX6_take_20 ?_
  refine x_aload_n (pc := 21) dX6_take_21 (List.Mem.head _) ?_
  refine z_getR (pc := 22) (k := 2) (r := 46) dX6_take_22 lf_X6_15 sh_45 rfl rf_45_2 ?_
  refine z_iconst (pc := 25) dX6_take_25 ?_
  refine z_bipush (pc := 26) dX6_take_26 bp_8 ?_
  refine z_acpyf (pc := 28) (sp := 0) (dp := 0) (n := 8) (f := H.1 36) (g := H.1 46) dX6_take_28 ml_X6_49 sh_36 sh_46 rfl rfl rfl (by omega) (by omega) (by decide) (by decide) (Nat.le_of_ble_eq_true rfl) (by rw [wIf (by omega), wIf (by omega)]) (by rw [wIf (by omega), wIf (by omega)]) ?_
  have ok5 := okCf ok4 46 36 0 0 8 (by rw [wIf (by omega), wIf (by omega)]) (by rw [wIf (by omega), wIf (by omega)])
  refine x_aload_n (pc := 31) dX6_take_31 (List.Mem.tail _ (List.Mem.head _)) ?_
  refine z_getR (pc := 32) (k := 3) (r := 37) dX6_take_32 lf_X6_19 sh_35 rfl rf_35_3 ?_
  refine z_iconst (pc := 35) dX6_take_35 ?_
  refine x_aload_n (pc := 36) dX6_take_36 (List.Mem.head _) ?_
  refine z_getR (pc := 37) (k := 3) (r := 47) dX6_take_37 lf_X6_19 sh_45 rfl rf_45_3 ?_
  refine z_iconst (pc := 40) dX6_take_40 ?_
  refine z_bipush (pc := 41) dX6_take_41 bp_8 ?_
  refine z_acpyf (pc := 43) (sp := 0) (dp := 0) (n := 8) (f := H.1 37) (g := H.1 47) dX6_take_43 ml_X6_49 sh_37 sh_47 rfl rfl rfl (by omega) (by omega) (by decide) (by decide) (Nat.le_of_ble_eq_true rfl) (by rw [wA1c (by omega), wIf (by omega), wIf (by omega)]) (by rw [wA1c (by omega), wIf (by omega), wIf (by omega)]) ?_
  have ok6 := okCf ok5 47 37 0 0 8 (by rw [wA1c (by omega), wIf (by omega), wIf (by omega)]) (by rw [wA1c (by omega), wIf (by omega), wIf (by omega)])
  refine x_aload_n (pc := 46) dX6_take_46 (List.Mem.tail _ (List.Mem.head _)) ?_
  refine z_getR (pc := 47) (k := 4) (r := 38) dX6_take_47 lf_X6_22 sh_35 rfl rf_35_4 ?_
  refine z_iconst (pc := 50) dX6_take_50 ?_
  refine x_aload_n (pc := 51) dX6_take_51 (List.Mem.head _) ?_
  refine z_getR (pc := 52) (k := 4) (r := 48) dX6_take_52 lf_X6_22 sh_45 rfl rf_45_4 ?_
  refine z_iconst (pc := 55) dX6_take_55 ?_
  refine z_bipush (pc := 56) dX6_take_56 bp_8 ?_
  refine z_acpyf (pc := 58) (sp := 0) (dp := 0) (n := 8) (f := H.1 38) (g := H.1 48) dX6_take_58 ml_X6_49 sh_38 sh_48 rfl rfl rfl (by omega) (by omega) (by decide) (by decide) (Nat.le_of_ble_eq_true rfl) (by rw [wA1c (by omega), wA1c (by omega), wIf (by omega), wIf (by omega)]) (by rw [wA1c (by omega), wA1c (by omega), wIf (by omega), wIf (by omega)]) ?_
  have ok7 := okCf ok6 48 38 0 0 8 (by rw [wA1c (by omega), wA1c (by omega), wIf (by omega), wIf (by omega)]) (by rw [wA1c (by omega), wA1c (by omega), wIf (by omega), wIf (by omega)])
  refine x_aload_n (pc := 61) dX6_take_61 (List.Mem.tail _ (List.Mem.head _)) ?_
  refine z_getR (pc := 62) (k := 5) (r := 39) dX6_take_62 lf_X6_25 sh_35 rfl rf_35_5 ?_
  refine z_iconst (pc := 65) dX6_take_65 ?_
  refine x_aload_n (pc := 66) dX6_take_66 (List.Mem.head _) ?_
  refine z_getR (pc := 67) (k := 5) (r := 49) dX6_take_67 lf_X6_25 sh_45 rfl rf_45_5 ?_
  refine z_iconst (pc := 70) dX6_take_70 ?_
  refine z_bipush (pc := 71) dX6_take_71 bp_8 ?_
  refine z_acpyf (pc := 73) (sp := 0) (dp := 0) (n := 8) (f := H.1 39) (g := H.1 49) dX6_take_73 ml_X6_49 sh_39 sh_49 rfl rfl rfl (by omega) (by omega) (by decide) (by decide) (Nat.le_of_ble_eq_true rfl) (by rw [wA1c (by omega), wA1c (by omega), wA1c (by omega), wIf (by omega), wIf (by omega)]) (by rw [wA1c (by omega), wA1c (by omega), wA1c (by omega), wIf (by omega), wIf (by omega)]) ?_
  have ok8 := okCf ok7 49 39 0 0 8 (by rw [wA1c (by omega), wA1c (by omega), wA1c (by omega), wIf (by omega), wIf (by omega)]) (by rw [wA1c (by omega), wA1c (by omega), wA1c (by omega), wIf (by omega), wIf (by omega)])
  refine x_aload_n (pc := 76) dX6_take_76 (List.Mem.head _) ?_
  refine x_aload_n (pc := 77) dX6_take_77 (List.Mem.tail _ (List.Mem.head _)) ?_
  have rd9 := ok.1 35 6
  refine z_getI (pc := 78) (k := 6) (v := H.1 35 6) dX6_take_78 lf_X6_40 sh_35 rfl (by rw [wA1c (by omega), wA1c (by omega), wA1c (by omega), wA1c (by omega), wI1c (by omega), wI1c (by omega)]) ?_
  refine z_putI (pc := 81) (k := 6) dX6_take_81 lp_X6_40 sh_45 rfl ?_
  have ok10 := okI ok8 45 6 (v := (H.1 35 6)) (by omega) (by omega)
  refine x_aload_n (pc := 84) dX6_take_84 (List.Mem.head _) ?_
  refine x_aload_n (pc := 85) dX6_take_85 (List.Mem.tail _ (List.Mem.head _)) ?_
  have rd11 := ok.1 35 7
  refine z_getI (pc := 86) (k := 7) (v := H.1 35 7) dX6_take_86 lf_X6_43 sh_35 rfl (by rw [wI1c (by omega), wA1c (by omega), wA1c (by omega), wA1c (by omega), wA1c (by omega), wI1c (by omega), wI1c (by omega)]) ?_
  refine z_putI (pc := 89) (k := 7) dX6_take_89 lp_X6_43 sh_45 rfl ?_
  have ok12 := okI ok10 45 7 (v := (H.1 35 7)) (by omega) (by omega)
  refine x_aload_n (pc := 92) dX6_take_92 (List.Mem.head _) ?_
  refine x_aload_n (pc := 93) dX6_take_93 (List.Mem.tail _ (List.Mem.head _)) ?_
  have rd13 := ok.1 35 8
  refine z_getI (pc := 94) (k := 8) (v := H.1 35 8) dX6_take_94 lf_X6_28 sh_35 rfl (by rw [wI1c (by omega), wI1c (by omega), wA1c (by omega), wA1c (by omega), wA1c (by omega), wA1c (by omega), wI1c (by omega), wI1c (by omega)]) ?_
  refine z_putI (pc := 97) (k := 8) dX6_take_97 lp_X6_28 sh_45 rfl ?_
  have ok14 := okI ok12 45 8 (v := (H.1 35 8)) (by omega) (by omega)
  refine x_aload_n (pc := 100) dX6_take_100 (List.Mem.head _) ?_
  refine x_aload_n (pc := 101) dX6_take_101 (List.Mem.tail _ (List.Mem.head _)) ?_
  have rd15 := ok.1 35 9
  refine z_getI (pc := 102) (k := 9) (v := H.1 35 9) dX6_take_102 lf_X6_31 sh_35 rfl (by rw [wI1c (by omega), wI1c (by omega), wI1c (by omega), wA1c (by omega), wA1c (by omega), wA1c (by omega), wA1c (by omega), wI1c (by omega), wI1c (by omega)]) ?_
  refine z_putI (pc := 105) (k := 9) dX6_take_105 lp_X6_31 sh_45 rfl ?_
  have ok16 := okI ok14 45 9 (v := (H.1 35 9)) (by omega) (by omega)
  refine x_aload_n (pc := 108) dX6_take_108 (List.Mem.head _) ?_
  refine x_aload_n (pc := 109) dX6_take_109 (List.Mem.tail _ (List.Mem.head _)) ?_
  have rd17 := ok.1 35 10
  refine z_getI (pc := 110) (k := 10) (v := H.1 35 10) dX6_take_110 lf_X6_34 sh_35 rfl (by rw [wI1c (by omega), wI1c (by omega), wI1c (by omega), wI1c (by omega), wA1c (by omega), wA1c (by omega), wA1c (by omega), wA1c (by omega), wI1c (by omega), wI1c (by omega)]) ?_
  refine z_putI (pc := 113) (k := 10) dX6_take_113 lp_X6_34 sh_45 rfl ?_
  have ok18 := okI ok16 45 10 (v := (H.1 35 10)) (by omega) (by omega)
  refine x_aload_n (pc := 116) dX6_take_116 (List.Mem.head _) ?_
  refine x_aload_n (pc := 117) dX6_take_117 (List.Mem.tail _ (List.Mem.head _)) ?_
  have rd19 := ok.1 35 11
  refine z_getI (pc := 118) (k := 11) (v := H.1 35 11) dX6_take_118 lf_X6_46 sh_35 rfl (by rw [wI1c (by omega), wI1c (by omega), wI1c (by omega), wI1c (by omega), wI1c (by omega), wA1c (by omega), wA1c (by omega), wA1c (by omega), wA1c (by omega), wI1c (by omega), wI1c (by omega)]) ?_
  refine z_putI (pc := 121) (k := 11) dX6_take_121 lp_X6_46 sh_45 rfl ?_
  have ok20 := okI ok18 45 11 (v := (H.1 35 11)) (by omega) (by omega)
  refine z_vreturn (pc := 124) dX6_take_124 rfl ok20 ?_
  refine ⟨rfl, fun c hc => ?_, ⟨?_, ?_, ?_, ?_, ?_, ?_, ?_, ?_⟩, fun i j h1 h2 h3 => ?_⟩
  · (repeat first | rw [wIf (by omega)] | rw [wA1c (by omega)])
  · (repeat first | rw [wI1] | rw [wI1k (by omega)] | rw [wA1c (by omega)] | rw [wI1c (by omega)])
  · (repeat first | rw [wI1] | rw [wI1k (by omega)] | rw [wA1c (by omega)] | rw [wI1c (by omega)])
  · (repeat first | rw [wI1] | rw [wI1k (by omega)] | rw [wA1c (by omega)] | rw [wI1c (by omega)])
  · (repeat first | rw [wI1] | rw [wI1k (by omega)] | rw [wA1c (by omega)] | rw [wI1c (by omega)])
  · (repeat first | rw [wI1] | rw [wI1k (by omega)] | rw [wA1c (by omega)] | rw [wI1c (by omega)])
  · (repeat first | rw [wI1] | rw [wI1k (by omega)] | rw [wA1c (by omega)] | rw [wI1c (by omega)])
  · (repeat first | rw [wI1] | rw [wI1k (by omega)] | rw [wA1c (by omega)] | rw [wI1c (by omega)])
  · (repeat first | rw [wI1] | rw [wI1k (by omega)] | rw [wA1c (by omega)] | rw [wI1c (by omega)])
  · rcases (show i = 1 ∨ i = 2 ∨ i = 3 ∨ i = 4 by omega) with rfl | rfl | rfl | rfl
    · show (_ : ZH).1 46 j = H.1 36 j; (repeat first | rw [wIf (by omega)] | rw [wA1, zcpy_at h3] | rw [wA1c (by omega)])
    · show (_ : ZH).1 47 j = H.1 37 j; (repeat first | rw [wIf (by omega)] | rw [wA1, zcpy_at h3] | rw [wA1c (by omega)])
    · show (_ : ZH).1 48 j = H.1 38 j; (repeat first | rw [wIf (by omega)] | rw [wA1, zcpy_at h3] | rw [wA1c (by omega)])
    · show (_ : ZH).1 49 j = H.1 39 j; (repeat first | rw [wIf (by omega)] | rw [wA1, zcpy_at h3] | rw [wA1c (by omega)])

theorem c_X6_take_35_40 {d : Nat} {H : ZH} (ok : okZ H)  : EvC zX (d + 1) mX6_take [.ref 35, .ref 40] (eh H) (zPv (fun (H1 : ZH) => TakeSc H H1 35 40)) := by
  show _ ∧ Ev zX mX6_take (EvC zX d) (zPv (fun (H1 : ZH) => TakeSc H H1 35 40)) 0 [(0, .ref 35), (1, .ref 40)] [] (eh H)
  refine ⟨Nat.le_of_ble_eq_true rfl, ?_⟩
  refine x_aload_n (pc := 0) dX6_take_0 (List.Mem.head _) ?_
  refine x_aload_n (pc := 1) dX6_take_1 (List.Mem.tail _ (List.Mem.head _)) ?_
  have rd1 := ok.1 40 0
  refine z_getI (pc := 2) (k := 0) (v := H.1 40 0) dX6_take_2 lf_X6_9 sh_40 rfl rfl ?_
  refine z_putI (pc := 5) (k := 0) dX6_take_5 lp_X6_9 sh_35 rfl ?_
  have ok2 := okI ok 35 0 (v := (H.1 40 0)) (by omega) (by omega)
  refine x_aload_n (pc := 8) dX6_take_8 (List.Mem.head _) ?_
  refine x_aload_n (pc := 9) dX6_take_9 (List.Mem.tail _ (List.Mem.head _)) ?_
  have rd3 := ok.1 40 1
  refine z_getI (pc := 10) (k := 1) (v := H.1 40 1) dX6_take_10 lf_X6_37 sh_40 rfl (by rw [wI1c (by omega)]) ?_
  refine z_putI (pc := 13) (k := 1) dX6_take_13 lp_X6_37 sh_35 rfl ?_
  have ok4 := okI ok2 35 1 (v := (H.1 40 1)) (by omega) (by omega)
  refine x_aload_n (pc := 16) dX6_take_16 (List.Mem.tail _ (List.Mem.head _)) ?_
  refine z_getR (pc := 17) (k := 2) (r := 41) dX6_take_17 lf_X6_15 sh_40 rfl rf_40_2 ?_
  refine z_iconst (pc := 20) dX6_take_20 ?_
  refine x_aload_n (pc := 21) dX6_take_21 (List.Mem.head _) ?_
  refine z_getR (pc := 22) (k := 2) (r := 36) dX6_take_22 lf_X6_15 sh_35 rfl rf_35_2 ?_
  refine z_iconst (pc := 25) dX6_take_25 ?_
  refine z_bipush (pc := 26) dX6_take_26 bp_8 ?_
  refine z_acpyf (pc := 28) (sp := 0) (dp := 0) (n := 8) (f := H.1 41) (g := H.1 36) dX6_take_28 ml_X6_49 sh_41 sh_36 rfl rfl rfl (by omega) (by omega) (by decide) (by decide) (Nat.le_of_ble_eq_true rfl) (by rw [wIf (by omega), wIf (by omega)]) (by rw [wIf (by omega), wIf (by omega)]) ?_
  have ok5 := okCf ok4 36 41 0 0 8 (by rw [wIf (by omega), wIf (by omega)]) (by rw [wIf (by omega), wIf (by omega)])
  refine x_aload_n (pc := 31) dX6_take_31 (List.Mem.tail _ (List.Mem.head _)) ?_
  refine z_getR (pc := 32) (k := 3) (r := 42) dX6_take_32 lf_X6_19 sh_40 rfl rf_40_3 ?_
  refine z_iconst (pc := 35) dX6_take_35 ?_
  refine x_aload_n (pc := 36) dX6_take_36 (List.Mem.head _) ?_
  refine z_getR (pc := 37) (k := 3) (r := 37) dX6_take_37 lf_X6_19 sh_35 rfl rf_35_3 ?_
  refine z_iconst (pc := 40) dX6_take_40 ?_
  refine z_bipush (pc := 41) dX6_take_41 bp_8 ?_
  refine z_acpyf (pc := 43) (sp := 0) (dp := 0) (n := 8) (f := H.1 42) (g := H.1 37) dX6_take_43 ml_X6_49 sh_42 sh_37 rfl rfl rfl (by omega) (by omega) (by decide) (by decide) (Nat.le_of_ble_eq_true rfl) (by rw [wA1c (by omega), wIf (by omega), wIf (by omega)]) (by rw [wA1c (by omega), wIf (by omega), wIf (by omega)]) ?_
  have ok6 := okCf ok5 37 42 0 0 8 (by rw [wA1c (by omega), wIf (by omega), wIf (by omega)]) (by rw [wA1c (by omega), wIf (by omega), wIf (by omega)])
  refine x_aload_n (pc := 46) dX6_take_46 (List.Mem.tail _ (List.Mem.head _)) ?_
  refine z_getR (pc := 47) (k := 4) (r := 43) dX6_take_47 lf_X6_22 sh_40 rfl rf_40_4 ?_
  refine z_iconst (pc := 50) dX6_take_50 ?_
  refine x_aload_n (pc := 51) dX6_take_51 (List.Mem.head _) ?_
  refine z_getR (pc := 52) (k := 4) (r := 38) dX6_take_52 lf_X6_22 sh_35 rfl rf_35_4 ?_
  refine z_iconst (pc := 55) dX6_take_55 ?_
  refine z_bipush (pc := 56) dX6_take_56 bp_8 ?_
  refine z_acpyf (pc := 58) (sp := 0) (dp := 0) (n := 8) (f := H.1 43) (g := H.1 38) dX6_take_58 ml_X6_49 sh_43 sh_38 rfl rfl rfl (by omega) (by omega) (by decide) (by decide) (Nat.le_of_ble_eq_true rfl) (by rw [wA1c (by omega), wA1c (by omega), wIf (by omega), wIf (by omega)]) (by rw [wA1c (by omega), wA1c (by omega), wIf (by omega), wIf (by omega)]) ?_
  have ok7 := okCf ok6 38 43 0 0 8 (by rw [wA1c (by omega), wA1c (by omega), wIf (by omega), wIf (by omega)]) (by rw [wA1c (by omega), wA1c (by omega), wIf (by omega), wIf (by omega)])
  refine x_aload_n (pc := 61) dX6_take_61 (List.Mem.tail _ (List.Mem.head _)) ?_
  refine z_getR (pc := 62) (k := 5) (r := 44) dX6_take_62 lf_X6_25 sh_40 rfl rf_40_5 ?_
  refine z_iconst (pc := 65) dX6_take_65 ?_
  refine x_aload_n (pc := 66) dX6_take_66 (List.Mem.head _) ?_
  refine z_getR (pc := 67) (k := 5) (r := 39) dX6_take_67 lf_X6_25 sh_35 rfl rf_35_5 ?_
  refine z_iconst (pc := 70) dX6_take_70 ?_
  refine z_bipush (pc := 71) dX6_take_71 bp_8 ?_
  refine z_acpyf (pc := 73) (sp := 0) (dp := 0) (n := 8) (f := H.1 44) (g := H.1 39) dX6_take_73 ml_X6_49 sh_44 sh_39 rfl rfl rfl (by omega) (by omega) (by decide) (by decide) (Nat.le_of_ble_eq_true rfl) (by rw [wA1c (by omega), wA1c (by omega), wA1c (by omega), wIf (by omega), wIf (by omega)]) (by rw [wA1c (by omega), wA1c (by omega), wA1c (by omega), wIf (by omega), wIf (by omega)]) ?_
  have ok8 := okCf ok7 39 44 0 0 8 (by rw [wA1c (by omega), wA1c (by omega), wA1c (by omega), wIf (by omega), wIf (by omega)]) (by rw [wA1c (by omega), wA1c (by omega), wA1c (by omega), wIf (by omega), wIf (by omega)])
  refine x_aload_n (pc := 76) dX6_take_76 (List.Mem.head _) ?_
  refine x_aload_n (pc := 77) dX6_take_77 (List.Mem.tail _ (List.Mem.head _)) ?_
  have rd9 := ok.1 40 6
  refine z_getI (pc := 78) (k := 6) (v := H.1 40 6) dX6_take_78 lf_X6_40 sh_40 rfl (by rw [wA1c (by omega), wA1c (by omega), wA1c (by omega), wA1c (by omega), wI1c (by omega), wI1c (by omega)]) ?_
  refine z_putI (pc := 81) (k := 6) dX6_take_81 lp_X6_40 sh_35 rfl ?_
  have ok10 := okI ok8 35 6 (v := (H.1 40 6)) (by omega) (by omega)
  refine x_aload_n (pc := 84) dX6_take_84 (List.Mem.head _) ?_
  refine x_aload_n (pc := 85) dX6_take_85 (List.Mem.tail _ (List.Mem.head _)) ?_
  have rd11 := ok.1 40 7
  refine z_getI (pc := 86) (k := 7) (v := H.1 40 7) dX6_take_86 lf_X6_43 sh_40 rfl (by rw [wI1c (by omega), wA1c (by omega), wA1c (by omega), wA1c (by omega), wA1c (by omega), wI1c (by omega), wI1c (by omega)]) ?_
  refine z_putI (pc := 89) (k := 7) dX6_take_89 lp_X6_43 sh_35 rfl ?_
  have ok12 := okI ok10 35 7 (v := (H.1 40 7)) (by omega) (by omega)
  refine x_aload_n (pc := 92) dX6_take_92 (List.Mem.head _) ?_
  refine x_aload_n (pc := 93) dX6_take_93 (List.Mem.tail _ (List.Mem.head _)) ?_
  have rd13 := ok.1 40 8
  refine z_getI (pc := 94) (k := 8) (v := H.1 40 8) dX6_take_94 lf_X6_28 sh_40 rfl (by rw [wI1c (by omega), wI1c (by omega), wA1c (by omega), wA1c (by omega), wA1c (by omega), wA1c (by omega), wI1c (by omega), wI1c (by omega)]) ?_
  refine z_putI (pc := 97) (k := 8) dX6_take_97 lp_X6_28 sh_35 rfl ?_
  have ok14 := okI ok12 35 8 (v := (H.1 40 8)) (by omega) (by omega)
  refine x_aload_n (pc := 100) dX6_take_100 (List.Mem.head _) ?_
  refine x_aload_n (pc := 101) dX6_take_101 (List.Mem.tail _ (List.Mem.head _)) ?_
  have rd15 := ok.1 40 9
  refine z_getI (pc := 102) (k := 9) (v := H.1 40 9) dX6_take_102 lf_X6_31 sh_40 rfl (by rw [wI1c (by omega), wI1c (by omega), wI1c (by omega), wA1c (by omega), wA1c (by omega), wA1c (by omega), wA1c (by omega), wI1c (by omega), wI1c (by omega)]) ?_
  refine z_putI (pc := 105) (k := 9) dX6_take_105 lp_X6_31 sh_35 rfl ?_
  have ok16 := okI ok14 35 9 (v := (H.1 40 9)) (by omega) (by omega)
  refine x_aload_n (pc := 108) dX6_take_108 (List.Mem.head _) ?_
  refine x_aload_n (pc := 109) dX6_take_109 (List.Mem.tail _ (List.Mem.head _)) ?_
  have rd17 := ok.1 40 10
  refine z_getI (pc := 110) (k := 10) (v := H.1 40 10) dX6_take_110 lf_X6_34 sh_40 rfl (by rw [wI1c (by omega), wI1c (by omega), wI1c (by omega), wI1c (by omega), wA1c (by omega), wA1c (by omega), wA1c (by omega), wA1c (by omega), wI1c (by omega), wI1c (by omega)]) ?_
  refine z_putI (pc := 113) (k := 10) dX6_take_113 lp_X6_34 sh_35 rfl ?_
  have ok18 := okI ok16 35 10 (v := (H.1 40 10)) (by omega) (by omega)
  refine x_aload_n (pc := 116) dX6_take_116 (List.Mem.head _) ?_
  refine x_aload_n (pc := 117) dX6_take_117 (List.Mem.tail _ (List.Mem.head _)) ?_
  have rd19 := ok.1 40 11
  refine z_getI (pc := 118) (k := 11) (v := H.1 40 11) dX6_take_118 lf_X6_46 sh_40 rfl (by rw [wI1c (by omega), wI1c (by omega), wI1c (by omega), wI1c (by omega), wI1c (by omega), wA1c (by omega), wA1c (by omega), wA1c (by omega), wA1c (by omega), wI1c (by omega), wI1c (by omega)]) ?_
  refine z_putI (pc := 121) (k := 11) dX6_take_121 lp_X6_46 sh_35 rfl ?_
  have ok20 := okI ok18 35 11 (v := (H.1 40 11)) (by omega) (by omega)
  refine z_vreturn (pc := 124) dX6_take_124 rfl ok20 ?_
  refine ⟨rfl, fun c hc => ?_, ⟨?_, ?_, ?_, ?_, ?_, ?_, ?_, ?_⟩, fun i j h1 h2 h3 => ?_⟩
  · (repeat first | rw [wIf (by omega)] | rw [wA1c (by omega)])
  · (repeat first | rw [wI1] | rw [wI1k (by omega)] | rw [wA1c (by omega)] | rw [wI1c (by omega)])
  · (repeat first | rw [wI1] | rw [wI1k (by omega)] | rw [wA1c (by omega)] | rw [wI1c (by omega)])
  · (repeat first | rw [wI1] | rw [wI1k (by omega)] | rw [wA1c (by omega)] | rw [wI1c (by omega)])
  · (repeat first | rw [wI1] | rw [wI1k (by omega)] | rw [wA1c (by omega)] | rw [wI1c (by omega)])
  · (repeat first | rw [wI1] | rw [wI1k (by omega)] | rw [wA1c (by omega)] | rw [wI1c (by omega)])
  · (repeat first | rw [wI1] | rw [wI1k (by omega)] | rw [wA1c (by omega)] | rw [wI1c (by omega)])
  · (repeat first | rw [wI1] | rw [wI1k (by omega)] | rw [wA1c (by omega)] | rw [wI1c (by omega)])
  · (repeat first | rw [wI1] | rw [wI1k (by omega)] | rw [wA1c (by omega)] | rw [wI1c (by omega)])
  · rcases (show i = 1 ∨ i = 2 ∨ i = 3 ∨ i = 4 by omega) with rfl | rfl | rfl | rfl
    · show (_ : ZH).1 36 j = H.1 41 j; (repeat first | rw [wIf (by omega)] | rw [wA1, zcpy_at h3] | rw [wA1c (by omega)])
    · show (_ : ZH).1 37 j = H.1 42 j; (repeat first | rw [wIf (by omega)] | rw [wA1, zcpy_at h3] | rw [wA1c (by omega)])
    · show (_ : ZH).1 38 j = H.1 43 j; (repeat first | rw [wIf (by omega)] | rw [wA1, zcpy_at h3] | rw [wA1c (by omega)])
    · show (_ : ZH).1 39 j = H.1 44 j; (repeat first | rw [wIf (by omega)] | rw [wA1, zcpy_at h3] | rw [wA1c (by omega)])

theorem c_X6_take_35_45 {d : Nat} {H : ZH} (ok : okZ H)  : EvC zX (d + 1) mX6_take [.ref 35, .ref 45] (eh H) (zPv (fun (H1 : ZH) => TakeSc H H1 35 45)) := by
  show _ ∧ Ev zX mX6_take (EvC zX d) (zPv (fun (H1 : ZH) => TakeSc H H1 35 45)) 0 [(0, .ref 35), (1, .ref 45)] [] (eh H)
  refine ⟨Nat.le_of_ble_eq_true rfl, ?_⟩
  refine x_aload_n (pc := 0) dX6_take_0 (List.Mem.head _) ?_
  refine x_aload_n (pc := 1) dX6_take_1 (List.Mem.tail _ (List.Mem.head _)) ?_
  have rd1 := ok.1 45 0
  refine z_getI (pc := 2) (k := 0) (v := H.1 45 0) dX6_take_2 lf_X6_9 sh_45 rfl rfl ?_
  refine z_putI (pc := 5) (k := 0) dX6_take_5 lp_X6_9 sh_35 rfl ?_
  have ok2 := okI ok 35 0 (v := (H.1 45 0)) (by omega) (by omega)
  refine x_aload_n (pc := 8) dX6_take_8 (List.Mem.head _) ?_
  refine x_aload_n (pc := 9) dX6_take_9 (List.Mem.tail _ (List.Mem.head _)) ?_
  have rd3 := ok.1 45 1
  refine z_getI (pc := 10) (k := 1) (v := H.1 45 1) dX6_take_10 lf_X6_37 sh_45 rfl (by rw [wI1c (by omega)]) ?_
  refine z_putI (pc := 13) (k := 1) dX6_take_13 lp_X6_37 sh_35 rfl ?_
  have ok4 := okI ok2 35 1 (v := (H.1 45 1)) (by omega) (by omega)
  refine x_aload_n (pc := 16) dX6_take_16 (List.Mem.tail _ (List.Mem.head _)) ?_
  refine z_getR (pc := 17) (k := 2) (r := 46) dX6_take_17 lf_X6_15 sh_45 rfl rf_45_2 ?_
  refine z_iconst (pc := 20) dX6_take_20 ?_
  refine x_aload_n (pc := 21) dX6_take_21 (List.Mem.head _) ?_
  refine z_getR (pc := 22) (k := 2) (r := 36) dX6_take_22 lf_X6_15 sh_35 rfl rf_35_2 ?_
  refine z_iconst (pc := 25) dX6_take_25 ?_
  refine z_bipush (pc := 26) dX6_take_26 bp_8 ?_
  refine z_acpyf (pc := 28) (sp := 0) (dp := 0) (n := 8) (f := H.1 46) (g := H.1 36) dX6_take_28 ml_X6_49 sh_46 sh_36 rfl rfl rfl (by omega) (by omega) (by decide) (by decide) (Nat.le_of_ble_eq_true rfl) (by rw [wIf (by omega), wIf (by omega)]) (by rw [wIf (by omega), wIf (by omega)]) ?_
  have ok5 := okCf ok4 36 46 0 0 8 (by rw [wIf (by omega), wIf (by omega)]) (by rw [wIf (by omega), wIf (by omega)])
  refine x_aload_n (pc := 31) dX6_take_31 (List.Mem.tail _ (List.Mem.head _)) ?_
  refine z_getR (pc := 32) (k := 3) (r := 47) dX6_take_32 lf_X6_19 sh_45 rfl rf_45_3 ?_
  refine z_iconst (pc := 35) dX6_take_35 ?_
  refine x_aload_n (pc := 36) dX6_take_36 (List.Mem.head _) ?_
  refine z_getR (pc := 37) (k := 3) (r := 37) dX6_take_37 lf_X6_19 sh_35 rfl rf_35_3 ?_
  refine z_iconst (pc := 40) dX6_take_40 ?_
  refine z_bipush (pc := 41) dX6_take_41 bp_8 ?_
  refine z_acpyf (pc := 43) (sp := 0) (dp := 0) (n := 8) (f := H.1 47) (g := H.1 37) dX6_take_43 ml_X6_49 sh_47 sh_37 rfl rfl rfl (by omega) (by omega) (by decide) (by decide) (Nat.le_of_ble_eq_true rfl) (by rw [wA1c (by omega), wIf (by omega), wIf (by omega)]) (by rw [wA1c (by omega), wIf (by omega), wIf (by omega)]) ?_
  have ok6 := okCf ok5 37 47 0 0 8 (by rw [wA1c (by omega), wIf (by omega), wIf (by omega)]) (by rw [wA1c (by omega), wIf (by omega), wIf (by omega)])
  refine x_aload_n (pc := 46) dX6_take_46 (List.Mem.tail _ (List.Mem.head _)) ?_
  refine z_getR (pc := 47) (k := 4) (r := 48) dX6_take_47 lf_X6_22 sh_45 rfl rf_45_4 ?_
  refine z_iconst (pc := 50) dX6_take_50 ?_
  refine x_aload_n (pc := 51) dX6_take_51 (List.Mem.head _) ?_
  refine z_getR (pc := 52) (k := 4) (r := 38) dX6_take_52 lf_X6_22 sh_35 rfl rf_35_4 ?_
  refine z_iconst (pc := 55) dX6_take_55 ?_
  refine z_bipush (pc := 56) dX6_take_56 bp_8 ?_
  refine z_acpyf (pc := 58) (sp := 0) (dp := 0) (n := 8) (f := H.1 48) (g := H.1 38) dX6_take_58 ml_X6_49 sh_48 sh_38 rfl rfl rfl (by omega) (by omega) (by decide) (by decide) (Nat.le_of_ble_eq_true rfl) (by rw [wA1c (by omega), wA1c (by omega), wIf (by omega), wIf (by omega)]) (by rw [wA1c (by omega), wA1c (by omega), wIf (by omega), wIf (by omega)]) ?_
  have ok7 := okCf ok6 38 48 0 0 8 (by rw [wA1c (by omega), wA1c (by omega), wIf (by omega), wIf (by omega)]) (by rw [wA1c (by omega), wA1c (by omega), wIf (by omega), wIf (by omega)])
  refine x_aload_n (pc := 61) dX6_take_61 (List.Mem.tail _ (List.Mem.head _)) ?_
  refine z_getR (pc := 62) (k := 5) (r := 49) dX6_take_62 lf_X6_25 sh_45 rfl rf_45_5 ?_
  refine z_iconst (pc := 65) dX6_take_65 ?_
  refine x_aload_n (pc := 66) dX6_take_66 (List.Mem.head _) ?_
  refine z_getR (pc := 67) (k := 5) (r := 39) dX6_take_67 lf_X6_25 sh_35 rfl rf_35_5 ?_
  refine z_iconst (pc := 70) dX6_take_70 ?_
  refine z_bipush (pc := 71) dX6_take_71 bp_8 ?_
  refine z_acpyf (pc := 73) (sp := 0) (dp := 0) (n := 8) (f := H.1 49) (g := H.1 39) dX6_take_73 ml_X6_49 sh_49 sh_39 rfl rfl rfl (by omega) (by omega) (by decide) (by decide) (Nat.le_of_ble_eq_true rfl) (by rw [wA1c (by omega), wA1c (by omega), wA1c (by omega), wIf (by omega), wIf (by omega)]) (by rw [wA1c (by omega), wA1c (by omega), wA1c (by omega), wIf (by omega), wIf (by omega)]) ?_
  have ok8 := okCf ok7 39 49 0 0 8 (by rw [wA1c (by omega), wA1c (by omega), wA1c (by omega), wIf (by omega), wIf (by omega)]) (by rw [wA1c (by omega), wA1c (by omega), wA1c (by omega), wIf (by omega), wIf (by omega)])
  refine x_aload_n (pc := 76) dX6_take_76 (List.Mem.head _) ?_
  refine x_aload_n (pc := 77) dX6_take_77 (List.Mem.tail _ (List.Mem.head _)) ?_
  have rd9 := ok.1 45 6
  refine z_getI (pc := 78) (k := 6) (v := H.1 45 6) dX6_take_78 lf_X6_40 sh_45 rfl (by rw [wA1c (by omega), wA1c (by omega), wA1c (by omega), wA1c (by omega), wI1c (by omega), wI1c (by omega)]) ?_
  refine z_putI (pc := 81) (k := 6) dX6_take_81 lp_X6_40 sh_35 rfl ?_
  have ok10 := okI ok8 35 6 (v := (H.1 45 6)) (by omega) (by omega)
  refine x_aload_n (pc := 84) dX6_take_84 (List.Mem.head _) ?_
  refine x_aload_n (pc := 85) dX6_take_85 (List.Mem.tail _ (List.Mem.head _)) ?_
  have rd11 := ok.1 45 7
  refine z_getI (pc := 86) (k := 7) (v := H.1 45 7) dX6_take_86 lf_X6_43 sh_45 rfl (by rw [wI1c (by omega), wA1c (by omega), wA1c (by omega), wA1c (by omega), wA1c (by omega), wI1c (by omega), wI1c (by omega)]) ?_
  refine z_putI (pc := 89) (k := 7) dX6_take_89 lp_X6_43 sh_35 rfl ?_
  have ok12 := okI ok10 35 7 (v := (H.1 45 7)) (by omega) (by omega)
  refine x_aload_n (pc := 92) dX6_take_92 (List.Mem.head _) ?_
  refine x_aload_n (pc := 93) dX6_take_93 (List.Mem.tail _ (List.Mem.head _)) ?_
  have rd13 := ok.1 45 8
  refine z_getI (pc := 94) (k := 8) (v := H.1 45 8) dX6_take_94 lf_X6_28 sh_45 rfl (by rw [wI1c (by omega), wI1c (by omega), wA1c (by omega), wA1c (by omega), wA1c (by omega), wA1c (by omega), wI1c (by omega), wI1c (by omega)]) ?_
  refine z_putI (pc := 97) (k := 8) dX6_take_97 lp_X6_28 sh_35 rfl ?_
  have ok14 := okI ok12 35 8 (v := (H.1 45 8)) (by omega) (by omega)
  refine x_aload_n (pc := 100) dX6_take_100 (List.Mem.head _) ?_
  refine x_aload_n (pc := 101) dX6_take_101 (List.Mem.tail _ (List.Mem.head _)) ?_
  have rd15 := ok.1 45 9
  refine z_getI (pc := 102) (k := 9) (v := H.1 45 9) dX6_take_102 lf_X6_31 sh_45 rfl (by rw [wI1c (by omega), wI1c (by omega), wI1c (by omega), wA1c (by omega), wA1c (by omega), wA1c (by omega), wA1c (by omega), wI1c (by omega), wI1c (by omega)]) ?_
  refine z_putI (pc := 105) (k := 9) dX6_take_105 lp_X6_31 sh_35 rfl ?_
  have ok16 := okI ok14 35 9 (v := (H.1 45 9)) (by omega) (by omega)
  refine x_aload_n (pc := 108) dX6_take_108 (List.Mem.head _) ?_
  refine x_aload_n (pc := 109) dX6_take_109 (List.Mem.tail _ (List.Mem.head _)) ?_
  have rd17 := ok.1 45 10
  refine z_getI (pc := 110) (k := 10) (v := H.1 45 10) dX6_take_110 lf_X6_34 sh_45 rfl (by rw [wI1c (by omega), wI1c (by omega), wI1c (by omega), wI1c (by omega), wA1c (by omega), wA1c (by omega), wA1c (by omega), wA1c (by omega), wI1c (by omega), wI1c (by omega)]) ?_
  refine z_putI (pc := 113) (k := 10) dX6_take_113 lp_X6_34 sh_35 rfl ?_
  have ok18 := okI ok16 35 10 (v := (H.1 45 10)) (by omega) (by omega)
  refine x_aload_n (pc := 116) dX6_take_116 (List.Mem.head _) ?_
  refine x_aload_n (pc := 117) dX6_take_117 (List.Mem.tail _ (List.Mem.head _)) ?_
  have rd19 := ok.1 45 11
  refine z_getI (pc := 118) (k := 11) (v := H.1 45 11) dX6_take_118 lf_X6_46 sh_45 rfl (by rw [wI1c (by omega), wI1c (by omega), wI1c (by omega), wI1c (by omega), wI1c (by omega), wA1c (by omega), wA1c (by omega), wA1c (by omega), wA1c (by omega), wI1c (by omega), wI1c (by omega)]) ?_
  refine z_putI (pc := 121) (k := 11) dX6_take_121 lp_X6_46 sh_35 rfl ?_
  have ok20 := okI ok18 35 11 (v := (H.1 45 11)) (by omega) (by omega)
  refine z_vreturn (pc := 124) dX6_take_124 rfl ok20 ?_
  refine ⟨rfl, fun c hc => ?_, ⟨?_, ?_, ?_, ?_, ?_, ?_, ?_, ?_⟩, fun i j h1 h2 h3 => ?_⟩
  · (repeat first | rw [wIf (by omega)] | rw [wA1c (by omega)])
  · (repeat first | rw [wI1] | rw [wI1k (by omega)] | rw [wA1c (by omega)] | rw [wI1c (by omega)])
  · (repeat first | rw [wI1] | rw [wI1k (by omega)] | rw [wA1c (by omega)] | rw [wI1c (by omega)])
  · (repeat first | rw [wI1] | rw [wI1k (by omega)] | rw [wA1c (by omega)] | rw [wI1c (by omega)])
  · (repeat first | rw [wI1] | rw [wI1k (by omega)] | rw [wA1c (by omega)] | rw [wI1c (by omega)])
  · (repeat first | rw [wI1] | rw [wI1k (by omega)] | rw [wA1c (by omega)] | rw [wI1c (by omega)])
  · (repeat first | rw [wI1] | rw [wI1k (by omega)] | rw [wA1c (by omega)] | rw [wI1c (by omega)])
  · (repeat first | rw [wI1] | rw [wI1k (by omega)] | rw [wA1c (by omega)] | rw [wI1c (by omega)])
  · (repeat first | rw [wI1] | rw [wI1k (by omega)] | rw [wA1c (by omega)] | rw [wI1c (by omega)])
  · rcases (show i = 1 ∨ i = 2 ∨ i = 3 ∨ i = 4 by omega) with rfl | rfl | rfl | rfl
    · show (_ : ZH).1 36 j = H.1 46 j; (repeat first | rw [wIf (by omega)] | rw [wA1, zcpy_at h3] | rw [wA1c (by omega)])
    · show (_ : ZH).1 37 j = H.1 47 j; (repeat first | rw [wIf (by omega)] | rw [wA1, zcpy_at h3] | rw [wA1c (by omega)])
    · show (_ : ZH).1 38 j = H.1 48 j; (repeat first | rw [wIf (by omega)] | rw [wA1, zcpy_at h3] | rw [wA1c (by omega)])
    · show (_ : ZH).1 39 j = H.1 49 j; (repeat first | rw [wIf (by omega)] | rw [wA1, zcpy_at h3] | rw [wA1c (by omega)])

theorem c_X1_take_59_55 {d : Nat} {H : ZH} (ok : okZ H)  (hz : 0 ≤ H.1 55 4 ∧ H.1 55 4 ≤ 400) : EvC zX (d + 1) mX1_take [.ref 59, .ref 55] (eh H) (zPv (fun (H1 : ZH) => TakeLw H H1 59 55)) := by
  show _ ∧ Ev zX mX1_take (EvC zX d) (zPv (fun (H1 : ZH) => TakeLw H H1 59 55)) 0 [(0, .ref 59), (1, .ref 55)] [] (eh H)
  refine ⟨Nat.le_of_ble_eq_true rfl, ?_⟩
  refine x_aload_n (pc := 0) dX1_take_0 (List.Mem.head _) ?_
  refine x_aload_n (pc := 1) dX1_take_1 (List.Mem.tail _ (List.Mem.head _)) ?_
  have rd1 := ok.1 55 0
  refine z_getI (pc := 2) (k := 0) (v := H.1 55 0) dX1_take_2 lf_X1_21 sh_55 rfl rfl ?_
  refine z_putI (pc := 5) (k := 0) dX1_take_5 lp_X1_21 sh_59 rfl ?_
  have ok2 := okI ok 59 0 (v := (H.1 55 0)) (by omega) (by omega)
  refine x_aload_n (pc := 8) dX1_take_8 (List.Mem.tail _ (List.Mem.head _)) ?_
  refine z_getR (pc := 9) (k := 1) (r := 56) dX1_take_9 lf_X1_9 sh_55 rfl rf_55_1 ?_
  refine z_iconst (pc := 12) dX1_take_12 ?_
  refine x_aload_n (pc := 13) dX1_take_13 (List.Mem.head _) ?_
  refine z_getR (pc := 14) (k := 1) (r := 60) dX1_take_14 lf_X1_9 sh_59 rfl rf_59_1 ?_
  refine z_iconst (pc := 17) dX1_take_17 ?_
  refine z_bipush (pc := 18) dX1_take_18 bp_12 ?_
  refine z_acpyf (pc := 20) (sp := 0) (dp := 0) (n := 12) (f := H.1 56) (g := H.1 60) dX1_take_20 ml_X1_28 sh_56 sh_60 rfl rfl rfl (by omega) (by omega) (by decide) (by decide) (Nat.le_of_ble_eq_true rfl) (by rw [wIf (by omega)]) (by rw [wIf (by omega)]) ?_
  have ok3 := okCf ok2 60 56 0 0 12 (by rw [wIf (by omega)]) (by rw [wIf (by omega)])
  refine x_aload_n (pc := 23) dX1_take_23 (List.Mem.tail _ (List.Mem.head _)) ?_
  refine z_getR (pc := 24) (k := 2) (r := 57) dX1_take_24 lf_X1_15 sh_55 rfl rf_55_2 ?_
  refine z_iconst (pc := 27) dX1_take_27 ?_
  refine x_aload_n (pc := 28) dX1_take_28 (List.Mem.head _) ?_
  refine z_getR (pc := 29) (k := 2) (r := 61) dX1_take_29 lf_X1_15 sh_59 rfl rf_59_2 ?_
  refine z_iconst (pc := 32) dX1_take_32 ?_
  refine z_bipush (pc := 33) dX1_take_33 bp_12 ?_
  refine z_acpyf (pc := 35) (sp := 0) (dp := 0) (n := 12) (f := H.1 57) (g := H.1 61) dX1_take_35 ml_X1_28 sh_57 sh_61 rfl rfl rfl (by omega) (by omega) (by decide) (by decide) (Nat.le_of_ble_eq_true rfl) (by rw [wA1c (by omega), wIf (by omega)]) (by rw [wA1c (by omega), wIf (by omega)]) ?_
  have ok4 := okCf ok3 61 57 0 0 12 (by rw [wA1c (by omega), wIf (by omega)]) (by rw [wA1c (by omega), wIf (by omega)])
  refine x_aload_n (pc := 38) dX1_take_38 (List.Mem.tail _ (List.Mem.head _)) ?_
  refine z_getR (pc := 39) (k := 3) (r := 58) dX1_take_39 lf_X1_18 sh_55 rfl rf_55_3 ?_
  refine z_iconst (pc := 42) dX1_take_42 ?_
  refine x_aload_n (pc := 43) dX1_take_43 (List.Mem.head _) ?_
  refine z_getR (pc := 44) (k := 3) (r := 62) dX1_take_44 lf_X1_18 sh_59 rfl rf_59_3 ?_
  refine z_iconst (pc := 47) dX1_take_47 ?_
  refine x_aload_n (pc := 48) dX1_take_48 (List.Mem.tail _ (List.Mem.head _)) ?_
  have rd5 := ok.1 55 4
  refine z_getI (pc := 49) (k := 4) (v := H.1 55 4) dX1_take_49 lf_X1_25 sh_55 rfl (by rw [wA1c (by omega), wA1c (by omega), wI1c (by omega)]) ?_
  refine z_acpyf (pc := 52) (sp := 0) (dp := 0) (n := (H.1 55 4).toNat) (f := H.1 58) (g := H.1 62) dX1_take_52 ml_X1_28 sh_58 sh_62 rfl rfl (by omega) (by omega) (by omega) (by decide) (by decide) (Nat.le_of_ble_eq_true rfl) (by rw [wA1c (by omega), wA1c (by omega), wIf (by omega)]) (by rw [wA1c (by omega), wA1c (by omega), wIf (by omega)]) ?_
  have ok6 := okCf ok4 62 58 0 0 ((H.1 55 4).toNat) (by rw [wA1c (by omega), wA1c (by omega), wIf (by omega)]) (by rw [wA1c (by omega), wA1c (by omega), wIf (by omega)])
  refine x_aload_n (pc := 55) dX1_take_55 (List.Mem.head _) ?_
  refine x_aload_n (pc := 56) dX1_take_56 (List.Mem.tail _ (List.Mem.head _)) ?_
  have rd7 := ok.1 55 4
  refine z_getI (pc := 57) (k := 4) (v := H.1 55 4) dX1_take_57 lf_X1_25 sh_55 rfl (by rw [wA1c (by omega), wA1c (by omega), wA1c (by omega), wI1c (by omega)]) ?_
  refine z_putI (pc := 60) (k := 4) dX1_take_60 lp_X1_25 sh_59 rfl ?_
  have ok8 := okI ok6 59 4 (v := (H.1 55 4)) (by omega) (by omega)
  refine z_vreturn (pc := 63) dX1_take_63 rfl ok8 ?_
  refine ⟨rfl, fun c hc => ?_, ⟨?_, ?_⟩, fun j hj => ⟨?_, ?_⟩, fun j hj => ?_⟩
  · (repeat first | rw [wIf (by omega)] | rw [wA1c (by omega)])
  · (repeat first | rw [wI1] | rw [wI1k (by omega)] | rw [wA1c (by omega)] | rw [wI1c (by omega)])
  · (repeat first | rw [wI1] | rw [wI1k (by omega)] | rw [wA1c (by omega)] | rw [wI1c (by omega)])
  · show (_ : ZH).1 60 j = H.1 56 j; (repeat first | rw [wIf (by omega)] | rw [wA1, zcpy_at hj] | rw [wA1c (by omega)])
  · show (_ : ZH).1 61 j = H.1 57 j; (repeat first | rw [wIf (by omega)] | rw [wA1, zcpy_at hj] | rw [wA1c (by omega)])
  · show (_ : ZH).1 62 j = H.1 58 j; (repeat first | rw [wIf (by omega)] | rw [wA1, zcpy_at (by omega)] | rw [wA1c (by omega)])

theorem c_X1_take_63_59 {d : Nat} {H : ZH} (ok : okZ H)  (hz : 0 ≤ H.1 59 4 ∧ H.1 59 4 ≤ 400) : EvC zX (d + 1) mX1_take [.ref 63, .ref 59] (eh H) (zPv (fun (H1 : ZH) => TakeLw H H1 63 59)) := by
  show _ ∧ Ev zX mX1_take (EvC zX d) (zPv (fun (H1 : ZH) => TakeLw H H1 63 59)) 0 [(0, .ref 63), (1, .ref 59)] [] (eh H)
  refine ⟨Nat.le_of_ble_eq_true rfl, ?_⟩
  refine x_aload_n (pc := 0) dX1_take_0 (List.Mem.head _) ?_
  refine x_aload_n (pc := 1) dX1_take_1 (List.Mem.tail _ (List.Mem.head _)) ?_
  have rd1 := ok.1 59 0
  refine z_getI (pc := 2) (k := 0) (v := H.1 59 0) dX1_take_2 lf_X1_21 sh_59 rfl rfl ?_
  refine z_putI (pc := 5) (k := 0) dX1_take_5 lp_X1_21 sh_63 rfl ?_
  have ok2 := okI ok 63 0 (v := (H.1 59 0)) (by omega) (by omega)
  refine x_aload_n (pc := 8) dX1_take_8 (List.Mem.tail _ (List.Mem.head _)) ?_
  refine z_getR (pc := 9) (k := 1) (r := 60) dX1_take_9 lf_X1_9 sh_59 rfl rf_59_1 ?_
  refine z_iconst (pc := 12) dX1_take_12 ?_
  refine x_aload_n (pc := 13) dX1_take_13 (List.Mem.head _) ?_
  refine z_getR (pc := 14) (k := 1) (r := 64) dX1_take_14 lf_X1_9 sh_63 rfl rf_63_1 ?_
  refine z_iconst (pc := 17) dX1_take_17 ?_
  refine z_bipush (pc := 18) dX1_take_18 bp_12 ?_
  refine z_acpyf (pc := 20) (sp := 0) (dp := 0) (n := 12) (f := H.1 60) (g := H.1 64) dX1_take_20 ml_X1_28 sh_60 sh_64 rfl rfl rfl (by omega) (by omega) (by decide) (by decide) (Nat.le_of_ble_eq_true rfl) (by rw [wIf (by omega)]) (by rw [wIf (by omega)]) ?_
  have ok3 := okCf ok2 64 60 0 0 12 (by rw [wIf (by omega)]) (by rw [wIf (by omega)])
  refine x_aload_n (pc := 23) dX1_take_23 (List.Mem.tail _ (List.Mem.head _)) ?_
  refine z_getR (pc := 24) (k := 2) (r := 61) dX1_take_24 lf_X1_15 sh_59 rfl rf_59_2 ?_
  refine z_iconst (pc := 27) dX1_take_27 ?_
  refine x_aload_n (pc := 28) dX1_take_28 (List.Mem.head _) ?_
  refine z_getR (pc := 29) (k := 2) (r := 65) dX1_take_29 lf_X1_15 sh_63 rfl rf_63_2 ?_
  refine z_iconst (pc := 32) dX1_take_32 ?_
  refine z_bipush (pc := 33) dX1_take_33 bp_12 ?_
  refine z_acpyf (pc := 35) (sp := 0) (dp := 0) (n := 12) (f := H.1 61) (g := H.1 65) dX1_take_35 ml_X1_28 sh_61 sh_65 rfl rfl rfl (by omega) (by omega) (by decide) (by decide) (Nat.le_of_ble_eq_true rfl) (by rw [wA1c (by omega), wIf (by omega)]) (by rw [wA1c (by omega), wIf (by omega)]) ?_
  have ok4 := okCf ok3 65 61 0 0 12 (by rw [wA1c (by omega), wIf (by omega)]) (by rw [wA1c (by omega), wIf (by omega)])
  refine x_aload_n (pc := 38) dX1_take_38 (List.Mem.tail _ (List.Mem.head _)) ?_
  refine z_getR (pc := 39) (k := 3) (r := 62) dX1_take_39 lf_X1_18 sh_59 rfl rf_59_3 ?_
  refine z_iconst (pc := 42) dX1_take_42 ?_
  refine x_aload_n (pc := 43) dX1_take_43 (List.Mem.head _) ?_
  refine z_getR (pc := 44) (k := 3) (r := 66) dX1_take_44 lf_X1_18 sh_63 rfl rf_63_3 ?_
  refine z_iconst (pc := 47) dX1_take_47 ?_
  refine x_aload_n (pc := 48) dX1_take_48 (List.Mem.tail _ (List.Mem.head _)) ?_
  have rd5 := ok.1 59 4
  refine z_getI (pc := 49) (k := 4) (v := H.1 59 4) dX1_take_49 lf_X1_25 sh_59 rfl (by rw [wA1c (by omega), wA1c (by omega), wI1c (by omega)]) ?_
  refine z_acpyf (pc := 52) (sp := 0) (dp := 0) (n := (H.1 59 4).toNat) (f := H.1 62) (g := H.1 66) dX1_take_52 ml_X1_28 sh_62 sh_66 rfl rfl (by omega) (by omega) (by omega) (by decide) (by decide) (Nat.le_of_ble_eq_true rfl) (by rw [wA1c (by omega), wA1c (by omega), wIf (by omega)]) (by rw [wA1c (by omega), wA1c (by omega), wIf (by omega)]) ?_
  have ok6 := okCf ok4 66 62 0 0 ((H.1 59 4).toNat) (by rw [wA1c (by omega), wA1c (by omega), wIf (by omega)]) (by rw [wA1c (by omega), wA1c (by omega), wIf (by omega)])
  refine x_aload_n (pc := 55) dX1_take_55 (List.Mem.head _) ?_
  refine x_aload_n (pc := 56) dX1_take_56 (List.Mem.tail _ (List.Mem.head _)) ?_
  have rd7 := ok.1 59 4
  refine z_getI (pc := 57) (k := 4) (v := H.1 59 4) dX1_take_57 lf_X1_25 sh_59 rfl (by rw [wA1c (by omega), wA1c (by omega), wA1c (by omega), wI1c (by omega)]) ?_
  refine z_putI (pc := 60) (k := 4) dX1_take_60 lp_X1_25 sh_63 rfl ?_
  have ok8 := okI ok6 63 4 (v := (H.1 59 4)) (by omega) (by omega)
  refine z_vreturn (pc := 63) dX1_take_63 rfl ok8 ?_
  refine ⟨rfl, fun c hc => ?_, ⟨?_, ?_⟩, fun j hj => ⟨?_, ?_⟩, fun j hj => ?_⟩
  · (repeat first | rw [wIf (by omega)] | rw [wA1c (by omega)])
  · (repeat first | rw [wI1] | rw [wI1k (by omega)] | rw [wA1c (by omega)] | rw [wI1c (by omega)])
  · (repeat first | rw [wI1] | rw [wI1k (by omega)] | rw [wA1c (by omega)] | rw [wI1c (by omega)])
  · show (_ : ZH).1 64 j = H.1 60 j; (repeat first | rw [wIf (by omega)] | rw [wA1, zcpy_at hj] | rw [wA1c (by omega)])
  · show (_ : ZH).1 65 j = H.1 61 j; (repeat first | rw [wIf (by omega)] | rw [wA1, zcpy_at hj] | rw [wA1c (by omega)])
  · show (_ : ZH).1 66 j = H.1 62 j; (repeat first | rw [wIf (by omega)] | rw [wA1, zcpy_at (by omega)] | rw [wA1c (by omega)])

theorem c_X1_take_67_59 {d : Nat} {H : ZH} (ok : okZ H)  (hz : 0 ≤ H.1 59 4 ∧ H.1 59 4 ≤ 400) : EvC zX (d + 1) mX1_take [.ref 67, .ref 59] (eh H) (zPv (fun (H1 : ZH) => TakeLw H H1 67 59)) := by
  show _ ∧ Ev zX mX1_take (EvC zX d) (zPv (fun (H1 : ZH) => TakeLw H H1 67 59)) 0 [(0, .ref 67), (1, .ref 59)] [] (eh H)
  refine ⟨Nat.le_of_ble_eq_true rfl, ?_⟩
  refine x_aload_n (pc := 0) dX1_take_0 (List.Mem.head _) ?_
  refine x_aload_n (pc := 1) dX1_take_1 (List.Mem.tail _ (List.Mem.head _)) ?_
  have rd1 := ok.1 59 0
  refine z_getI (pc := 2) (k := 0) (v := H.1 59 0) dX1_take_2 lf_X1_21 sh_59 rfl rfl ?_
  refine z_putI (pc := 5) (k := 0) dX1_take_5 lp_X1_21 sh_67 rfl ?_
  have ok2 := okI ok 67 0 (v := (H.1 59 0)) (by omega) (by omega)
  refine x_aload_n (pc := 8) dX1_take_8 (List.Mem.tail _ (List.Mem.head _)) ?_
  refine z_getR (pc := 9) (k := 1) (r := 60) dX1_take_9 lf_X1_9 sh_59 rfl rf_59_1 ?_
  refine z_iconst (pc := 12) dX1_take_12 ?_
  refine x_aload_n (pc := 13) dX1_take_13 (List.Mem.head _) ?_
  refine z_getR (pc := 14) (k := 1) (r := 68) dX1_take_14 lf_X1_9 sh_67 rfl rf_67_1 ?_
  refine z_iconst (pc := 17) dX1_take_17 ?_
  refine z_bipush (pc := 18) dX1_take_18 bp_12 ?_
  refine z_acpyf (pc := 20) (sp := 0) (dp := 0) (n := 12) (f := H.1 60) (g := H.1 68) dX1_take_20 ml_X1_28 sh_60 sh_68 rfl rfl rfl (by omega) (by omega) (by decide) (by decide) (Nat.le_of_ble_eq_true rfl) (by rw [wIf (by omega)]) (by rw [wIf (by omega)]) ?_
  have ok3 := okCf ok2 68 60 0 0 12 (by rw [wIf (by omega)]) (by rw [wIf (by omega)])
  refine x_aload_n (pc := 23) dX1_take_23 (List.Mem.tail _ (List.Mem.head _)) ?_
  refine z_getR (pc := 24) (k := 2) (r := 61) dX1_take_24 lf_X1_15 sh_59 rfl rf_59_2 ?_
  refine z_iconst (pc := 27) dX1_take_27 ?_
  refine x_aload_n (pc := 28) dX1_take_28 (List.Mem.head _) ?_
  refine z_getR (pc := 29) (k := 2) (r := 69) dX1_take_29 lf_X1_15 sh_67 rfl rf_67_2 ?_
  refine z_iconst (pc := 32) dX1_take_32 ?_
  refine z_bipush (pc := 33) dX1_take_33 bp_12 ?_
  refine z_acpyf (pc := 35) (sp := 0) (dp := 0) (n := 12) (f := H.1 61) (g := H.1 69) dX1_take_35 ml_X1_28 sh_61 sh_69 rfl rfl rfl (by omega) (by omega) (by decide) (by decide) (Nat.le_of_ble_eq_true rfl) (by rw [wA1c (by omega), wIf (by omega)]) (by rw [wA1c (by omega), wIf (by omega)]) ?_
  have ok4 := okCf ok3 69 61 0 0 12 (by rw [wA1c (by omega), wIf (by omega)]) (by rw [wA1c (by omega), wIf (by omega)])
  refine x_aload_n (pc := 38) dX1_take_38 (List.Mem.tail _ (List.Mem.head _)) ?_
  refine z_getR (pc := 39) (k := 3) (r := 62) dX1_take_39 lf_X1_18 sh_59 rfl rf_59_3 ?_
  refine z_iconst (pc := 42) dX1_take_42 ?_
  refine x_aload_n (pc := 43) dX1_take_43 (List.Mem.head _) ?_
  refine z_getR (pc := 44) (k := 3) (r := 70) dX1_take_44 lf_X1_18 sh_67 rfl rf_67_3 ?_
  refine z_iconst (pc := 47) dX1_take_47 ?_
  refine x_aload_n (pc := 48) dX1_take_48 (List.Mem.tail _ (List.Mem.head _)) ?_
  have rd5 := ok.1 59 4
  refine z_getI (pc := 49) (k := 4) (v := H.1 59 4) dX1_take_49 lf_X1_25 sh_59 rfl (by rw [wA1c (by omega), wA1c (by omega), wI1c (by omega)]) ?_
  refine z_acpyf (pc := 52) (sp := 0) (dp := 0) (n := (H.1 59 4).toNat) (f := H.1 62) (g := H.1 70) dX1_take_52 ml_X1_28 sh_62 sh_70 rfl rfl (by omega) (by omega) (by omega) (by decide) (by decide) (Nat.le_of_ble_eq_true rfl) (by rw [wA1c (by omega), wA1c (by omega), wIf (by omega)]) (by rw [wA1c (by omega), wA1c (by omega), wIf (by omega)]) ?_
  have ok6 := okCf ok4 70 62 0 0 ((H.1 59 4).toNat) (by rw [wA1c (by omega), wA1c (by omega), wIf (by omega)]) (by rw [wA1c (by omega), wA1c (by omega), wIf (by omega)])
  refine x_aload_n (pc := 55) dX1_take_55 (List.Mem.head _) ?_
  refine x_aload_n (pc := 56) dX1_take_56 (List.Mem.tail _ (List.Mem.head _)) ?_
  have rd7 := ok.1 59 4
  refine z_getI (pc := 57) (k := 4) (v := H.1 59 4) dX1_take_57 lf_X1_25 sh_59 rfl (by rw [wA1c (by omega), wA1c (by omega), wA1c (by omega), wI1c (by omega)]) ?_
  refine z_putI (pc := 60) (k := 4) dX1_take_60 lp_X1_25 sh_67 rfl ?_
  have ok8 := okI ok6 67 4 (v := (H.1 59 4)) (by omega) (by omega)
  refine z_vreturn (pc := 63) dX1_take_63 rfl ok8 ?_
  refine ⟨rfl, fun c hc => ?_, ⟨?_, ?_⟩, fun j hj => ⟨?_, ?_⟩, fun j hj => ?_⟩
  · (repeat first | rw [wIf (by omega)] | rw [wA1c (by omega)])
  · (repeat first | rw [wI1] | rw [wI1k (by omega)] | rw [wA1c (by omega)] | rw [wI1c (by omega)])
  · (repeat first | rw [wI1] | rw [wI1k (by omega)] | rw [wA1c (by omega)] | rw [wI1c (by omega)])
  · show (_ : ZH).1 68 j = H.1 60 j; (repeat first | rw [wIf (by omega)] | rw [wA1, zcpy_at hj] | rw [wA1c (by omega)])
  · show (_ : ZH).1 69 j = H.1 61 j; (repeat first | rw [wIf (by omega)] | rw [wA1, zcpy_at hj] | rw [wA1c (by omega)])
  · show (_ : ZH).1 70 j = H.1 62 j; (repeat first | rw [wIf (by omega)] | rw [wA1, zcpy_at (by omega)] | rw [wA1c (by omega)])

theorem c_X1_take_59_63 {d : Nat} {H : ZH} (ok : okZ H)  (hz : 0 ≤ H.1 63 4 ∧ H.1 63 4 ≤ 400) : EvC zX (d + 1) mX1_take [.ref 59, .ref 63] (eh H) (zPv (fun (H1 : ZH) => TakeLw H H1 59 63)) := by
  show _ ∧ Ev zX mX1_take (EvC zX d) (zPv (fun (H1 : ZH) => TakeLw H H1 59 63)) 0 [(0, .ref 59), (1, .ref 63)] [] (eh H)
  refine ⟨Nat.le_of_ble_eq_true rfl, ?_⟩
  refine x_aload_n (pc := 0) dX1_take_0 (List.Mem.head _) ?_
  refine x_aload_n (pc := 1) dX1_take_1 (List.Mem.tail _ (List.Mem.head _)) ?_
  have rd1 := ok.1 63 0
  refine z_getI (pc := 2) (k := 0) (v := H.1 63 0) dX1_take_2 lf_X1_21 sh_63 rfl rfl ?_
  refine z_putI (pc := 5) (k := 0) dX1_take_5 lp_X1_21 sh_59 rfl ?_
  have ok2 := okI ok 59 0 (v := (H.1 63 0)) (by omega) (by omega)
  refine x_aload_n (pc := 8) dX1_take_8 (List.Mem.tail _ (List.Mem.head _)) ?_
  refine z_getR (pc := 9) (k := 1) (r := 64) dX1_take_9 lf_X1_9 sh_63 rfl rf_63_1 ?_
  refine z_iconst (pc := 12) dX1_take_12 ?_
  refine x_aload_n (pc := 13) dX1_take_13 (List.Mem.head _) ?_
  refine z_getR (pc := 14) (k := 1) (r := 60) dX1_take_14 lf_X1_9 sh_59 rfl rf_59_1 ?_
  refine z_iconst (pc := 17) dX1_take_17 ?_
  refine z_bipush (pc := 18) dX1_take_18 bp_12 ?_
  refine z_acpyf (pc := 20) (sp := 0) (dp := 0) (n := 12) (f := H.1 64) (g := H.1 60) dX1_take_20 ml_X1_28 sh_64 sh_60 rfl rfl rfl (by omega) (by omega) (by decide) (by decide) (Nat.le_of_ble_eq_true rfl) (by rw [wIf (by omega)]) (by rw [wIf (by omega)]) ?_
  have ok3 := okCf ok2 60 64 0 0 12 (by rw [wIf (by omega)]) (by rw [wIf (by omega)])
  refine x_aload_n (pc := 23) dX1_take_23 (List.Mem.tail _ (List.Mem.head _)) ?_
  refine z_getR (pc := 24) (k := 2) (r := 65) dX1_take_24 lf_X1_15 sh_63 rfl rf_63_2 ?_
  refine z_iconst (pc := 27) dX1_take_27 ?_
  refine x_aload_n (pc := 28) dX1_take_28 (List.Mem.head _) ?_
  refine z_getR (pc := 29) (k := 2) (r := 61) dX1_take_29 lf_X1_15 sh_59 rfl rf_59_2 ?_
  refine z_iconst (pc := 32) dX1_take_32 ?_
  refine z_bipush (pc := 33) dX1_take_33 bp_12 ?_
  refine z_acpyf (pc := 35) (sp := 0) (dp := 0) (n := 12) (f := H.1 65) (g := H.1 61) dX1_take_35 ml_X1_28 sh_65 sh_61 rfl rfl rfl (by omega) (by omega) (by decide) (by decide) (Nat.le_of_ble_eq_true rfl) (by rw [wA1c (by omega), wIf (by omega)]) (by rw [wA1c (by omega), wIf (by omega)]) ?_
  have ok4 := okCf ok3 61 65 0 0 12 (by rw [wA1c (by omega), wIf (by omega)]) (by rw [wA1c (by omega), wIf (by omega)])
  refine x_aload_n (pc := 38) dX1_take_38 (List.Mem.tail _ (List.Mem.head _)) ?_
  refine z_getR (pc := 39) (k := 3) (r := 66) dX1_take_39 lf_X1_18 sh_63 rfl rf_63_3 ?_
  refine z_iconst (pc := 42) dX1_take_42 ?_
  refine x_aload_n (pc := 43) dX1_take_43 (List.Mem.head _) ?_
  refine z_getR (pc := 44) (k := 3) (r := 62) dX1_take_44 lf_X1_18 sh_59 rfl rf_59_3 ?_
  refine z_iconst (pc := 47) dX1_take_47 ?_
  refine x_aload_n (pc := 48) dX1_take_48 (List.Mem.tail _ (List.Mem.head _)) ?_
  have rd5 := ok.1 63 4
  refine z_getI (pc := 49) (k := 4) (v := H.1 63 4) dX1_take_49 lf_X1_25 sh_63 rfl (by rw [wA1c (by omega), wA1c (by omega), wI1c (by omega)]) ?_
  refine z_acpyf (pc := 52) (sp := 0) (dp := 0) (n := (H.1 63 4).toNat) (f := H.1 66) (g := H.1 62) dX1_take_52 ml_X1_28 sh_66 sh_62 rfl rfl (by omega) (by omega) (by omega) (by decide) (by decide) (Nat.le_of_ble_eq_true rfl) (by rw [wA1c (by omega), wA1c (by omega), wIf (by omega)]) (by rw [wA1c (by omega), wA1c (by omega), wIf (by omega)]) ?_
  have ok6 := okCf ok4 62 66 0 0 ((H.1 63 4).toNat) (by rw [wA1c (by omega), wA1c (by omega), wIf (by omega)]) (by rw [wA1c (by omega), wA1c (by omega), wIf (by omega)])
  refine x_aload_n (pc := 55) dX1_take_55 (List.Mem.head _) ?_
  refine x_aload_n (pc := 56) dX1_take_56 (List.Mem.tail _ (List.Mem.head _)) ?_
  have rd7 := ok.1 63 4
  refine z_getI (pc := 57) (k := 4) (v := H.1 63 4) dX1_take_57 lf_X1_25 sh_63 rfl (by rw [wA1c (by omega), wA1c (by omega), wA1c (by omega), wI1c (by omega)]) ?_
  refine z_putI (pc := 60) (k := 4) dX1_take_60 lp_X1_25 sh_59 rfl ?_
  have ok8 := okI ok6 59 4 (v := (H.1 63 4)) (by omega) (by omega)
  refine z_vreturn (pc := 63) dX1_take_63 rfl ok8 ?_
  refine ⟨rfl, fun c hc => ?_, ⟨?_, ?_⟩, fun j hj => ⟨?_, ?_⟩, fun j hj => ?_⟩
  · (repeat first | rw [wIf (by omega)] | rw [wA1c (by omega)])
  · (repeat first | rw [wI1] | rw [wI1k (by omega)] | rw [wA1c (by omega)] | rw [wI1c (by omega)])
  · (repeat first | rw [wI1] | rw [wI1k (by omega)] | rw [wA1c (by omega)] | rw [wI1c (by omega)])
  · show (_ : ZH).1 60 j = H.1 64 j; (repeat first | rw [wIf (by omega)] | rw [wA1, zcpy_at hj] | rw [wA1c (by omega)])
  · show (_ : ZH).1 61 j = H.1 65 j; (repeat first | rw [wIf (by omega)] | rw [wA1, zcpy_at hj] | rw [wA1c (by omega)])
  · show (_ : ZH).1 62 j = H.1 66 j; (repeat first | rw [wIf (by omega)] | rw [wA1, zcpy_at (by omega)] | rw [wA1c (by omega)])

theorem c_X1_take_59_67 {d : Nat} {H : ZH} (ok : okZ H)  (hz : 0 ≤ H.1 67 4 ∧ H.1 67 4 ≤ 400) : EvC zX (d + 1) mX1_take [.ref 59, .ref 67] (eh H) (zPv (fun (H1 : ZH) => TakeLw H H1 59 67)) := by
  show _ ∧ Ev zX mX1_take (EvC zX d) (zPv (fun (H1 : ZH) => TakeLw H H1 59 67)) 0 [(0, .ref 59), (1, .ref 67)] [] (eh H)
  refine ⟨Nat.le_of_ble_eq_true rfl, ?_⟩
  refine x_aload_n (pc := 0) dX1_take_0 (List.Mem.head _) ?_
  refine x_aload_n (pc := 1) dX1_take_1 (List.Mem.tail _ (List.Mem.head _)) ?_
  have rd1 := ok.1 67 0
  refine z_getI (pc := 2) (k := 0) (v := H.1 67 0) dX1_take_2 lf_X1_21 sh_67 rfl rfl ?_
  refine z_putI (pc := 5) (k := 0) dX1_take_5 lp_X1_21 sh_59 rfl ?_
  have ok2 := okI ok 59 0 (v := (H.1 67 0)) (by omega) (by omega)
  refine x_aload_n (pc := 8) dX1_take_8 (List.Mem.tail _ (List.Mem.head _)) ?_
  refine z_getR (pc := 9) (k := 1) (r := 68) dX1_take_9 lf_X1_9 sh_67 rfl rf_67_1 ?_
  refine z_iconst (pc := 12) dX1_take_12 ?_
  refine x_aload_n (pc := 13) dX1_take_13 (List.Mem.head _) ?_
  refine z_getR (pc := 14) (k := 1) (r := 60) dX1_take_14 lf_X1_9 sh_59 rfl rf_59_1 ?_
  refine z_iconst (pc := 17) dX1_take_17 ?_
  refine z_bipush (pc := 18) dX1_take_18 bp_12 ?_
  refine z_acpyf (pc := 20) (sp := 0) (dp := 0) (n := 12) (f := H.1 68) (g := H.1 60) dX1_take_20 ml_X1_28 sh_68 sh_60 rfl rfl rfl (by omega) (by omega) (by decide) (by decide) (Nat.le_of_ble_eq_true rfl) (by rw [wIf (by omega)]) (by rw [wIf (by omega)]) ?_
  have ok3 := okCf ok2 60 68 0 0 12 (by rw [wIf (by omega)]) (by rw [wIf (by omega)])
  refine x_aload_n (pc := 23) dX1_take_23 (List.Mem.tail _ (List.Mem.head _)) ?_
  refine z_getR (pc := 24) (k := 2) (r := 69) dX1_take_24 lf_X1_15 sh_67 rfl rf_67_2 ?_
  refine z_iconst (pc := 27) dX1_take_27 ?_
  refine x_aload_n (pc := 28) dX1_take_28 (List.Mem.head _) ?_
  refine z_getR (pc := 29) (k := 2) (r := 61) dX1_take_29 lf_X1_15 sh_59 rfl rf_59_2 ?_
  refine z_iconst (pc := 32) dX1_take_32 ?_
  refine z_bipush (pc := 33) dX1_take_33 bp_12 ?_
  refine z_acpyf (pc := 35) (sp := 0) (dp := 0) (n := 12) (f := H.1 69) (g := H.1 61) dX1_take_35 ml_X1_28 sh_69 sh_61 rfl rfl rfl (by omega) (by omega) (by decide) (by decide) (Nat.le_of_ble_eq_true rfl) (by rw [wA1c (by omega), wIf (by omega)]) (by rw [wA1c (by omega), wIf (by omega)]) ?_
  have ok4 := okCf ok3 61 69 0 0 12 (by rw [wA1c (by omega), wIf (by omega)]) (by rw [wA1c (by omega), wIf (by omega)])
  refine x_aload_n (pc := 38) dX1_take_38 (List.Mem.tail _ (List.Mem.head _)) ?_
  refine z_getR (pc := 39) (k := 3) (r := 70) dX1_take_39 lf_X1_18 sh_67 rfl rf_67_3 ?_
  refine z_iconst (pc := 42) dX1_take_42 ?_
  refine x_aload_n (pc := 43) dX1_take_43 (List.Mem.head _) ?_
  refine z_getR (pc := 44) (k := 3) (r := 62) dX1_take_44 lf_X1_18 sh_59 rfl rf_59_3 ?_
  refine z_iconst (pc := 47) dX1_take_47 ?_
  refine x_aload_n (pc := 48) dX1_take_48 (List.Mem.tail _ (List.Mem.head _)) ?_
  have rd5 := ok.1 67 4
  refine z_getI (pc := 49) (k := 4) (v := H.1 67 4) dX1_take_49 lf_X1_25 sh_67 rfl (by rw [wA1c (by omega), wA1c (by omega), wI1c (by omega)]) ?_
  refine z_acpyf (pc := 52) (sp := 0) (dp := 0) (n := (H.1 67 4).toNat) (f := H.1 70) (g := H.1 62) dX1_take_52 ml_X1_28 sh_70 sh_62 rfl rfl (by omega) (by omega) (by omega) (by decide) (by decide) (Nat.le_of_ble_eq_true rfl) (by rw [wA1c (by omega), wA1c (by omega), wIf (by omega)]) (by rw [wA1c (by omega), wA1c (by omega), wIf (by omega)]) ?_
  have ok6 := okCf ok4 62 70 0 0 ((H.1 67 4).toNat) (by rw [wA1c (by omega), wA1c (by omega), wIf (by omega)]) (by rw [wA1c (by omega), wA1c (by omega), wIf (by omega)])
  refine x_aload_n (pc := 55) dX1_take_55 (List.Mem.head _) ?_
  refine x_aload_n (pc := 56) dX1_take_56 (List.Mem.tail _ (List.Mem.head _)) ?_
  have rd7 := ok.1 67 4
  refine z_getI (pc := 57) (k := 4) (v := H.1 67 4) dX1_take_57 lf_X1_25 sh_67 rfl (by rw [wA1c (by omega), wA1c (by omega), wA1c (by omega), wI1c (by omega)]) ?_
  refine z_putI (pc := 60) (k := 4) dX1_take_60 lp_X1_25 sh_59 rfl ?_
  have ok8 := okI ok6 59 4 (v := (H.1 67 4)) (by omega) (by omega)
  refine z_vreturn (pc := 63) dX1_take_63 rfl ok8 ?_
  refine ⟨rfl, fun c hc => ?_, ⟨?_, ?_⟩, fun j hj => ⟨?_, ?_⟩, fun j hj => ?_⟩
  · (repeat first | rw [wIf (by omega)] | rw [wA1c (by omega)])
  · (repeat first | rw [wI1] | rw [wI1k (by omega)] | rw [wA1c (by omega)] | rw [wI1c (by omega)])
  · (repeat first | rw [wI1] | rw [wI1k (by omega)] | rw [wA1c (by omega)] | rw [wI1c (by omega)])
  · show (_ : ZH).1 60 j = H.1 68 j; (repeat first | rw [wIf (by omega)] | rw [wA1, zcpy_at hj] | rw [wA1c (by omega)])
  · show (_ : ZH).1 61 j = H.1 69 j; (repeat first | rw [wIf (by omega)] | rw [wA1, zcpy_at hj] | rw [wA1c (by omega)])
  · show (_ : ZH).1 62 j = H.1 70 j; (repeat first | rw [wIf (by omega)] | rw [wA1, zcpy_at (by omega)] | rw [wA1c (by omega)])

theorem c_X2_take_80_71 {d : Nat} {H : ZH} (ok : okZ H)  : EvC zX (d + 1) mX2_take [.ref 80, .ref 71] (eh H) (zPv (fun (H1 : ZH) => TakePl H H1 80 71)) := by
  show _ ∧ Ev zX mX2_take (EvC zX d) (zPv (fun (H1 : ZH) => TakePl H H1 80 71)) 0 [(0, .ref 80), (1, .ref 71)] [] (eh H)
  refine ⟨Nat.le_of_ble_eq_true rfl, ?_⟩
  refine x_aload_n (pc := 0) dX2_take_0 (List.Mem.head _) ?_
  refine x_aload_n (pc := 1) dX2_take_1 (List.Mem.tail _ (List.Mem.head _)) ?_
  have rd1 := ok.1 71 0
  refine z_getI (pc := 2) (k := 0) (v := H.1 71 0) dX2_take_2 lf_X2_36 sh_71 rfl rfl ?_
  refine z_putI (pc := 5) (k := 0) dX2_take_5 lp_X2_36 sh_80 rfl ?_
  have ok2 := okI ok 80 0 (v := (H.1 71 0)) (by omega) (by omega)
  refine x_aload_n (pc := 8) dX2_take_8 (List.Mem.tail _ (List.Mem.head _)) ?_
  refine z_getR (pc := 9) (k := 1) (r := 72) dX2_take_9 lf_X2_9 sh_71 rfl rf_71_1 ?_
  refine z_iconst (pc := 12) dX2_take_12 ?_
  refine x_aload_n (pc := 13) dX2_take_13 (List.Mem.head _) ?_
  refine z_getR (pc := 14) (k := 1) (r := 81) dX2_take_14 lf_X2_9 sh_80 rfl rf_80_1 ?_
  refine z_iconst (pc := 17) dX2_take_17 ?_
  refine z_bipush (pc := 18) dX2_take_18 bp_12 ?_
  refine z_acpyf (pc := 20) (sp := 0) (dp := 0) (n := 12) (f := H.1 72) (g := H.1 81) dX2_take_20 ml_X2_40 sh_72 sh_81 rfl rfl rfl (by omega) (by omega) (by decide) (by decide) (Nat.le_of_ble_eq_true rfl) (by rw [wIf (by omega)]) (by rw [wIf (by omega)]) ?_
  have ok3 := okCf ok2 81 72 0 0 12 (by rw [wIf (by omega)]) (by rw [wIf (by omega)])
  refine x_aload_n (pc := 23) dX2_take_23 (List.Mem.tail _ (List.Mem.head _)) ?_
  refine z_getR (pc := 24) (k := 2) (r := 73) dX2_take_24 lf_X2_15 sh_71 rfl rf_71_2 ?_
  refine z_iconst (pc := 27) dX2_take_27 ?_
  refine x_aload_n (pc := 28) dX2_take_28 (List.Mem.head _) ?_
  refine z_getR (pc := 29) (k := 2) (r := 82) dX2_take_29 lf_X2_15 sh_80 rfl rf_80_2 ?_
  refine z_iconst (pc := 32) dX2_take_32 ?_
  refine z_bipush (pc := 33) dX2_take_33 bp_12 ?_
  refine z_acpyf (pc := 35) (sp := 0) (dp := 0) (n := 12) (f := H.1 73) (g := H.1 82) dX2_take_35 ml_X2_40 sh_73 sh_82 rfl rfl rfl (by omega) (by omega) (by decide) (by decide) (Nat.le_of_ble_eq_true rfl) (by rw [wA1c (by omega), wIf (by omega)]) (by rw [wA1c (by omega), wIf (by omega)]) ?_
  have ok4 := okCf ok3 82 73 0 0 12 (by rw [wA1c (by omega), wIf (by omega)]) (by rw [wA1c (by omega), wIf (by omega)])
  refine x_aload_n (pc := 38) dX2_take_38 (List.Mem.tail _ (List.Mem.head _)) ?_
  refine z_getR (pc := 39) (k := 3) (r := 74) dX2_take_39 lf_X2_18 sh_71 rfl rf_71_3 ?_
  refine z_iconst (pc := 42) dX2_take_42 ?_
  refine x_aload_n (pc := 43) dX2_take_43 (List.Mem.head _) ?_
  refine z_getR (pc := 44) (k := 3) (r := 83) dX2_take_44 lf_X2_18 sh_80 rfl rf_80_3 ?_
  refine z_iconst (pc := 47) dX2_take_47 ?_
  refine z_bipush (pc := 48) dX2_take_48 bp_12 ?_
  refine z_acpyf (pc := 50) (sp := 0) (dp := 0) (n := 12) (f := H.1 74) (g := H.1 83) dX2_take_50 ml_X2_40 sh_74 sh_83 rfl rfl rfl (by omega) (by omega) (by decide) (by decide) (Nat.le_of_ble_eq_true rfl) (by rw [wA1c (by omega), wA1c (by omega), wIf (by omega)]) (by rw [wA1c (by omega), wA1c (by omega), wIf (by omega)]) ?_
  have ok5 := okCf ok4 83 74 0 0 12 (by rw [wA1c (by omega), wA1c (by omega), wIf (by omega)]) (by rw [wA1c (by omega), wA1c (by omega), wIf (by omega)])
  refine x_aload_n (pc := 53) dX2_take_53 (List.Mem.tail _ (List.Mem.head _)) ?_
  refine z_getR (pc := 54) (k := 4) (r := 75) dX2_take_54 lf_X2_21 sh_71 rfl rf_71_4 ?_
  refine z_iconst (pc := 57) dX2_take_57 ?_
  refine x_aload_n (pc := 58) dX2_take_58 (List.Mem.head _) ?_
  refine z_getR (pc := 59) (k := 4) (r := 84) dX2_take_59 lf_X2_21 sh_80 rfl rf_80_4 ?_
  refine z_iconst (pc := 62) dX2_take_62 ?_
  refine z_bipush (pc := 63) dX2_take_63 bp_12 ?_
  refine z_acpyf (pc := 65) (sp := 0) (dp := 0) (n := 12) (f := H.1 75) (g := H.1 84) dX2_take_65 ml_X2_40 sh_75 sh_84 rfl rfl rfl (by omega) (by omega) (by decide) (by decide) (Nat.le_of_ble_eq_true rfl) (by rw [wA1c (by omega), wA1c (by omega), wA1c (by omega), wIf (by omega)]) (by rw [wA1c (by omega), wA1c (by omega), wA1c (by omega), wIf (by omega)]) ?_
  have ok6 := okCf ok5 84 75 0 0 12 (by rw [wA1c (by omega), wA1c (by omega), wA1c (by omega), wIf (by omega)]) (by rw [wA1c (by omega), wA1c (by omega), wA1c (by omega), wIf (by omega)])
  refine x_aload_n (pc := 68) dX2_take_68 (List.Mem.tail _ (List.Mem.head _)) ?_
  refine z_getR (pc := 69) (k := 5) (r := 76) dX2_take_69 lf_X2_24 sh_71 rfl rf_71_5 ?_
  refine z_iconst (pc := 72) dX2_take_72 ?_
  refine x_aload_n (pc := 73) dX2_take_73 (List.Mem.head _) ?_
  refine z_getR (pc := 74) (k := 5) (r := 85) dX2_take_74 lf_X2_24 sh_80 rfl rf_80_5 ?_
  refine z_iconst (pc := 77) dX2_take_77 ?_
  refine z_bipush (pc := 78) dX2_take_78 bp_12 ?_
  refine z_acpyf (pc := 80) (sp := 0) (dp := 0) (n := 12) (f := H.1 76) (g := H.1 85) dX2_take_80 ml_X2_40 sh_76 sh_85 rfl rfl rfl (by omega) (by omega) (by decide) (by decide) (Nat.le_of_ble_eq_true rfl) (by rw [wA1c (by omega), wA1c (by omega), wA1c (by omega), wA1c (by omega), wIf (by omega)]) (by rw [wA1c (by omega), wA1c (by omega), wA1c (by omega), wA1c (by omega), wIf (by omega)]) ?_
  have ok7 := okCf ok6 85 76 0 0 12 (by rw [wA1c (by omega), wA1c (by omega), wA1c (by omega), wA1c (by omega), wIf (by omega)]) (by rw [wA1c (by omega), wA1c (by omega), wA1c (by omega), wA1c (by omega), wIf (by omega)])
  refine x_aload_n (pc := 83) dX2_take_83 (List.Mem.tail _ (List.Mem.head _)) ?_
  refine z_getR (pc := 84) (k := 6) (r := 77) dX2_take_84 lf_X2_27 sh_71 rfl rf_71_6 ?_
  refine z_iconst (pc := 87) dX2_take_87 ?_
  refine x_aload_n (pc := 88) dX2_take_88 (List.Mem.head _) ?_
  refine z_getR (pc := 89) (k := 6) (r := 86) dX2_take_89 lf_X2_27 sh_80 rfl rf_80_6 ?_
  refine z_iconst (pc := 92) dX2_take_92 ?_
  refine z_bipush (pc := 93) dX2_take_93 bp_12 ?_
  refine z_acpyf (pc := 95) (sp := 0) (dp := 0) (n := 12) (f := H.1 77) (g := H.1 86) dX2_take_95 ml_X2_40 sh_77 sh_86 rfl rfl rfl (by omega) (by omega) (by decide) (by decide) (Nat.le_of_ble_eq_true rfl) (by rw [wA1c (by omega), wA1c (by omega), wA1c (by omega), wA1c (by omega), wA1c (by omega), wIf (by omega)]) (by rw [wA1c (by omega), wA1c (by omega), wA1c (by omega), wA1c (by omega), wA1c (by omega), wIf (by omega)]) ?_
  have ok8 := okCf ok7 86 77 0 0 12 (by rw [wA1c (by omega), wA1c (by omega), wA1c (by omega), wA1c (by omega), wA1c (by omega), wIf (by omega)]) (by rw [wA1c (by omega), wA1c (by omega), wA1c (by omega), wA1c (by omega), wA1c (by omega), wIf (by omega)])
  refine x_aload_n (pc := 98) dX2_take_98 (List.Mem.tail _ (List.Mem.head _)) ?_
  refine z_getR (pc := 99) (k := 7) (r := 78) dX2_take_99 lf_X2_30 sh_71 rfl rf_71_7 ?_
  refine z_iconst (pc := 102) dX2_take_102 ?_
  refine x_aload_n (pc := 103) dX2_take_103 (List.Mem.head _) ?_
  refine z_getR (pc := 104) (k := 7) (r := 87) dX2_take_104 lf_X2_30 sh_80 rfl rf_80_7 ?_
  refine z_iconst (pc := 107) dX2_take_107 ?_
  refine z_iconst (pc := 108) dX2_take_108 ?_
  refine z_acpyf (pc := 109) (sp := 0) (dp := 0) (n := 4) (f := H.1 78) (g := H.1 87) dX2_take_109 ml_X2_40 sh_78 sh_87 rfl rfl rfl (by omega) (by omega) (by decide) (by decide) (Nat.le_of_ble_eq_true rfl) (by rw [wA1c (by omega), wA1c (by omega), wA1c (by omega), wA1c (by omega), wA1c (by omega), wA1c (by omega), wIf (by omega)]) (by rw [wA1c (by omega), wA1c (by omega), wA1c (by omega), wA1c (by omega), wA1c (by omega), wA1c (by omega), wIf (by omega)]) ?_
  have ok9 := okCf ok8 87 78 0 0 4 (by rw [wA1c (by omega), wA1c (by omega), wA1c (by omega), wA1c (by omega), wA1c (by omega), wA1c (by omega), wIf (by omega)]) (by rw [wA1c (by omega), wA1c (by omega), wA1c (by omega), wA1c (by omega), wA1c (by omega), wA1c (by omega), wIf (by omega)])
  refine x_aload_n (pc := 112) dX2_take_112 (List.Mem.tail _ (List.Mem.head _)) ?_
  refine z_getR (pc := 113) (k := 8) (r := 79) dX2_take_113 lf_X2_33 sh_71 rfl rf_71_8 ?_
  refine z_iconst (pc := 116) dX2_take_116 ?_
  refine x_aload_n (pc := 117) dX2_take_117 (List.Mem.head _) ?_
  refine z_getR (pc := 118) (k := 8) (r := 88) dX2_take_118 lf_X2_33 sh_80 rfl rf_80_8 ?_
  refine z_iconst (pc := 121) dX2_take_121 ?_
  refine z_iconst (pc := 122) dX2_take_122 ?_
  refine z_acpyf (pc := 123) (sp := 0) (dp := 0) (n := 4) (f := H.1 79) (g := H.1 88) dX2_take_123 ml_X2_40 sh_79 sh_88 rfl rfl rfl (by omega) (by omega) (by decide) (by decide) (Nat.le_of_ble_eq_true rfl) (by rw [wA1c (by omega), wA1c (by omega), wA1c (by omega), wA1c (by omega), wA1c (by omega), wA1c (by omega), wA1c (by omega), wIf (by omega)]) (by rw [wA1c (by omega), wA1c (by omega), wA1c (by omega), wA1c (by omega), wA1c (by omega), wA1c (by omega), wA1c (by omega), wIf (by omega)]) ?_
  have ok10 := okCf ok9 88 79 0 0 4 (by rw [wA1c (by omega), wA1c (by omega), wA1c (by omega), wA1c (by omega), wA1c (by omega), wA1c (by omega), wA1c (by omega), wIf (by omega)]) (by rw [wA1c (by omega), wA1c (by omega), wA1c (by omega), wA1c (by omega), wA1c (by omega), wA1c (by omega), wA1c (by omega), wIf (by omega)])
  refine z_vreturn (pc := 126) dX2_take_126 rfl ok10 ?_
  refine ⟨rfl, fun c hc => ?_, ?_, fun i j h1 h2 h3 => ?_, fun i j h1 h2 h3 => ?_⟩
  · (repeat first | rw [wIf (by omega)] | rw [wA1c (by omega)])
  · (repeat first | rw [wI1] | rw [wI1k (by omega)] | rw [wA1c (by omega)] | rw [wI1c (by omega)])
  · rcases (show i = 1 ∨ i = 2 ∨ i = 3 ∨ i = 4 ∨ i = 5 ∨ i = 6 by omega) with rfl | rfl | rfl | rfl | rfl | rfl
    · show (_ : ZH).1 81 j = H.1 72 j; (repeat first | rw [wIf (by omega)] | rw [wA1, zcpy_at h3] | rw [wA1c (by omega)])
    · show (_ : ZH).1 82 j = H.1 73 j; (repeat first | rw [wIf (by omega)] | rw [wA1, zcpy_at h3] | rw [wA1c (by omega)])
    · show (_ : ZH).1 83 j = H.1 74 j; (repeat first | rw [wIf (by omega)] | rw [wA1, zcpy_at h3] | rw [wA1c (by omega)])
    · show (_ : ZH).1 84 j = H.1 75 j; (repeat first | rw [wIf (by omega)] | rw [wA1, zcpy_at h3] | rw [wA1c (by omega)])
    · show (_ : ZH).1 85 j = H.1 76 j; (repeat first | rw [wIf (by omega)] | rw [wA1, zcpy_at h3] | rw [wA1c (by omega)])
    · show (_ : ZH).1 86 j = H.1 77 j; (repeat first | rw [wIf (by omega)] | rw [wA1, zcpy_at h3] | rw [wA1c (by omega)])
  · rcases (show i = 7 ∨ i = 8 by omega) with rfl | rfl
    · show (_ : ZH).1 87 j = H.1 78 j; (repeat first | rw [wIf (by omega)] | rw [wA1, zcpy_at h3] | rw [wA1c (by omega)])
    · show (_ : ZH).1 88 j = H.1 79 j; (repeat first | rw [wIf (by omega)] | rw [wA1, zcpy_at h3] | rw [wA1c (by omega)])

theorem c_X2_take_89_71 {d : Nat} {H : ZH} (ok : okZ H)  : EvC zX (d + 1) mX2_take [.ref 89, .ref 71] (eh H) (zPv (fun (H1 : ZH) => TakePl H H1 89 71)) := by
  show _ ∧ Ev zX mX2_take (EvC zX d) (zPv (fun (H1 : ZH) => TakePl H H1 89 71)) 0 [(0, .ref 89), (1, .ref 71)] [] (eh H)
  refine ⟨Nat.le_of_ble_eq_true rfl, ?_⟩
  refine x_aload_n (pc := 0) dX2_take_0 (List.Mem.head _) ?_
  refine x_aload_n (pc := 1) dX2_take_1 (List.Mem.tail _ (List.Mem.head _)) ?_
  have rd1 := ok.1 71 0
  refine z_getI (pc := 2) (k := 0) (v := H.1 71 0) dX2_take_2 lf_X2_36 sh_71 rfl rfl ?_
  refine z_putI (pc := 5) (k := 0) dX2_take_5 lp_X2_36 sh_89 rfl ?_
  have ok2 := okI ok 89 0 (v := (H.1 71 0)) (by omega) (by omega)
  refine x_aload_n (pc := 8) dX2_take_8 (List.Mem.tail _ (List.Mem.head _)) ?_
  refine z_getR (pc := 9) (k := 1) (r := 72) dX2_take_9 lf_X2_9 sh_71 rfl rf_71_1 ?_
  refine z_iconst (pc := 12) dX2_take_12 ?_
  refine x_aload_n (pc := 13) dX2_take_13 (List.Mem.head _) ?_
  refine z_getR (pc := 14) (k := 1) (r := 90) dX2_take_14 lf_X2_9 sh_89 rfl rf_89_1 ?_
  refine z_iconst (pc := 17) dX2_take_17 ?_
  refine z_bipush (pc := 18) dX2_take_18 bp_12 ?_
  refine z_acpyf (pc := 20) (sp := 0) (dp := 0) (n := 12) (f := H.1 72) (g := H.1 90) dX2_take_20 ml_X2_40 sh_72 sh_90 rfl rfl rfl (by omega) (by omega) (by decide) (by decide) (Nat.le_of_ble_eq_true rfl) (by rw [wIf (by omega)]) (by rw [wIf (by omega)]) ?_
  have ok3 := okCf ok2 90 72 0 0 12 (by rw [wIf (by omega)]) (by rw [wIf (by omega)])
  refine x_aload_n (pc := 23) dX2_take_23 (List.Mem.tail _ (List.Mem.head _)) ?_
  refine z_getR (pc := 24) (k := 2) (r := 73) dX2_take_24 lf_X2_15 sh_71 rfl rf_71_2 ?_
  refine z_iconst (pc := 27) dX2_take_27 ?_
  refine x_aload_n (pc := 28) dX2_take_28 (List.Mem.head _) ?_
  refine z_getR (pc := 29) (k := 2) (r := 91) dX2_take_29 lf_X2_15 sh_89 rfl rf_89_2 ?_
  refine z_iconst (pc := 32) dX2_take_32 ?_
  refine z_bipush (pc := 33) dX2_take_33 bp_12 ?_
  refine z_acpyf (pc := 35) (sp := 0) (dp := 0) (n := 12) (f := H.1 73) (g := H.1 91) dX2_take_35 ml_X2_40 sh_73 sh_91 rfl rfl rfl (by omega) (by omega) (by decide) (by decide) (Nat.le_of_ble_eq_true rfl) (by rw [wA1c (by omega), wIf (by omega)]) (by rw [wA1c (by omega), wIf (by omega)]) ?_
  have ok4 := okCf ok3 91 73 0 0 12 (by rw [wA1c (by omega), wIf (by omega)]) (by rw [wA1c (by omega), wIf (by omega)])
  refine x_aload_n (pc := 38) dX2_take_38 (List.Mem.tail _ (List.Mem.head _)) ?_
  refine z_getR (pc := 39) (k := 3) (r := 74) dX2_take_39 lf_X2_18 sh_71 rfl rf_71_3 ?_
  refine z_iconst (pc := 42) dX2_take_42 ?_
  refine x_aload_n (pc := 43) dX2_take_43 (List.Mem.head _) ?_
  refine z_getR (pc := 44) (k := 3) (r := 92) dX2_take_44 lf_X2_18 sh_89 rfl rf_89_3 ?_
  refine z_iconst (pc := 47) dX2_take_47 ?_
  refine z_bipush (pc := 48) dX2_take_48 bp_12 ?_
  refine z_acpyf (pc := 50) (sp := 0) (dp := 0) (n := 12) (f := H.1 74) (g := H.1 92) dX2_take_50 ml_X2_40 sh_74 sh_92 rfl rfl rfl (by omega) (by omega) (by decide) (by decide) (Nat.le_of_ble_eq_true rfl) (by rw [wA1c (by omega), wA1c (by omega), wIf (by omega)]) (by rw [wA1c (by omega), wA1c (by omega), wIf (by omega)]) ?_
  have ok5 := okCf ok4 92 74 0 0 12 (by rw [wA1c (by omega), wA1c (by omega), wIf (by omega)]) (by rw [wA1c (by omega), wA1c (by omega), wIf (by omega)])
  refine x_aload_n (pc := 53) dX2_take_53 (List.Mem.tail _ (List.Mem.head _)) ?_
  refine z_getR (pc := 54) (k := 4) (r := 75) dX2_take_54 lf_X2_21 sh_71 rfl rf_71_4 ?_
  refine z_iconst (pc := 57) dX2_take_57 ?_
  refine x_aload_n (pc := 58) dX2_take_58 (List.Mem.head _) ?_
  refine z_getR (pc := 59) (k := 4) (r := 93) dX2_take_59 lf_X2_21 sh_89 rfl rf_89_4 ?_
  refine z_iconst (pc := 62) dX2_take_62 ?_
  refine z_bipush (pc := 63) dX2_take_63 bp_12 ?_
  refine z_acpyf (pc := 65) (sp := 0) (dp := 0) (n := 12) (f := H.1 75) (g := H.1 93) dX2_take_65 ml_X2_40 sh_75 sh_93 rfl rfl rfl (by omega) (by omega) (by decide) (by decide) (Nat.le_of_ble_eq_true rfl) (by rw [wA1c (by omega), wA1c (by omega), wA1c (by omega), wIf (by omega)]) (by rw [wA1c (by omega), wA1c (by omega), wA1c (by omega), wIf (by omega)]) ?_
  have ok6 := okCf ok5 93 75 0 0 12 (by rw [wA1c (by omega), wA1c (by omega), wA1c (by omega), wIf (by omega)]) (by rw [wA1c (by omega), wA1c (by omega), wA1c (by omega), wIf (by omega)])
  refine x_aload_n (pc := 68) dX2_take_68 (List.Mem.tail _ (List.Mem.head _)) ?_
  refine z_getR (pc := 69) (k := 5) (r := 76) dX2_take_69 lf_X2_24 sh_71 rfl rf_71_5 ?_
  refine z_iconst (pc := 72) dX2_take_72 ?_
  refine x_aload_n (pc := 73) dX2_take_73 (List.Mem.head _) ?_
  refine z_getR (pc := 74) (k := 5) (r := 94) dX2_take_74 lf_X2_24 sh_89 rfl rf_89_5 ?_
  refine z_iconst (pc := 77) dX2_take_77 ?_
  refine z_bipush (pc := 78) dX2_take_78 bp_12 ?_
  refine z_acpyf (pc := 80) (sp := 0) (dp := 0) (n := 12) (f := H.1 76) (g := H.1 94) dX2_take_80 ml_X2_40 sh_76 sh_94 rfl rfl rfl (by omega) (by omega) (by decide) (by decide) (Nat.le_of_ble_eq_true rfl) (by rw [wA1c (by omega), wA1c (by omega), wA1c (by omega), wA1c (by omega), wIf (by omega)]) (by rw [wA1c (by omega), wA1c (by omega), wA1c (by omega), wA1c (by omega), wIf (by omega)]) ?_
  have ok7 := okCf ok6 94 76 0 0 12 (by rw [wA1c (by omega), wA1c (by omega), wA1c (by omega), wA1c (by omega), wIf (by omega)]) (by rw [wA1c (by omega), wA1c (by omega), wA1c (by omega), wA1c (by omega), wIf (by omega)])
  refine x_aload_n (pc := 83) dX2_take_83 (List.Mem.tail _ (List.Mem.head _)) ?_
  refine z_getR (pc := 84) (k := 6) (r := 77) dX2_take_84 lf_X2_27 sh_71 rfl rf_71_6 ?_
  refine z_iconst (pc := 87) dX2_take_87 ?_
  refine x_aload_n (pc := 88) dX2_take_88 (List.Mem.head _) ?_
  refine z_getR (pc := 89) (k := 6) (r := 95) dX2_take_89 lf_X2_27 sh_89 rfl rf_89_6 ?_
  refine z_iconst (pc := 92) dX2_take_92 ?_
  refine z_bipush (pc := 93) dX2_take_93 bp_12 ?_
  refine z_acpyf (pc := 95) (sp := 0) (dp := 0) (n := 12) (f := H.1 77) (g := H.1 95) dX2_take_95 ml_X2_40 sh_77 sh_95 rfl rfl rfl (by omega) (by omega) (by decide) (by decide) (Nat.le_of_ble_eq_true rfl) (by rw [wA1c (by omega), wA1c (by omega), wA1c (by omega), wA1c (by omega), wA1c (by omega), wIf (by omega)]) (by rw [wA1c (by omega), wA1c (by omega), wA1c (by omega), wA1c (by omega), wA1c (by omega), wIf (by omega)]) ?_
  have ok8 := okCf ok7 95 77 0 0 12 (by rw [wA1c (by omega), wA1c (by omega), wA1c (by omega), wA1c (by omega), wA1c (by omega), wIf (by omega)]) (by rw [wA1c (by omega), wA1c (by omega), wA1c (by omega), wA1c (by omega), wA1c (by omega), wIf (by omega)])
  refine x_aload_n (pc := 98) dX2_take_98 (List.Mem.tail _ (List.Mem.head _)) ?_
  refine z_getR (pc := 99) (k := 7) (r := 78) dX2_take_99 lf_X2_30 sh_71 rfl rf_71_7 ?_
  refine z_iconst (pc := 102) dX2_take_102 ?_
  refine x_aload_n (pc := 103) dX2_take_103 (List.Mem.head _) ?_
  refine z_getR (pc := 104) (k := 7) (r := 96) dX2_take_104 lf_X2_30 sh_89 rfl rf_89_7 ?_
  refine z_iconst (pc := 107) dX2_take_107 ?_
  refine z_iconst (pc := 108) dX2_take_108 ?_
  refine z_acpyf (pc := 109) (sp := 0) (dp := 0) (n := 4) (f := H.1 78) (g := H.1 96) dX2_take_109 ml_X2_40 sh_78 sh_96 rfl rfl rfl (by omega) (by omega) (by decide) (by decide) (Nat.le_of_ble_eq_true rfl) (by rw [wA1c (by omega), wA1c (by omega), wA1c (by omega), wA1c (by omega), wA1c (by omega), wA1c (by omega), wIf (by omega)]) (by rw [wA1c (by omega), wA1c (by omega), wA1c (by omega), wA1c (by omega), wA1c (by omega), wA1c (by omega), wIf (by omega)]) ?_
  have ok9 := okCf ok8 96 78 0 0 4 (by rw [wA1c (by omega), wA1c (by omega), wA1c (by omega), wA1c (by omega), wA1c (by omega), wA1c (by omega), wIf (by omega)]) (by rw [wA1c (by omega), wA1c (by omega), wA1c (by omega), wA1c (by omega), wA1c (by omega), wA1c (by omega), wIf (by omega)])
  refine x_aload_n (pc := 112) dX2_take_112 (List.Mem.tail _ (List.Mem.head _)) ?_
  refine z_getR (pc := 113) (k := 8) (r := 79) dX2_take_113 lf_X2_33 sh_71 rfl rf_71_8 ?_
  refine z_iconst (pc := 116) dX2_take_116 ?_
  refine x_aload_n (pc := 117) dX2_take_117 (List.Mem.head _) ?_
  refine z_getR (pc := 118) (k := 8) (r := 97) dX2_take_118 lf_X2_33 sh_89 rfl rf_89_8 ?_
  refine z_iconst (pc := 121) dX2_take_121 ?_
  refine z_iconst (pc := 122) dX2_take_122 ?_
  refine z_acpyf (pc := 123) (sp := 0) (dp := 0) (n := 4) (f := H.1 79) (g := H.1 97) dX2_take_123 ml_X2_40 sh_79 sh_97 rfl rfl rfl (by omega) (by omega) (by decide) (by decide) (Nat.le_of_ble_eq_true rfl) (by rw [wA1c (by omega), wA1c (by omega), wA1c (by omega), wA1c (by omega), wA1c (by omega), wA1c (by omega), wA1c (by omega), wIf (by omega)]) (by rw [wA1c (by omega), wA1c (by omega), wA1c (by omega), wA1c (by omega), wA1c (by omega), wA1c (by omega), wA1c (by omega), wIf (by omega)]) ?_
  have ok10 := okCf ok9 97 79 0 0 4 (by rw [wA1c (by omega), wA1c (by omega), wA1c (by omega), wA1c (by omega), wA1c (by omega), wA1c (by omega), wA1c (by omega), wIf (by omega)]) (by rw [wA1c (by omega), wA1c (by omega), wA1c (by omega), wA1c (by omega), wA1c (by omega), wA1c (by omega), wA1c (by omega), wIf (by omega)])
  refine z_vreturn (pc := 126) dX2_take_126 rfl ok10 ?_
  refine ⟨rfl, fun c hc => ?_, ?_, fun i j h1 h2 h3 => ?_, fun i j h1 h2 h3 => ?_⟩
  · (repeat first | rw [wIf (by omega)] | rw [wA1c (by omega)])
  · (repeat first | rw [wI1] | rw [wI1k (by omega)] | rw [wA1c (by omega)] | rw [wI1c (by omega)])
  · rcases (show i = 1 ∨ i = 2 ∨ i = 3 ∨ i = 4 ∨ i = 5 ∨ i = 6 by omega) with rfl | rfl | rfl | rfl | rfl | rfl
    · show (_ : ZH).1 90 j = H.1 72 j; (repeat first | rw [wIf (by omega)] | rw [wA1, zcpy_at h3] | rw [wA1c (by omega)])
    · show (_ : ZH).1 91 j = H.1 73 j; (repeat first | rw [wIf (by omega)] | rw [wA1, zcpy_at h3] | rw [wA1c (by omega)])
    · show (_ : ZH).1 92 j = H.1 74 j; (repeat first | rw [wIf (by omega)] | rw [wA1, zcpy_at h3] | rw [wA1c (by omega)])
    · show (_ : ZH).1 93 j = H.1 75 j; (repeat first | rw [wIf (by omega)] | rw [wA1, zcpy_at h3] | rw [wA1c (by omega)])
    · show (_ : ZH).1 94 j = H.1 76 j; (repeat first | rw [wIf (by omega)] | rw [wA1, zcpy_at h3] | rw [wA1c (by omega)])
    · show (_ : ZH).1 95 j = H.1 77 j; (repeat first | rw [wIf (by omega)] | rw [wA1, zcpy_at h3] | rw [wA1c (by omega)])
  · rcases (show i = 7 ∨ i = 8 by omega) with rfl | rfl
    · show (_ : ZH).1 96 j = H.1 78 j; (repeat first | rw [wIf (by omega)] | rw [wA1, zcpy_at h3] | rw [wA1c (by omega)])
    · show (_ : ZH).1 97 j = H.1 79 j; (repeat first | rw [wIf (by omega)] | rw [wA1, zcpy_at h3] | rw [wA1c (by omega)])

theorem c_X2_take_71_80 {d : Nat} {H : ZH} (ok : okZ H)  : EvC zX (d + 1) mX2_take [.ref 71, .ref 80] (eh H) (zPv (fun (H1 : ZH) => TakePl H H1 71 80)) := by
  show _ ∧ Ev zX mX2_take (EvC zX d) (zPv (fun (H1 : ZH) => TakePl H H1 71 80)) 0 [(0, .ref 71), (1, .ref 80)] [] (eh H)
  refine ⟨Nat.le_of_ble_eq_true rfl, ?_⟩
  refine x_aload_n (pc := 0) dX2_take_0 (List.Mem.head _) ?_
  refine x_aload_n (pc := 1) dX2_take_1 (List.Mem.tail _ (List.Mem.head _)) ?_
  have rd1 := ok.1 80 0
  refine z_getI (pc := 2) (k := 0) (v := H.1 80 0) dX2_take_2 lf_X2_36 sh_80 rfl rfl ?_
  refine z_putI (pc := 5) (k := 0) dX2_take_5 lp_X2_36 sh_71 rfl ?_
  have ok2 := okI ok 71 0 (v := (H.1 80 0)) (by omega) (by omega)
  refine x_aload_n (pc := 8) dX2_take_8 (List.Mem.tail _ (List.Mem.head _)) ?_
  refine z_getR (pc := 9) (k := 1) (r := 81) dX2_take_9 lf_X2_9 sh_80 rfl rf_80_1 ?_
  refine z_iconst (pc := 12) dX2_take_12 ?_
  refine x_aload_n (pc := 13) dX2_take_13 (List.Mem.head _) ?_
  refine z_getR (pc := 14) (k := 1) (r := 72) dX2_take_14 lf_X2_9 sh_71 rfl rf_71_1 ?_
  refine z_iconst (pc := 17) dX2_take_17 ?_
  refine z_bipush (pc := 18) dX2_take_18 bp_12 ?_
  refine z_acpyf (pc := 20) (sp := 0) (dp := 0) (n := 12) (f := H.1 81) (g := H.1 72) dX2_take_20 ml_X2_40 sh_81 sh_72 rfl rfl rfl (by omega) (by omega) (by decide) (by decide) (Nat.le_of_ble_eq_true rfl) (by rw [wIf (by omega)]) (by rw [wIf (by omega)]) ?_
  have ok3 := okCf ok2 72 81 0 0 12 (by rw [wIf (by omega)]) (by rw [wIf (by omega)])
  refine x_aload_n (pc := 23) dX2_take_23 (List.Mem.tail _ (List.Mem.head _)) ?_
  refine z_getR (pc := 24) (k := 2) (r := 82) dX2_take_24 lf_X2_15 sh_80 rfl rf_80_2 ?_
  refine z_iconst (pc := 27) dX2_take_27 ?_
  refine x_aload_n (pc := 28) dX2_take_28 (List.Mem.head _) ?_
  refine z_getR (pc := 29) (k := 2) (r := 73) dX2_take_29 lf_X2_15 sh_71 rfl rf_71_2 ?_
  refine z_iconst (pc := 32) dX2_take_32 ?_
  refine z_bipush (pc := 33) dX2_take_33 bp_12 ?_
  refine z_acpyf (pc := 35) (sp := 0) (dp := 0) (n := 12) (f := H.1 82) (g := H.1 73) dX2_take_35 ml_X2_40 sh_82 sh_73 rfl rfl rfl (by omega) (by omega) (by decide) (by decide) (Nat.le_of_ble_eq_true rfl) (by rw [wA1c (by omega), wIf (by omega)]) (by rw [wA1c (by omega), wIf (by omega)]) ?_
  have ok4 := okCf ok3 73 82 0 0 12 (by rw [wA1c (by omega), wIf (by omega)]) (by rw [wA1c (by omega), wIf (by omega)])
  refine x_aload_n (pc := 38) dX2_take_38 (List.Mem.tail _ (List.Mem.head _)) ?_
  refine z_getR (pc := 39) (k := 3) (r := 83) dX2_take_39 lf_X2_18 sh_80 rfl rf_80_3 ?_
  refine z_iconst (pc := 42) dX2_take_42 ?_
  refine x_aload_n (pc := 43) dX2_take_43 (List.Mem.head _) ?_
  refine z_getR (pc := 44) (k := 3) (r := 74) dX2_take_44 lf_X2_18 sh_71 rfl rf_71_3 ?_
  refine z_iconst (pc := 47) dX2_take_47 ?_
  refine z_bipush (pc := 48) dX2_take_48 bp_12 ?_
  refine z_acpyf (pc := 50) (sp := 0) (dp := 0) (n := 12) (f := H.1 83) (g := H.1 74) dX2_take_50 ml_X2_40 sh_83 sh_74 rfl rfl rfl (by omega) (by omega) (by decide) (by decide) (Nat.le_of_ble_eq_true rfl) (by rw [wA1c (by omega), wA1c (by omega), wIf (by omega)]) (by rw [wA1c (by omega), wA1c (by omega), wIf (by omega)]) ?_
  have ok5 := okCf ok4 74 83 0 0 12 (by rw [wA1c (by omega), wA1c (by omega), wIf (by omega)]) (by rw [wA1c (by omega), wA1c (by omega), wIf (by omega)])
  refine x_aload_n (pc := 53) dX2_take_53 (List.Mem.tail _ (List.Mem.head _)) ?_
  refine z_getR (pc := 54) (k := 4) (r := 84) dX2_take_54 lf_X2_21 sh_80 rfl rf_80_4 ?_
  refine z_iconst (pc := 57) dX2_take_57 ?_
  refine x_aload_n (pc := 58) dX2_take_58 (List.Mem.head _) ?_
  refine z_getR (pc := 59) (k := 4) (r := 75) dX2_take_59 lf_X2_21 sh_71 rfl rf_71_4 ?_
  refine z_iconst (pc := 62) dX2_take_62 ?_
  refine z_bipush (pc := 63) dX2_take_63 bp_12 ?_
  refine z_acpyf (pc := 65) (sp := 0) (dp := 0) (n := 12) (f := H.1 84) (g := H.1 75) dX2_take_65 ml_X2_40 sh_84 sh_75 rfl rfl rfl (by omega) (by omega) (by decide) (by decide) (Nat.le_of_ble_eq_true rfl) (by rw [wA1c (by omega), wA1c (by omega), wA1c (by omega), wIf (by omega)]) (by rw [wA1c (by omega), wA1c (by omega), wA1c (by omega), wIf (by omega)]) ?_
  have ok6 := okCf ok5 75 84 0 0 12 (by rw [wA1c (by omega), wA1c (by omega), wA1c (by omega), wIf (by omega)]) (by rw [wA1c (by omega), wA1c (by omega), wA1c (by omega), wIf (by omega)])
  refine x_aload_n (pc := 68) dX2_take_68 (List.Mem.tail _ (List.Mem.head _)) ?_
  refine z_getR (pc := 69) (k := 5) (r := 85) dX2_take_69 lf_X2_24 sh_80 rfl rf_80_5 ?_
  refine z_iconst (pc := 72) dX2_take_72 ?_
  refine x_aload_n (pc := 73) dX2_take_73 (List.Mem.head _) ?_
  refine z_getR (pc := 74) (k := 5) (r := 76) dX2_take_74 lf_X2_24 sh_71 rfl rf_71_5 ?_
  refine z_iconst (pc := 77) dX2_take_77 ?_
  refine z_bipush (pc := 78) dX2_take_78 bp_12 ?_
  refine z_acpyf (pc := 80) (sp := 0) (dp := 0) (n := 12) (f := H.1 85) (g := H.1 76) dX2_take_80 ml_X2_40 sh_85 sh_76 rfl rfl rfl (by omega) (by omega) (by decide) (by decide) (Nat.le_of_ble_eq_true rfl) (by rw [wA1c (by omega), wA1c (by omega), wA1c (by omega), wA1c (by omega), wIf (by omega)]) (by rw [wA1c (by omega), wA1c (by omega), wA1c (by omega), wA1c (by omega), wIf (by omega)]) ?_
  have ok7 := okCf ok6 76 85 0 0 12 (by rw [wA1c (by omega), wA1c (by omega), wA1c (by omega), wA1c (by omega), wIf (by omega)]) (by rw [wA1c (by omega), wA1c (by omega), wA1c (by omega), wA1c (by omega), wIf (by omega)])
  refine x_aload_n (pc := 83) dX2_take_83 (List.Mem.tail _ (List.Mem.head _)) ?_
  refine z_getR (pc := 84) (k := 6) (r := 86) dX2_take_84 lf_X2_27 sh_80 rfl rf_80_6 ?_
  refine z_iconst (pc := 87) dX2_take_87 ?_
  refine x_aload_n (pc := 88) dX2_take_88 (List.Mem.head _) ?_
  refine z_getR (pc := 89) (k := 6) (r := 77) dX2_take_89 lf_X2_27 sh_71 rfl rf_71_6 ?_
  refine z_iconst (pc := 92) dX2_take_92 ?_
  refine z_bipush (pc := 93) dX2_take_93 bp_12 ?_
  refine z_acpyf (pc := 95) (sp := 0) (dp := 0) (n := 12) (f := H.1 86) (g := H.1 77) dX2_take_95 ml_X2_40 sh_86 sh_77 rfl rfl rfl (by omega) (by omega) (by decide) (by decide) (Nat.le_of_ble_eq_true rfl) (by rw [wA1c (by omega), wA1c (by omega), wA1c (by omega), wA1c (by omega), wA1c (by omega), wIf (by omega)]) (by rw [wA1c (by omega), wA1c (by omega), wA1c (by omega), wA1c (by omega), wA1c (by omega), wIf (by omega)]) ?_
  have ok8 := okCf ok7 77 86 0 0 12 (by rw [wA1c (by omega), wA1c (by omega), wA1c (by omega), wA1c (by omega), wA1c (by omega), wIf (by omega)]) (by rw [wA1c (by omega), wA1c (by omega), wA1c (by omega), wA1c (by omega), wA1c (by omega), wIf (by omega)])
  refine x_aload_n (pc := 98) dX2_take_98 (List.Mem.tail _ (List.Mem.head _)) ?_
  refine z_getR (pc := 99) (k := 7) (r := 87) dX2_take_99 lf_X2_30 sh_80 rfl rf_80_7 ?_
  refine z_iconst (pc := 102) dX2_take_102 ?_
  refine x_aload_n (pc := 103) dX2_take_103 (List.Mem.head _) ?_
  refine z_getR (pc := 104) (k := 7) (r := 78) dX2_take_104 lf_X2_30 sh_71 rfl rf_71_7 ?_
  refine z_iconst (pc := 107) dX2_take_107 ?_
  refine z_iconst (pc := 108) dX2_take_108 ?_
  refine z_acpyf (pc := 109) (sp := 0) (dp := 0) (n := 4) (f := H.1 87) (g := H.1 78) dX2_take_109 ml_X2_40 sh_87 sh_78 rfl rfl rfl (by omega) (by omega) (by decide) (by decide) (Nat.le_of_ble_eq_true rfl) (by rw [wA1c (by omega), wA1c (by omega), wA1c (by omega), wA1c (by omega), wA1c (by omega), wA1c (by omega), wIf (by omega)]) (by rw [wA1c (by omega), wA1c (by omega), wA1c (by omega), wA1c (by omega), wA1c (by omega), wA1c (by omega), wIf (by omega)]) ?_
  have ok9 := okCf ok8 78 87 0 0 4 (by rw [wA1c (by omega), wA1c (by omega), wA1c (by omega), wA1c (by omega), wA1c (by omega), wA1c (by omega), wIf (by omega)]) (by rw [wA1c (by omega), wA1c (by omega), wA1c (by omega), wA1c (by omega), wA1c (by omega), wA1c (by omega), wIf (by omega)])
  refine x_aload_n (pc := 112) dX2_take_112 (List.Mem.tail _ (List.Mem.head _)) ?_
  refine z_getR (pc := 113) (k := 8) (r := 88) dX2_take_113 lf_X2_33 sh_80 rfl rf_80_8 ?_
  refine z_iconst (pc := 116) dX2_take_116 ?_
  refine x_aload_n (pc := 117) dX2_take_117 (List.Mem.head _) ?_
  refine z_getR (pc := 118) (k := 8) (r := 79) dX2_take_118 lf_X2_33 sh_71 rfl rf_71_8 ?_
  refine z_iconst (pc := 121) dX2_take_121 ?_
  refine z_iconst (pc := 122) dX2_take_122 ?_
  refine z_acpyf (pc := 123) (sp := 0) (dp := 0) (n := 4) (f := H.1 88) (g := H.1 79) dX2_take_123 ml_X2_40 sh_88 sh_79 rfl rfl rfl (by omega) (by omega) (by decide) (by decide) (Nat.le_of_ble_eq_true rfl) (by rw [wA1c (by omega), wA1c (by omega), wA1c (by omega), wA1c (by omega), wA1c (by omega), wA1c (by omega), wA1c (by omega), wIf (by omega)]) (by rw [wA1c (by omega), wA1c (by omega), wA1c (by omega), wA1c (by omega), wA1c (by omega), wA1c (by omega), wA1c (by omega), wIf (by omega)]) ?_
  have ok10 := okCf ok9 79 88 0 0 4 (by rw [wA1c (by omega), wA1c (by omega), wA1c (by omega), wA1c (by omega), wA1c (by omega), wA1c (by omega), wA1c (by omega), wIf (by omega)]) (by rw [wA1c (by omega), wA1c (by omega), wA1c (by omega), wA1c (by omega), wA1c (by omega), wA1c (by omega), wA1c (by omega), wIf (by omega)])
  refine z_vreturn (pc := 126) dX2_take_126 rfl ok10 ?_
  refine ⟨rfl, fun c hc => ?_, ?_, fun i j h1 h2 h3 => ?_, fun i j h1 h2 h3 => ?_⟩
  · (repeat first | rw [wIf (by omega)] | rw [wA1c (by omega)])
  · (repeat first | rw [wI1] | rw [wI1k (by omega)] | rw [wA1c (by omega)] | rw [wI1c (by omega)])
  · rcases (show i = 1 ∨ i = 2 ∨ i = 3 ∨ i = 4 ∨ i = 5 ∨ i = 6 by omega) with rfl | rfl | rfl | rfl | rfl | rfl
    · show (_ : ZH).1 72 j = H.1 81 j; (repeat first | rw [wIf (by omega)] | rw [wA1, zcpy_at h3] | rw [wA1c (by omega)])
    · show (_ : ZH).1 73 j = H.1 82 j; (repeat first | rw [wIf (by omega)] | rw [wA1, zcpy_at h3] | rw [wA1c (by omega)])
    · show (_ : ZH).1 74 j = H.1 83 j; (repeat first | rw [wIf (by omega)] | rw [wA1, zcpy_at h3] | rw [wA1c (by omega)])
    · show (_ : ZH).1 75 j = H.1 84 j; (repeat first | rw [wIf (by omega)] | rw [wA1, zcpy_at h3] | rw [wA1c (by omega)])
    · show (_ : ZH).1 76 j = H.1 85 j; (repeat first | rw [wIf (by omega)] | rw [wA1, zcpy_at h3] | rw [wA1c (by omega)])
    · show (_ : ZH).1 77 j = H.1 86 j; (repeat first | rw [wIf (by omega)] | rw [wA1, zcpy_at h3] | rw [wA1c (by omega)])
  · rcases (show i = 7 ∨ i = 8 by omega) with rfl | rfl
    · show (_ : ZH).1 78 j = H.1 87 j; (repeat first | rw [wIf (by omega)] | rw [wA1, zcpy_at h3] | rw [wA1c (by omega)])
    · show (_ : ZH).1 79 j = H.1 88 j; (repeat first | rw [wIf (by omega)] | rw [wA1, zcpy_at h3] | rw [wA1c (by omega)])

theorem c_X2_take_71_89 {d : Nat} {H : ZH} (ok : okZ H)  : EvC zX (d + 1) mX2_take [.ref 71, .ref 89] (eh H) (zPv (fun (H1 : ZH) => TakePl H H1 71 89)) := by
  show _ ∧ Ev zX mX2_take (EvC zX d) (zPv (fun (H1 : ZH) => TakePl H H1 71 89)) 0 [(0, .ref 71), (1, .ref 89)] [] (eh H)
  refine ⟨Nat.le_of_ble_eq_true rfl, ?_⟩
  refine x_aload_n (pc := 0) dX2_take_0 (List.Mem.head _) ?_
  refine x_aload_n (pc := 1) dX2_take_1 (List.Mem.tail _ (List.Mem.head _)) ?_
  have rd1 := ok.1 89 0
  refine z_getI (pc := 2) (k := 0) (v := H.1 89 0) dX2_take_2 lf_X2_36 sh_89 rfl rfl ?_
  refine z_putI (pc := 5) (k := 0) dX2_take_5 lp_X2_36 sh_71 rfl ?_
  have ok2 := okI ok 71 0 (v := (H.1 89 0)) (by omega) (by omega)
  refine x_aload_n (pc := 8) dX2_take_8 (List.Mem.tail _ (List.Mem.head _)) ?_
  refine z_getR (pc := 9) (k := 1) (r := 90) dX2_take_9 lf_X2_9 sh_89 rfl rf_89_1 ?_
  refine z_iconst (pc := 12) dX2_take_12 ?_
  refine x_aload_n (pc := 13) dX2_take_13 (List.Mem.head _) ?_
  refine z_getR (pc := 14) (k := 1) (r := 72) dX2_take_14 lf_X2_9 sh_71 rfl rf_71_1 ?_
  refine z_iconst (pc := 17) dX2_take_17 ?_
  refine z_bipush (pc := 18) dX2_take_18 bp_12 ?_
  refine z_acpyf (pc := 20) (sp := 0) (dp := 0) (n := 12) (f := H.1 90) (g := H.1 72) dX2_take_20 ml_X2_40 sh_90 sh_72 rfl rfl rfl (by omega) (by omega) (by decide) (by decide) (Nat.le_of_ble_eq_true rfl) (by rw [wIf (by omega)]) (by rw [wIf (by omega)]) ?_
  have ok3 := okCf ok2 72 90 0 0 12 (by rw [wIf (by omega)]) (by rw [wIf (by omega)])
  refine x_aload_n (pc := 23) dX2_take_23 (List.Mem.tail _ (List.Mem.head _)) ?_
  refine z_getR (pc := 24) (k := 2) (r := 91) dX2_take_24 lf_X2_15 sh_89 rfl rf_89_2 ?_
  refine z_iconst (pc := 27) dX2_take_27 ?_
  refine x_aload_n (pc := 28) dX2_take_28 (List.Mem.head _) ?_
  refine z_getR (pc := 29) (k := 2) (r := 73) dX2_take_29 lf_X2_15 sh_71 rfl rf_71_2 ?_
  refine z_iconst (pc := 32) dX2_take_32 ?_
  refine z_bipush (pc := 33) dX2_take_33 bp_12 ?_
  refine z_acpyf (pc := 35) (sp := 0) (dp := 0) (n := 12) (f := H.1 91) (g := H.1 73) dX2_take_35 ml_X2_40 sh_91 sh_73 rfl rfl rfl (by omega) (by omega) (by decide) (by decide) (Nat.le_of_ble_eq_true rfl) (by rw [wA1c (by omega), wIf (by omega)]) (by rw [wA1c (by omega), wIf (by omega)]) ?_
  have ok4 := okCf ok3 73 91 0 0 12 (by rw [wA1c (by omega), wIf (by omega)]) (by rw [wA1c (by omega), wIf (by omega)])
  refine x_aload_n (pc := 38) dX2_take_38 (List.Mem.tail _ (List.Mem.head _)) ?_
  refine z_getR (pc := 39) (k := 3) (r := 92) dX2_take_39 lf_X2_18 sh_89 rfl rf_89_3 ?_
  refine z_iconst (pc := 42) dX2_take_42 ?_
  refine x_aload_n (pc := 43) dX2_take_43 (List.Mem.head _) ?_
  refine z_getR (pc := 44) (k := 3) (r := 74) dX2_take_44 lf_X2_18 sh_71 rfl rf_71_3 ?_
  refine z_iconst (pc := 47) dX2_take_47 ?_
  refine z_bipush (pc := 48) dX2_take_48 bp_12 ?_
  refine z_acpyf (pc := 50) (sp := 0) (dp := 0) (n := 12) (f := H.1 92) (g := H.1 74) dX2_take_50 ml_X2_40 sh_92 sh_74 rfl rfl rfl (by omega) (by omega) (by decide) (by decide) (Nat.le_of_ble_eq_true rfl) (by rw [wA1c (by omega), wA1c (by omega), wIf (by omega)]) (by rw [wA1c (by omega), wA1c (by omega), wIf (by omega)]) ?_
  have ok5 := okCf ok4 74 92 0 0 12 (by rw [wA1c (by omega), wA1c (by omega), wIf (by omega)]) (by rw [wA1c (by omega), wA1c (by omega), wIf (by omega)])
  refine x_aload_n (pc := 53) dX2_take_53 (List.Mem.tail _ (List.Mem.head _)) ?_
  refine z_getR (pc := 54) (k := 4) (r := 93) dX2_take_54 lf_X2_21 sh_89 rfl rf_89_4 ?_
  refine z_iconst (pc := 57) dX2_take_57 ?_
  refine x_aload_n (pc := 58) dX2_take_58 (List.Mem.head _) ?_
  refine z_getR (pc := 59) (k := 4) (r := 75) dX2_take_59 lf_X2_21 sh_71 rfl rf_71_4 ?_
  refine z_iconst (pc := 62) dX2_take_62 ?_
  refine z_bipush (pc := 63) dX2_take_63 bp_12 ?_
  refine z_acpyf (pc := 65) (sp := 0) (dp := 0) (n := 12) (f := H.1 93) (g := H.1 75) dX2_take_65 ml_X2_40 sh_93 sh_75 rfl rfl rfl (by omega) (by omega) (by decide) (by decide) (Nat.le_of_ble_eq_true rfl) (by rw [wA1c (by omega), wA1c (by omega), wA1c (by omega), wIf (by omega)]) (by rw [wA1c (by omega), wA1c (by omega), wA1c (by omega), wIf (by omega)]) ?_
  have ok6 := okCf ok5 75 93 0 0 12 (by rw [wA1c (by omega), wA1c (by omega), wA1c (by omega), wIf (by omega)]) (by rw [wA1c (by omega), wA1c (by omega), wA1c (by omega), wIf (by omega)])
  refine x_aload_n (pc := 68) dX2_take_68 (List.Mem.tail _ (List.Mem.head _)) ?_
  refine z_getR (pc := 69) (k := 5) (r := 94) dX2_take_69 lf_X2_24 sh_89 rfl rf_89_5 ?_
  refine z_iconst (pc := 72) dX2_take_72 ?_
  refine x_aload_n (pc := 73) dX2_take_73 (List.Mem.head _) ?_
  refine z_getR (pc := 74) (k := 5) (r := 76) dX2_take_74 lf_X2_24 sh_71 rfl rf_71_5 ?_
  refine z_iconst (pc := 77) dX2_take_77 ?_
  refine z_bipush (pc := 78) dX2_take_78 bp_12 ?_
  refine z_acpyf (pc := 80) (sp := 0) (dp := 0) (n := 12) (f := H.1 94) (g := H.1 76) dX2_take_80 ml_X2_40 sh_94 sh_76 rfl rfl rfl (by omega) (by omega) (by decide) (by decide) (Nat.le_of_ble_eq_true rfl) (by rw [wA1c (by omega), wA1c (by omega), wA1c (by omega), wA1c (by omega), wIf (by omega)]) (by rw [wA1c (by omega), wA1c (by omega), wA1c (by omega), wA1c (by omega), wIf (by omega)]) ?_
  have ok7 := okCf ok6 76 94 0 0 12 (by rw [wA1c (by omega), wA1c (by omega), wA1c (by omega), wA1c (by omega), wIf (by omega)]) (by rw [wA1c (by omega), wA1c (by omega), wA1c (by omega), wA1c (by omega), wIf (by omega)])
  refine x_aload_n (pc := 83) dX2_take_83 (List.Mem.tail _ (List.Mem.head _)) ?_
  refine z_getR (pc := 84) (k := 6) (r := 95) dX2_take_84 lf_X2_27 sh_89 rfl rf_89_6 ?_
  refine z_iconst (pc := 87) dX2_take_87 ?_
  refine x_aload_n (pc := 88) dX2_take_88 (List.Mem.head _) ?_
  refine z_getR (pc := 89) (k := 6) (r := 77) dX2_take_89 lf_X2_27 sh_71 rfl rf_71_6 ?_
  refine z_iconst (pc := 92) dX2_take_92 ?_
  refine z_bipush (pc := 93) dX2_take_93 bp_12 ?_
  refine z_acpyf (pc := 95) (sp := 0) (dp := 0) (n := 12) (f := H.1 95) (g := H.1 77) dX2_take_95 ml_X2_40 sh_95 sh_77 rfl rfl rfl (by omega) (by omega) (by decide) (by decide) (Nat.le_of_ble_eq_true rfl) (by rw [wA1c (by omega), wA1c (by omega), wA1c (by omega), wA1c (by omega), wA1c (by omega), wIf (by omega)]) (by rw [wA1c (by omega), wA1c (by omega), wA1c (by omega), wA1c (by omega), wA1c (by omega), wIf (by omega)]) ?_
  have ok8 := okCf ok7 77 95 0 0 12 (by rw [wA1c (by omega), wA1c (by omega), wA1c (by omega), wA1c (by omega), wA1c (by omega), wIf (by omega)]) (by rw [wA1c (by omega), wA1c (by omega), wA1c (by omega), wA1c (by omega), wA1c (by omega), wIf (by omega)])
  refine x_aload_n (pc := 98) dX2_take_98 (List.Mem.tail _ (List.Mem.head _)) ?_
  refine z_getR (pc := 99) (k := 7) (r := 96) dX2_take_99 lf_X2_30 sh_89 rfl rf_89_7 ?_
  refine z_iconst (pc := 102) dX2_take_102 ?_
  refine x_aload_n (pc := 103) dX2_take_103 (List.Mem.head _) ?_
  refine z_getR (pc := 104) (k := 7) (r := 78) dX2_take_104 lf_X2_30 sh_71 rfl rf_71_7 ?_
  refine z_iconst (pc := 107) dX2_take_107 ?_
  refine z_iconst (pc := 108) dX2_take_108 ?_
  refine z_acpyf (pc := 109) (sp := 0) (dp := 0) (n := 4) (f := H.1 96) (g := H.1 78) dX2_take_109 ml_X2_40 sh_96 sh_78 rfl rfl rfl (by omega) (by omega) (by decide) (by decide) (Nat.le_of_ble_eq_true rfl) (by rw [wA1c (by omega), wA1c (by omega), wA1c (by omega), wA1c (by omega), wA1c (by omega), wA1c (by omega), wIf (by omega)]) (by rw [wA1c (by omega), wA1c (by omega), wA1c (by omega), wA1c (by omega), wA1c (by omega), wA1c (by omega), wIf (by omega)]) ?_
  have ok9 := okCf ok8 78 96 0 0 4 (by rw [wA1c (by omega), wA1c (by omega), wA1c (by omega), wA1c (by omega), wA1c (by omega), wA1c (by omega), wIf (by omega)]) (by rw [wA1c (by omega), wA1c (by omega), wA1c (by omega), wA1c (by omega), wA1c (by omega), wA1c (by omega), wIf (by omega)])
  refine x_aload_n (pc := 112) dX2_take_112 (List.Mem.tail _ (List.Mem.head _)) ?_
  refine z_getR (pc := 113) (k := 8) (r := 97) dX2_take_113 lf_X2_33 sh_89 rfl rf_89_8 ?_
  refine z_iconst (pc := 116) dX2_take_116 ?_
  refine x_aload_n (pc := 117) dX2_take_117 (List.Mem.head _) ?_
  refine z_getR (pc := 118) (k := 8) (r := 79) dX2_take_118 lf_X2_33 sh_71 rfl rf_71_8 ?_
  refine z_iconst (pc := 121) dX2_take_121 ?_
  refine z_iconst (pc := 122) dX2_take_122 ?_
  refine z_acpyf (pc := 123) (sp := 0) (dp := 0) (n := 4) (f := H.1 97) (g := H.1 79) dX2_take_123 ml_X2_40 sh_97 sh_79 rfl rfl rfl (by omega) (by omega) (by decide) (by decide) (Nat.le_of_ble_eq_true rfl) (by rw [wA1c (by omega), wA1c (by omega), wA1c (by omega), wA1c (by omega), wA1c (by omega), wA1c (by omega), wA1c (by omega), wIf (by omega)]) (by rw [wA1c (by omega), wA1c (by omega), wA1c (by omega), wA1c (by omega), wA1c (by omega), wA1c (by omega), wA1c (by omega), wIf (by omega)]) ?_
  have ok10 := okCf ok9 79 97 0 0 4 (by rw [wA1c (by omega), wA1c (by omega), wA1c (by omega), wA1c (by omega), wA1c (by omega), wA1c (by omega), wA1c (by omega), wIf (by omega)]) (by rw [wA1c (by omega), wA1c (by omega), wA1c (by omega), wA1c (by omega), wA1c (by omega), wA1c (by omega), wA1c (by omega), wIf (by omega)])
  refine z_vreturn (pc := 126) dX2_take_126 rfl ok10 ?_
  refine ⟨rfl, fun c hc => ?_, ?_, fun i j h1 h2 h3 => ?_, fun i j h1 h2 h3 => ?_⟩
  · (repeat first | rw [wIf (by omega)] | rw [wA1c (by omega)])
  · (repeat first | rw [wI1] | rw [wI1k (by omega)] | rw [wA1c (by omega)] | rw [wI1c (by omega)])
  · rcases (show i = 1 ∨ i = 2 ∨ i = 3 ∨ i = 4 ∨ i = 5 ∨ i = 6 by omega) with rfl | rfl | rfl | rfl | rfl | rfl
    · show (_ : ZH).1 72 j = H.1 90 j; (repeat first | rw [wIf (by omega)] | rw [wA1, zcpy_at h3] | rw [wA1c (by omega)])
    · show (_ : ZH).1 73 j = H.1 91 j; (repeat first | rw [wIf (by omega)] | rw [wA1, zcpy_at h3] | rw [wA1c (by omega)])
    · show (_ : ZH).1 74 j = H.1 92 j; (repeat first | rw [wIf (by omega)] | rw [wA1, zcpy_at h3] | rw [wA1c (by omega)])
    · show (_ : ZH).1 75 j = H.1 93 j; (repeat first | rw [wIf (by omega)] | rw [wA1, zcpy_at h3] | rw [wA1c (by omega)])
    · show (_ : ZH).1 76 j = H.1 94 j; (repeat first | rw [wIf (by omega)] | rw [wA1, zcpy_at h3] | rw [wA1c (by omega)])
    · show (_ : ZH).1 77 j = H.1 95 j; (repeat first | rw [wIf (by omega)] | rw [wA1, zcpy_at h3] | rw [wA1c (by omega)])
  · rcases (show i = 7 ∨ i = 8 by omega) with rfl | rfl
    · show (_ : ZH).1 78 j = H.1 96 j; (repeat first | rw [wIf (by omega)] | rw [wA1, zcpy_at h3] | rw [wA1c (by omega)])
    · show (_ : ZH).1 79 j = H.1 97 j; (repeat first | rw [wIf (by omega)] | rw [wA1, zcpy_at h3] | rw [wA1c (by omega)])
