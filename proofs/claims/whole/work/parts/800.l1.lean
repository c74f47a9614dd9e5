/-! GROUP L1: the law's steps. -/
def mL : MI := (yL_law, cL_law, 4, some .boolean)
/-- what holds all through the law's body -/
def lK (p : Program) (l : Launch) (s : State) (m : MethodId) (c : Code) (adr : Nat → Nat) (cA : Nat → ClassId) (D : va_G) (b L : Nat) (xs : Nat → Int32) : Prop := p.tables.exec = Jvm.exec ∧ c.code = cL_law ∧ c.maxLocals = 4 ∧ s.vm.findClass RL = some m.cls ∧ (∀ w ∈ mG, w.before #[Value.ref b] s = true) ∧ va_K D mcl (mty cA) s ∧ mE zX adr s.heap.size s ∧ mStr l zX adr ∧ va_X b L xs s s.heap ∧ b < s.heap.size ∧ (∀ c, c < zX.1.length → s.heap.size ≤ adr c) ∧ L ≤ 3072
/-- the world of both sides -/
def lH (s : State) (adr : Nat → Nat) (cA : Nat → ClassId) (D : va_G) (H : ZH) (Hp : Heap) (locs : List Loc) : Prop := va_P D mcl (mws zX adr cA (eh H)) Hp ∧ va_D (mA adr zX.1.length s.heap.size) (mws zX adr cA (eh H)) ∧ va_S (mA adr zX.1.length s.heap.size) s.heap Hp locs
abbrev lW (p : Program) (l : Launch) (e : Env) (s : State) (m : MethodId) (b : Nat) (below : List Frame) (meth : Method) (c : Code) (Q : State → Prop) (Hp : Heap) (locs : List Loc) (g : JFrame) : Prop := W p l e room_1 s m #[Value.ref b] below meth c Hp locs 200 60000 Q g
abbrev lL (adr : Nat → Nat) (b i : Nat) : List (Nat × Value) := [(0, .ref b), (1, .ref (adr 20)), (2, .ref (adr 0)), (3, .int (nI i))]
theorem lK_b {p : Program} {l : Launch} {s : State} {m : MethodId} {c : Code} {adr : Nat → Nat} {cA : Nat → ClassId} {D : va_G} {b L : Nat} {xs : Nat → Int32} (K : lK p l s m c adr cA D b L xs) : ¬ mA adr zX.1.length s.heap.size b := fun q => by
  have hbl := K.2.2.2.2.2.2.2.2.2.1
  rcases q with ⟨c, h1, h2⟩ | h
  · have := K.2.2.2.2.2.2.2.2.2.2.1 c h1
    omega
  · omega
theorem la_arg {p : Program} {l : Launch} {e : Env} {s : State} {m : MethodId} {below : List Frame} {meth : Method} {c : Code} {Q : State → Prop} {adr : Nat → Nat} {cA : Nat → ClassId} {D : va_G} {b L i : Nat} {xs : Nat → Int32} (K : lK p l s m c adr cA D b L xs) {H : ZH} {Hp : Heap} {locs : List Loc} (lh : lH s adr cA D H Hp locs) {ls : Array Slot} (hl : lv_has ls 4 (lL adr b i)) (hi : i + 6 ≤ L) {pc : Nat} (j : Nat) (h5 : j ≤ 5) {k : Int} (hk : k = (j : Int)) (d0 : decode cL_law pc = .ok (.aload_n 0, 1)) (d1 : decode cL_law (pc + 1) = .ok (.iload_n 3, 1)) (d2 : decode cL_law (pc + 2) = .ok (.iconst k, 1)) (d3 : decode cL_law (pc + 3) = .ok (.iadd, 1)) (d4 : decode cL_law (pc + 4) = .ok (.iaload, 1)) {S : List Value} (kk : lW p l e s m b below meth c Q Hp locs (F0 m (pc + 5) ls (.int (zN (xs (i + j)).toInt) :: S))) : lW p l e s m b below meth c Q Hp locs (F0 m pc ls S) := by
  have hbA := lK_b K
  obtain ⟨hx, hb, hml, hown, hts, hK, hE, hStr, hX, hbl, hadr, hL⟩ := K
  obtain ⟨hP, hD, hS⟩ := lh
  have e1 : nI i + Int32.ofInt k = nI (i + j) := by
    rw [hk, ← zN_nat, ← zN_nat]
    show zN (i : Int) + zN (j : Int) = _
    rw [zN_add]; rfl
  have hin : vp_in (nI i + Int32.ofInt k) L := by rw [e1]; exact vp_in_nI (by omega) (by omega)
  have e2 : Value.int (xs (nI i + Int32.ofInt k).toNatClampNeg) = .int (zN (xs (i + j)).toInt) := by rw [e1, nI_clamp (by omega), zN_of]
  refine lv_aload_n hx hb d0 rfl (lv_at hl 0 rfl) ?_
  refine lv_iload_n hx hb d1 rfl (lv_at hl 3 rfl) ?_
  refine lv_iconst hx hb d2 rfl ?_
  refine lv_iadd hx hb d3 ?_
  refine va_sld hx hb hX hbl hbA hS hin d4 ?_
  rw [e2]
  exact kk
/-- 'not 0', as a boolean -/
def lbv (x : Int32) : Int := if x = 0 then 0 else 1
theorem lbv_01 (x : Int32) : lbv x = 0 ∨ lbv x = 1 := by
  unfold lbv
  split
  · exact Or.inl rfl
  · exact Or.inr rfl
theorem la_bool {p : Program} {l : Launch} {e : Env} {s : State} {m : MethodId} {below : List Frame} {meth : Method} {c : Code} {Q : State → Prop} {b : Nat} {Hp : Heap} {locs : List Loc} {ls : Array Slot} (hx : p.tables.exec = Jvm.exec) (hb : c.code = cL_law) {pc : Nat} {o1 o2 : Int} {x : Int32} {S : List Value} (d0 : decode cL_law pc = .ok (.ifCond .eq o1, 3)) (t0 : (pc : Int) + o1 = ((pc + 7 : Nat) : Int)) (d1 : decode cL_law (pc + 3) = .ok (.iconst 1, 1)) (d2 : decode cL_law (pc + 4) = .ok (.goto o2, 3)) (t2 : ((pc + 4 : Nat) : Int) + o2 = ((pc + 8 : Nat) : Int)) (d3 : decode cL_law (pc + 7) = .ok (.iconst 0, 1)) (kk : lW p l e s m b below meth c Q Hp locs (F0 m (pc + 8) ls (.int (zN (lbv x)) :: S))) : lW p l e s m b below meth c Q Hp locs (F0 m pc ls (.int (zN x.toInt) :: S)) := by
  rw [zN_of]
  refine lv_if_eq hx hb d0 t0 (fun z => ?_) (fun z => ?_)
  · refine lv_iconst (v := zN (lbv x)) hx hb d3 (by unfold lbv; rw [if_pos z]; rfl) ?_
    exact kk
  · refine lv_iconst (v := zN (lbv x)) hx hb d1 (by unfold lbv; rw [if_neg z]; rfl) ?_
    refine lv_goto hx hb d2 t2 ?_
    exact kk
theorem la_ci {p : Program} {l : Launch} {e : Env} {s : State} {m : MethodId} {below : List Frame} {meth : Method} {c : Code} {Q : State → Prop} {adr : Nat → Nat} {cA : Nat → ClassId} {D : va_G} {b L i : Nat} {xs : Nat → Int32} (K : lK p l s m c adr cA D b L xs) {H : ZH} {Hp : Heap} {locs : List Loc} (lh : lH s adr cA D H Hp locs) {ls : Array Slot} (hl : lv_has ls 4 (lL adr b i)) {pc idx n cc ci : Nat} {ks : List Nat} {im : MI} (as S st : List Value) {P : Int → ZH → Prop} (dg : decode cL_law pc = .ok (.invokevirtual idx, 3)) (lk : Cond.methodLink RL idx im.1 ∈ mG) (ok : okV im n) (hn : as.length = n) (sh : zX.1[cc]? = some (.inl (ci, ks))) (hci : (mcl[ci]?).map (fun q => q.1) = some im.1.cls) (hr : im.2.2.2 = some .int ∨ im.2.2.2 = some .boolean) (hst : st = (as.map (mtr adr)).reverse ++ .ref (adr cc) :: S) (hw : (S.map fun v => v.category).sum ≤ 8) (hC : EvC zX 40 im (.ref cc :: as) (eh H) (zPi P)) (kk : ∀ r H1 Hp1 locs1, okZ H1 → P r H1 → lH s adr cA D H1 Hp1 locs1 → lW p l e s m b below meth c Q Hp1 locs1 (F0 m (pc + 3) ls (.int (zN r) :: S))) : lW p l e s m b below meth c Q Hp locs (F0 m pc ls st) := by
  obtain ⟨hx, hb, hml, hown, hts, hK, hE, hStr, hX, hbl, hadr, hL⟩ := K
  obtain ⟨hP, hD, hS⟩ := lh
  have hM := mMet_i hr (simC l zX adr cA D hStr 40 im (.ref cc :: as) (eh H) (zPi P) hC ok.1 Hp.size)
  subst hst
  refine va_calli (va_runV (nL := 4) (own := RL) (C := im.1.cls) (As := as.map (mtr adr)) (rest := S) ⟨hx, hb, hml, hown, hts⟩ hM (cwV n hts (mwV mL lk ok) rfl rfl rfl ⟨rfl, ok.2.1⟩ ⟨Nat.le_of_ble_eq_true rfl, mroom (rm := mrm 40) (R := room_1) (Nat.le_of_ble_eq_true rfl) ok.1⟩) ⟨mPre_blind, mrecv hK hP hci (mws_get sh), fun U hU hWa => ⟨rfl, mPre_at hU hWa hK hP hD hE hS⟩⟩ rfl (by rw [List.length_map]; exact hn) hl.1 rfl (lv_room hw) dg ⟨Nat.le_of_ble_eq_true rfl, Nat.le_of_ble_eq_true rfl⟩) hS (fun q _ h => mA_le hS q h) (fun q h => mA_le hS q h) (fun r u t H1 locs1 ht hvm hw1 hB hz1 hk1 hS1 => ?_)
  obtain ⟨hP1, hK1, hD1⟩ := hB
  rw [ht] at hP1
  obtain ⟨r', Hz, he, -, -, rfl, okz, hp⟩ := hw1
  have e : r = zN r' := Value.int.inj (Option.some.inj he)
  subst e
  exact kk r' Hz H1 locs1 okz hp ⟨hP1, hD1.weaken (fun q _ _ h => mA_le hS _ h), hS1⟩
theorem la_cl {p : Program} {l : Launch} {e : Env} {s : State} {m : MethodId} {below : List Frame} {meth : Method} {c : Code} {Q : State → Prop} {adr : Nat → Nat} {cA : Nat → ClassId} {D : va_G} {b L i : Nat} {xs : Nat → Int32} (K : lK p l s m c adr cA D b L xs) {H : ZH} {Hp : Heap} {locs : List Loc} (lh : lH s adr cA D H Hp locs) {ls : Array Slot} (hl : lv_has ls 4 (lL adr b i)) {pc idx n cc ci : Nat} {ks : List Nat} {im : MI} (as S st : List Value) {P : Int → ZH → Prop} (dg : decode cL_law pc = .ok (.invokevirtual idx, 3)) (lk : Cond.methodLink RL idx im.1 ∈ mG) (ok : okV im n) (hn : as.length = n) (sh : zX.1[cc]? = some (.inl (ci, ks))) (hci : (mcl[ci]?).map (fun q => q.1) = some im.1.cls) (hr : im.2.2.2 = some .long) (hst : st = (as.map (mtr adr)).reverse ++ .ref (adr cc) :: S) (hw : (S.map fun v => v.category).sum ≤ 8) (hC : EvC zX 40 im (.ref cc :: as) (eh H) (zPl P)) (kk : ∀ r H1 Hp1 locs1, okZ H1 → P r H1 → lH s adr cA D H1 Hp1 locs1 → lW p l e s m b below meth c Q Hp1 locs1 (F0 m (pc + 3) ls (.long (zL r) :: S))) : lW p l e s m b below meth c Q Hp locs (F0 m pc ls st) := by
  obtain ⟨hx, hb, hml, hown, hts, hK, hE, hStr, hX, hbl, hadr, hL⟩ := K
  obtain ⟨hP, hD, hS⟩ := lh
  have hM := mMet_l hr (simC l zX adr cA D hStr 40 im (.ref cc :: as) (eh H) (zPl P) hC ok.1 Hp.size)
  subst hst
  refine va_calll (va_runV (nL := 4) (own := RL) (C := im.1.cls) (As := as.map (mtr adr)) (rest := S) ⟨hx, hb, hml, hown, hts⟩ hM (cwV n hts (mwV mL lk ok) rfl rfl rfl ⟨rfl, ok.2.1⟩ ⟨Nat.le_of_ble_eq_true rfl, mroom (rm := mrm 40) (R := room_1) (Nat.le_of_ble_eq_true rfl) ok.1⟩) ⟨mPre_blind, mrecv hK hP hci (mws_get sh), fun U hU hWa => ⟨rfl, mPre_at hU hWa hK hP hD hE hS⟩⟩ rfl (by rw [List.length_map]; exact hn) hl.1 rfl (lv_room hw) dg ⟨Nat.le_of_ble_eq_true rfl, Nat.le_of_ble_eq_true rfl⟩) hS (fun q _ h => mA_le hS q h) (fun q h => mA_le hS q h) (fun r u t H1 locs1 ht hvm hw1 hB hz1 hk1 hS1 => ?_)
  obtain ⟨hP1, hK1, hD1⟩ := hB
  rw [ht] at hP1
  obtain ⟨r', Hz, he, -, -, rfl, okz, hp⟩ := hw1
  have e : r = zL r' := Value.long.inj (Option.some.inj he)
  subst e
  exact kk r' Hz H1 locs1 okz hp ⟨hP1, hD1.weaken (fun q _ _ h => mA_le hS _ h), hS1⟩
theorem lg_cmp_0 (x : Int64) : lg_cmp x x = 0 := by
  simp [lg_cmp]
