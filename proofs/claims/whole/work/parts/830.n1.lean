/-! GROUP N1: making: arrays of known classes; a constructor's contract and its call. -/
def mNI : List (String × Nat × MethodName) := [(RX10, 15, yX3_init), (RX3, 11, yX6_init), (RX3, 20, yX1_init), (RX10, 22, yX8_init), (RX8, 9, yX6_init), (RX8, 18, yX1_init), (RX8, 25, yX2_init), (RX4, 11, yX0_init), (RX10, 54, yX9_init), (RX10, 61, yX6_init), (RX10, 74, yX7_init), (RX10, 92, yX5_init)]
def nE (U : State) : Prop := (∀ t ∈ mNI, va_Nw (.methodLinkNest t.1 t.2.1 t.2.2 "FootOut") U) ∧ va_AO RX8 U ∧ va_AO RX5 U
theorem nE_same {U : State} {g : JFrame} {mk : MethodId} {a : Array Value} (h : nE U) : nE (U.calling g mk a) := ⟨fun t ht => va_Nw.same (u := U) rfl rfl (h.1 t ht), va_AO.moved (u := U) (Vm.Alike.refl U.vm) h.2.1, va_AO.moved (u := U) (Vm.Alike.refl U.vm) h.2.2⟩
theorem nE_warm {s U : State} (hW : s.WarmedH U.vm) (h : nE s) : nE U := ⟨fun t ht => va_Nw.warmM hW (h.1 t ht), va_AO.moved hW.alike h.2.1, va_AO.moved hW.alike h.2.2⟩
def cN (l : Launch) (D : va_G) (cA : Nat → ClassId) (im : MI) (wc : va_W) (w1 : (Nat → Nat) → va_W) (As : List Value) (rm : Room) (mc ms : Nat) : Prop := ∀ sz, Met l im.1 (mw im) rm (va_Pc As (fun U => U.heap.size = sz ∧ va_P D mcl wc U.heap ∧ va_K D mcl (mty cA) U ∧ va_D (fun _ => True) wc ∧ nE U)) (va_Qv (fun _ : Unit => True) (fun _ t => ∃ a : Nat → Nat, va_P D mcl (w1 a) t.heap ∧ va_K D mcl (mty cA) t ∧ va_D (va_A wc sz) (w1 a)) (va_A wc sz)) mc ms (va_A wc sz)
def okNw (i : MI) (n : Nat) : Prop := okM i ∧ okN i n ∧ Cond.instanceMethod i.1 ∈ mG ∧ i.1.name = "<init>" ∧ i.2.2.2 = none
theorem na_u {s : State} {a b : ClassId} {nm : String} (h1 : s.vm.findClass nm = some a) (h2 : s.vm.findClass nm = some b) : a = b := Option.some.inj (h1.symm.trans h2)
theorem nd_mem : ∀ (n k : Nat), va_nd (List.range' k n) = true
  | 0, _ => rfl
  | n + 1, k => by
    show (decide (k ∉ List.range' (k + 1) n) && va_nd (List.range' (k + 1) n)) = true
    rw [nd_mem n (k + 1), Bool.and_true, decide_eq_true_iff]
    intro h
    have := (List.mem_range'_1.mp h).1
    omega
theorem va_P_one {D : va_G} {cl : List vw_C} {ws : va_W} {x : Nat × va_E} {H : Heap} (h : va_P D cl (ws ++ [x]) H) : va_P D cl [x] H := fun k q hq => by
  have hz : k < 1 := (List.getElem?_eq_some_iff.mp hq).1
  rw [show k = 0 by omega] at hq
  cases hq
  exact h ws.length _ (by simp)
theorem va_D_one {A : Nat → Prop} {ws : va_W} {x : Nat × va_E} (h : va_D A (ws ++ [x])) : va_D (fun _ => True) [x] := ⟨fun i j p q hp hq _ => by
  have h1 : i < 1 := (List.getElem?_eq_some_iff.mp hp).1
  have h2 : j < 1 := (List.getElem?_eq_some_iff.mp hq).1
  omega, fun _ _ _ => trivial⟩
theorem hC_one {ws : va_W} {x : Nat × va_E} : [ws.length].map (fun i => (ws ++ [x])[i]?) = [x].map some := by simp
theorem hR_all {ws : va_W} {x : Nat × va_E} : (List.range' 0 ws.length).map (fun i => (ws ++ [x])[i]?) = ws.map some := by
  apply List.ext_getElem?
  intro i
  by_cases h : i < ws.length
  · rw [List.getElem?_map, List.getElem?_map, List.getElem?_range' h]
    simp only [Option.map_some, Nat.zero_add, Nat.one_mul]
    rw [List.getElem?_append_left h, List.getElem?_eq_getElem h]
    rfl
  · rw [List.getElem?_eq_none (by simp; omega), List.getElem?_eq_none (by simp; omega)]
theorem na_I {p : Program} {l : Launch} {e : Env} {R : Room} {s : State} {m : MethodId} {args : Array Value} {below : List Frame} {meth : Method} {c : Code} {cc : ByteArray} {D : va_G} {cA : Nat → ClassId} {ws : va_W} {A : Nat → Prop} {H0 H : Heap} {locs : List Loc} {cells slots : Nat} {Q : State → Prop} {pc : Nat} {ls : Array Slot} {rest : List Value} (hx : p.tables.exec = Jvm.exec) (hb : c.code = cc) (hts : ∀ w ∈ mG, w.before args s = true) (hK : va_K D mcl (mty cA) s) (hP : va_P D mcl ws H) (hD : va_D A ws) (hS : va_S A H0 H locs) (hA : ∀ q, H0.size ≤ q → A q) {n : Int32} (N' : Nat) (hn : ¬ n < 0) (hN : n.toNatClampNeg = N') (hbytes : N' * componentBytes .int ≤ 536870912) (hcells : cells + 1 ≤ R.cells) (hslots : slots + N' ≤ R.slots) (hdg : decode cc pc = .ok (.newarray .int, 2)) (kk : ∀ (q : Nat) (H1 : Heap), va_P D mcl (ws ++ [(q, .inl (cA 0, N', .inl (fun _ => 0)))]) H1 → va_D A (ws ++ [(q, .inl (cA 0, N', .inl (fun _ => 0)))]) → va_S A H0 H1 locs → W p l e R s m args below meth c H1 locs (cells + 1) (slots + N') Q (F0 m (pc + 2) ls (.ref q :: rest))) : W p l e R s m args below meth c H locs cells slots Q (F0 m pc ls (.int n :: rest)) := by
  refine va_newa (atype := .int) (ty := .int) (a0 := (N', .inl (fun _ => 0))) hx hb (hts _ (mg_1 110 (by decide +kernel) (by decide +kernel))) rfl hK hP hD hS hA (fun _ => rfl) hn hN hbytes hcells hslots hdg (fun q c1 H1 K1 P1 D1 S1 => ?_)
  have e1 : c1 = cA 0 := na_u (va_nm_int (K1.2 6 _ rfl).2) (va_nm_int (hK.2 0 _ rfl).2)
  subst e1
  exact kk q H1 P1 D1 S1
theorem na_J {p : Program} {l : Launch} {e : Env} {R : Room} {s : State} {m : MethodId} {args : Array Value} {below : List Frame} {meth : Method} {c : Code} {cc : ByteArray} {D : va_G} {cA : Nat → ClassId} {ws : va_W} {A : Nat → Prop} {H0 H : Heap} {locs : List Loc} {cells slots : Nat} {Q : State → Prop} {pc : Nat} {ls : Array Slot} {rest : List Value} (hx : p.tables.exec = Jvm.exec) (hb : c.code = cc) (hts : ∀ w ∈ mG, w.before args s = true) (hK : va_K D mcl (mty cA) s) (hP : va_P D mcl ws H) (hD : va_D A ws) (hS : va_S A H0 H locs) (hA : ∀ q, H0.size ≤ q → A q) {n : Int32} (N' : Nat) (hn : ¬ n < 0) (hN : n.toNatClampNeg = N') (hbytes : N' * componentBytes .long ≤ 536870912) (hcells : cells + 1 ≤ R.cells) (hslots : slots + N' ≤ R.slots) (hdg : decode cc pc = .ok (.newarray .long, 2)) (kk : ∀ (q : Nat) (H1 : Heap), va_P D mcl (ws ++ [(q, .inl (cA 1, N', .inr (.inl (fun _ => 0))))]) H1 → va_D A (ws ++ [(q, .inl (cA 1, N', .inr (.inl (fun _ => 0))))]) → va_S A H0 H1 locs → W p l e R s m args below meth c H1 locs (cells + 1) (slots + N') Q (F0 m (pc + 2) ls (.ref q :: rest))) : W p l e R s m args below meth c H locs cells slots Q (F0 m pc ls (.int n :: rest)) := by
  refine va_newa (atype := .long) (ty := .long) (a0 := (N', .inr (.inl (fun _ => 0)))) hx hb (hts _ (mg_2 164 (by decide +kernel) (by decide +kernel))) rfl hK hP hD hS hA (fun _ => rfl) hn hN hbytes hcells hslots hdg (fun q c1 H1 K1 P1 D1 S1 => ?_)
  have e1 : c1 = cA 1 := na_u (va_nm_long (K1.2 6 _ rfl).2) (va_nm_long (hK.2 1 _ rfl).2)
  subst e1
  exact kk q H1 P1 D1 S1
theorem na_Z {p : Program} {l : Launch} {e : Env} {R : Room} {s : State} {m : MethodId} {args : Array Value} {below : List Frame} {meth : Method} {c : Code} {cc : ByteArray} {D : va_G} {cA : Nat → ClassId} {ws : va_W} {A : Nat → Prop} {H0 H : Heap} {locs : List Loc} {cells slots : Nat} {Q : State → Prop} {pc : Nat} {ls : Array Slot} {rest : List Value} (hx : p.tables.exec = Jvm.exec) (hb : c.code = cc) (hts : ∀ w ∈ mG, w.before args s = true) (hK : va_K D mcl (mty cA) s) (hP : va_P D mcl ws H) (hD : va_D A ws) (hS : va_S A H0 H locs) (hA : ∀ q, H0.size ≤ q → A q) {n : Int32} (N' : Nat) (hn : ¬ n < 0) (hN : n.toNatClampNeg = N') (hbytes : N' * componentBytes .boolean ≤ 536870912) (hcells : cells + 1 ≤ R.cells) (hslots : slots + N' ≤ R.slots) (hdg : decode cc pc = .ok (.newarray .boolean, 2)) (kk : ∀ (q : Nat) (H1 : Heap), va_P D mcl (ws ++ [(q, .inl (cA 2, N', .inl (fun _ => 0)))]) H1 → va_D A (ws ++ [(q, .inl (cA 2, N', .inl (fun _ => 0)))]) → va_S A H0 H1 locs → W p l e R s m args below meth c H1 locs (cells + 1) (slots + N') Q (F0 m (pc + 2) ls (.ref q :: rest))) : W p l e R s m args below meth c H locs cells slots Q (F0 m pc ls (.int n :: rest)) := by
  refine va_newa (atype := .boolean) (ty := .boolean) (a0 := (N', .inl (fun _ => 0))) hx hb (hts _ (mg_2 42 (by decide +kernel) (by decide +kernel))) rfl hK hP hD hS hA (fun _ => rfl) hn hN hbytes hcells hslots hdg (fun q c1 H1 K1 P1 D1 S1 => ?_)
  have e1 : c1 = cA 2 := na_u (va_nm_boolean (K1.2 6 _ rfl).2) (va_nm_boolean (hK.2 2 _ rfl).2)
  subst e1
  exact kk q H1 P1 D1 S1
theorem na_B {p : Program} {l : Launch} {e : Env} {R : Room} {s : State} {m : MethodId} {args : Array Value} {below : List Frame} {meth : Method} {c : Code} {cc : ByteArray} {D : va_G} {cA : Nat → ClassId} {ws : va_W} {A : Nat → Prop} {H0 H : Heap} {locs : List Loc} {cells slots : Nat} {Q : State → Prop} {pc : Nat} {ls : Array Slot} {rest : List Value} (hx : p.tables.exec = Jvm.exec) (hb : c.code = cc) (hts : ∀ w ∈ mG, w.before args s = true) (hK : va_K D mcl (mty cA) s) (hP : va_P D mcl ws H) (hD : va_D A ws) (hS : va_S A H0 H locs) (hA : ∀ q, H0.size ≤ q → A q) {n : Int32} (N' : Nat) (hn : ¬ n < 0) (hN : n.toNatClampNeg = N') (hbytes : N' * componentBytes .byte ≤ 536870912) (hcells : cells + 1 ≤ R.cells) (hslots : slots + N' ≤ R.slots) (hdg : decode cc pc = .ok (.newarray .byte, 2)) (kk : ∀ (q : Nat) (H1 : Heap), va_P D mcl (ws ++ [(q, .inl (cA 3, N', .inl (fun _ => 0)))]) H1 → va_D A (ws ++ [(q, .inl (cA 3, N', .inl (fun _ => 0)))]) → va_S A H0 H1 locs → W p l e R s m args below meth c H1 locs (cells + 1) (slots + N') Q (F0 m (pc + 2) ls (.ref q :: rest))) : W p l e R s m args below meth c H locs cells slots Q (F0 m pc ls (.int n :: rest)) := by
  refine va_newa (atype := .byte) (ty := .byte) (a0 := (N', .inl (fun _ => 0))) hx hb (hts _ (mg_1 109 (by decide +kernel) (by decide +kernel))) rfl hK hP hD hS hA (fun _ => rfl) hn hN hbytes hcells hslots hdg (fun q c1 H1 K1 P1 D1 S1 => ?_)
  have e1 : c1 = cA 3 := na_u (va_nm_byte (K1.2 6 _ rfl).2) (va_nm_byte (hK.2 3 _ rfl).2)
  subst e1
  exact kk q H1 P1 D1 S1
theorem ini_call {p : Program} {l : Launch} {e : Env} {R : Room} {s : State} {m : MethodId} {args : Array Value} {below : List Frame} {meth : Method} {c : Code} {cc : ByteArray} {D : va_G} {cA : Nat → ClassId} {ws : va_W} {A : Nat → Prop} {H0 H : Heap} {locs : List Loc} {cells slots : Nat} {Q : State → Prop} {pc : Nat} {ls : Array Slot} {rest : List Value} {own : String} {idx n nL : Nat} {im : MI} {q ci : Nat} {fs : List Value} {w1 : (Nat → Nat) → va_W} {rm : Room} {mc ms : Nat} (As : List Value) (hx : p.tables.exec = Jvm.exec) (hb : c.code = cc) (hml : c.maxLocals = nL) (hown : s.vm.findClass own = some m.cls) (hts : ∀ w ∈ mG, w.before args s = true) (hK : va_K D mcl (mty cA) s) (hE : nE s) (hM : cN l D cA im [(q, .inr (ci, fs))] w1 (.ref q :: As) rm mc ms) (lk : Cond.methodLink own idx im.1 ∈ mG) (ok : okNw im n) (hn : As.length = n) (hP : va_P D mcl (ws ++ [(q, .inr (ci, fs))]) H) (hD : va_D A (ws ++ [(q, .inr (ci, fs))])) (hS : va_S A H0 H locs) (hA : ∀ q, H0.size ≤ q → A q) (hrc : rm.cells = mc) (hrs : rm.slots = ms) (hR : rm.frames + 1 ≤ R.frames ∧ 64 + rm.locals ≤ R.locals) (hsz : ls.size = nL) (hw : (rest.map fun v => v.category).sum ≤ 8) (dg : decode cc pc = .ok (.invokespecial idx, 3)) (hf : cells + mc ≤ R.cells ∧ slots + ms ≤ R.slots) (kk : ∀ (a : Nat → Nat) (H1 : Heap) (locs1 : List Loc), va_P D mcl (ws ++ w1 a) H1 → va_D A (ws ++ w1 a) → va_S A H0 H1 locs1 → W p l e R s m args below meth c H1 locs1 (cells + mc) (slots + ms) Q (F0 m (pc + 3) ls rest)) : W p l e R s m args below meth c H locs cells slots Q (F0 m pc ls (As.reverse ++ .ref q :: rest)) := by
  obtain ⟨okm, okn, oki, oknm, okret⟩ := ok
  obtain ⟨iy, ic, il, ir⟩ := im
  have okret : ir = none := okret
  subst okret
  have hPc := va_P_one hP
  have hDc := va_D_one hD
  have hFc := va_free (wc := [(q, .inr (ci, fs))]) hD hS hA [ws.length] hC_one
  refine va_callv (va_runI (nL := nL) (own := own) (As := As) (rest := rest) ⟨hx, hb, hml, hown, hts⟩ (hM H.size) (cwI n hts (mwG _ okm) rfl hrc hrs (hts _ okm.2.2.2) (hts _ lk) (hts _ oki) oknm okn ⟨hR.1, mroom hR.2 okm⟩) ⟨fun a U g mk q => by obtain ⟨q0, q1, qP, qK, qD, qE⟩ := q; exact ⟨q0, q1, qP, va_K.moved (u := U) (U := U.calling g mk a) (Vm.Alike.refl U.vm) qK, qD, nE_same qE⟩, fun U hU hW => ⟨rfl, by rw [hU], by rw [hU]; exact hPc, va_K.moved hW.alike hK, hDc, nE_warm hW hE⟩⟩ rfl hn hsz rfl (lv_room hw) dg hf) hS (fun q _ h => hFc q h) hFc (fun u t H1 locs1 ht hvm hw1 hB hz1 hk1 hS1 => ?_)
  obtain ⟨a, hP1, hK1, hD1⟩ := hB
  rw [ht] at hP1
  obtain ⟨P2, D2⟩ := va_join (wr := ws) (w1 := w1 a) hP hD [ws.length] (List.range' 0 ws.length) hC_one hR_all (nd_mem _ _) (fun i hi h => by
    have h1 := (List.mem_range'_1.mp hi).2
    have h2 := List.mem_singleton.mp h
    omega) hk1 hFc hP1 hD1
  exact kk a H1 locs1 P2 D2 hS1
theorem ini_callN {p : Program} {l : Launch} {e : Env} {R : Room} {s : State} {m : MethodId} {args : Array Value} {below : List Frame} {meth : Method} {c : Code} {cc : ByteArray} {D : va_G} {cA : Nat → ClassId} {ws : va_W} {A : Nat → Prop} {H0 H : Heap} {locs : List Loc} {cells slots : Nat} {Q : State → Prop} {pc : Nat} {ls : Array Slot} {rest : List Value} {own : String} {idx n nL : Nat} {im : MI} {q ci : Nat} {fs : List Value} {w1 : (Nat → Nat) → va_W} {rm : Room} {mc ms : Nat} (As : List Value) (hx : p.tables.exec = Jvm.exec) (hb : c.code = cc) (hml : c.maxLocals = nL) (hown : s.vm.findClass own = some m.cls) (hts : ∀ w ∈ mG, w.before args s = true) (hK : va_K D mcl (mty cA) s) (hE : nE s) (hM : cN l D cA im [(q, .inr (ci, fs))] w1 (.ref q :: As) rm mc ms) (lk : (own, idx, im.1) ∈ mNI) (ok : okNw im n) (hn : As.length = n) (hP : va_P D mcl (ws ++ [(q, .inr (ci, fs))]) H) (hD : va_D A (ws ++ [(q, .inr (ci, fs))])) (hS : va_S A H0 H locs) (hA : ∀ q, H0.size ≤ q → A q) (hrc : rm.cells = mc) (hrs : rm.slots = ms) (hR : rm.frames + 1 ≤ R.frames ∧ 64 + rm.locals ≤ R.locals) (hsz : ls.size = nL) (hw : (rest.map fun v => v.category).sum ≤ 8) (dg : decode cc pc = .ok (.invokespecial idx, 3)) (hf : cells + mc ≤ R.cells ∧ slots + ms ≤ R.slots) (kk : ∀ (a : Nat → Nat) (H1 : Heap) (locs1 : List Loc), va_P D mcl (ws ++ w1 a) H1 → va_D A (ws ++ w1 a) → va_S A H0 H1 locs1 → W p l e R s m args below meth c H1 locs1 (cells + mc) (slots + ms) Q (F0 m (pc + 3) ls rest)) : W p l e R s m args below meth c H locs cells slots Q (F0 m pc ls (As.reverse ++ .ref q :: rest)) := by
  obtain ⟨okm, okn, oki, oknm, okret⟩ := ok
  obtain ⟨iy, ic, il, ir⟩ := im
  have okret : ir = none := okret
  subst okret
  have hPc := va_P_one hP
  have hDc := va_D_one hD
  have hFc := va_free (wc := [(q, .inr (ci, fs))]) hD hS hA [ws.length] hC_one
  refine va_callv (va_runIN (nL := nL) (own := own) (As := As) (rest := rest) ⟨hx, hb, hml, hown, hts⟩ (hM H.size) ⟨va_cnB n hts (mwG _ okm) rfl hrc hrs (hE.1 _ lk) (hts _ okm.2.2.2) okn ⟨hR.1, mroom hR.2 okm⟩, oknm, hts _ oki⟩ ⟨fun a U g mk q => by obtain ⟨q0, q1, qP, qK, qD, qE⟩ := q; exact ⟨q0, q1, qP, va_K.moved (u := U) (U := U.calling g mk a) (Vm.Alike.refl U.vm) qK, qD, nE_same qE⟩, fun U hU hW => ⟨rfl, by rw [hU], by rw [hU]; exact hPc, va_K.moved hW.alike hK, hDc, nE_warm hW hE⟩⟩ rfl hn hsz rfl (lv_room hw) dg hf) hS (fun q _ h => hFc q h) hFc (fun u t H1 locs1 ht hvm hw1 hB hz1 hk1 hS1 => ?_)
  obtain ⟨a, hP1, hK1, hD1⟩ := hB
  rw [ht] at hP1
  obtain ⟨P2, D2⟩ := va_join (wr := ws) (w1 := w1 a) hP hD [ws.length] (List.range' 0 ws.length) hC_one hR_all (nd_mem _ _) (fun i hi h => by
    have h1 := (List.mem_range'_1.mp hi).2
    have h2 := List.mem_singleton.mp h
    omega) hk1 hFc hP1 hD1
  exact kk a H1 locs1 P2 D2 hS1
theorem na_Q5 {p : Program} {l : Launch} {e : Env} {R : Room} {s : State} {m : MethodId} {args : Array Value} {below : List Frame} {meth : Method} {c : Code} {cc : ByteArray} {D : va_G} {cA : Nat → ClassId} {ws : va_W} {A : Nat → Prop} {H0 H : Heap} {locs : List Loc} {cells slots : Nat} {Q : State → Prop} {pc : Nat} {ls : Array Slot} {rest : List Value} {own : String} {index : Nat} (hx : p.tables.exec = Jvm.exec) (hb : c.code = cc) (hown : s.vm.findClass own = some m.cls) (hclink : (Cond.classLink own index RX8).before args s = true) (hover : va_AO RX8 s) (hK : va_K D mcl (mty cA) s) (hP : va_P D mcl ws H) (hD : va_D A ws) (hS : va_S A H0 H locs) (hA : ∀ q, H0.size ≤ q → A q) {n : Int32} (N' : Nat) (hn : ¬ n < 0) (hN : n.toNatClampNeg = N') (hbytes : N' * 4 ≤ 536870912) (hcells : cells + 1 ≤ R.cells) (hslots : slots + N' ≤ R.slots) (hdg : decode cc pc = .ok (.anewarray index, 3)) (kk : ∀ (q : Nat) (H1 : Heap), va_P D mcl (ws ++ [(q, .inl (cA 5, N', .inr (.inr (.inr (.inr (fun _ => none))))))]) H1 → va_D A (ws ++ [(q, .inl (cA 5, N', .inr (.inr (.inr (.inr (fun _ => none))))))]) → va_S A H0 H1 locs → W p l e R s m args below meth c H1 locs (cells + 1) (slots + N') Q (F0 m (pc + 3) ls (.ref q :: rest))) : W p l e R s m args below meth c H locs cells slots Q (F0 m pc ls (.int n :: rest)) := by
  refine va_newq hx hb hown hclink hover hK hP hD hS hA hn hN hbytes hcells hslots hdg (fun q c1 H1 K1 P1 D1 S1 => ?_)
  have e1 : c1 = cA 5 := na_u (va_nmO (K1.2 6 _ rfl).2 rfl) (va_nmO (hK.2 5 _ rfl).2 rfl)
  subst e1
  exact kk q H1 P1 D1 S1
theorem na_Q4 {p : Program} {l : Launch} {e : Env} {R : Room} {s : State} {m : MethodId} {args : Array Value} {below : List Frame} {meth : Method} {c : Code} {cc : ByteArray} {D : va_G} {cA : Nat → ClassId} {ws : va_W} {A : Nat → Prop} {H0 H : Heap} {locs : List Loc} {cells slots : Nat} {Q : State → Prop} {pc : Nat} {ls : Array Slot} {rest : List Value} {own : String} {index : Nat} (hx : p.tables.exec = Jvm.exec) (hb : c.code = cc) (hown : s.vm.findClass own = some m.cls) (hclink : (Cond.classLink own index RX5).before args s = true) (hover : va_AO RX5 s) (hK : va_K D mcl (mty cA) s) (hP : va_P D mcl ws H) (hD : va_D A ws) (hS : va_S A H0 H locs) (hA : ∀ q, H0.size ≤ q → A q) {n : Int32} (N' : Nat) (hn : ¬ n < 0) (hN : n.toNatClampNeg = N') (hbytes : N' * 4 ≤ 536870912) (hcells : cells + 1 ≤ R.cells) (hslots : slots + N' ≤ R.slots) (hdg : decode cc pc = .ok (.anewarray index, 3)) (kk : ∀ (q : Nat) (H1 : Heap), va_P D mcl (ws ++ [(q, .inl (cA 4, N', .inr (.inr (.inr (.inr (fun _ => none))))))]) H1 → va_D A (ws ++ [(q, .inl (cA 4, N', .inr (.inr (.inr (.inr (fun _ => none))))))]) → va_S A H0 H1 locs → W p l e R s m args below meth c H1 locs (cells + 1) (slots + N') Q (F0 m (pc + 3) ls (.ref q :: rest))) : W p l e R s m args below meth c H locs cells slots Q (F0 m pc ls (.int n :: rest)) := by
  refine va_newq hx hb hown hclink hover hK hP hD hS hA hn hN hbytes hcells hslots hdg (fun q c1 H1 K1 P1 D1 S1 => ?_)
  have e1 : c1 = cA 4 := na_u (va_nmO (K1.2 6 _ rfl).2 rfl) (va_nmO (hK.2 4 _ rfl).2 rfl)
  subst e1
  exact kk q H1 P1 D1 S1
