/-! GROUP N3: a static call in a making's world; 'plain' of the reference, by its rows. -/
theorem st_call {p : Program} {l : Launch} {e : Env} {R : Room} {s : State} {m : MethodId} {args : Array Value} {below : List Frame} {meth : Method} {c : Code} {cc : ByteArray} {D : va_G} {cA : Nat → ClassId} {ws : va_W} {A : Nat → Prop} {H0 H : Heap} {locs : List Loc} {cells slots : Nat} {Q : State → Prop} {pc : Nat} {ls : Array Slot} {rest : List Value} {idx n nL : Nat} {mi im : MI} {x : Nat × va_E} {w1 : (Nat → Nat) → va_W} {rm : Room} (As : List Value) (hx : p.tables.exec = Jvm.exec) (hb : c.code = cc) (hml : c.maxLocals = nL) (hown : s.vm.findClass mi.1.cls = some m.cls) (hts : ∀ w ∈ mG, w.before args s = true) (hK : va_K D mcl (mty cA) s) (hE : nE s) (hM : cN l D cA im [x] w1 As rm 0 0) (lk : Cond.methodLink mi.1.cls idx im.1 ∈ mG) (ok : okS im n) (hn : As.length = n) (hP : va_P D mcl (ws ++ [x]) H) (hD : va_D A (ws ++ [x])) (hS : va_S A H0 H locs) (hA : ∀ q, H0.size ≤ q → A q) (hrc : rm.cells = 0) (hrs : rm.slots = 0) (hR : rm.frames + 1 ≤ R.frames ∧ 64 + rm.locals ≤ R.locals) (hsz : ls.size = nL) (hw : (rest.map fun v => v.category).sum ≤ 8) (dg : decode cc pc = .ok (.invokestatic idx, 3)) (hf : cells + 0 ≤ R.cells ∧ slots + 0 ≤ R.slots) (kk : ∀ (a : Nat → Nat) (H1 : Heap) (locs1 : List Loc), va_P D mcl (ws ++ w1 a) H1 → va_D A (ws ++ w1 a) → va_S A H0 H1 locs1 → W p l e R s m args below meth c H1 locs1 cells slots Q (F0 m (pc + 3) ls rest)) : W p l e R s m args below meth c H locs cells slots Q (F0 m pc ls (As.reverse ++ rest)) := by
  have hPc := va_P_one hP
  have hDc := va_D_one hD
  have hFc := va_free (wc := [x]) hD hS hA [ws.length] hC_one
  refine va_callv (va_runS (nL := nL) (own := mi.1.cls) (As := As) (rest := rest) ⟨hx, hb, hml, hown, hts⟩ (hM H.size) (va_cwS n hts (mwS mi lk ok) rfl hrc hrs ok.2.1 ⟨hR.1, mroom hR.2 ok.1⟩) ⟨fun a U g mk q => by obtain ⟨q0, q1, qP, qK, qD, qE⟩ := q; exact ⟨q0, q1, qP, va_K.moved (u := U) (U := U.calling g mk a) (Vm.Alike.refl U.vm) qK, qD, nE_same qE⟩, fun U hU hW => ⟨rfl, by rw [hU], by rw [hU]; exact hPc, va_K.moved hW.alike hK, hDc, nE_warm hW hE⟩⟩ rfl hn hsz rfl (lv_room hw) dg hf) hS (fun q _ h => hFc q h) hFc (fun u t H1 locs1 ht hvm hw1 hB hz1 hk1 hS1 => ?_)
  obtain ⟨a, hP1, hK1, hD1⟩ := hB
  rw [ht] at hP1
  obtain ⟨P2, D2⟩ := va_join (wr := ws) (w1 := w1 a) hP hD [ws.length] (List.range' 0 ws.length) hC_one hR_all (nd_mem _ _) (fun i hi h => by
    have h1 := (List.mem_range'_1.mp hi).2
    have h2 := List.mem_singleton.mp h
    omega) hk1 hFc hP1 hD1
  exact kk a H1 locs1 P2 D2 hS1
def plN (i : Nat) : Int32 := if nI i = 0 then 1 else if nI i = 36 then 3 else if nI i = 37 then 20 else if nI i = 38 then 40 else 0
set_option maxHeartbeats 4000000 in
theorem pln_loop {p : Program} {l : Launch} {e : Env} {R : Room} {s : State} {m : MethodId} {args : Array Value} {below : List Frame} {meth : Method} {c : Code} {D : va_G} {cA : Nat → ClassId} {A : Nat → Prop} {H0 : Heap} {cells slots : Nat} {Q : State → Prop} {q : Nat} {f : Nat → Int32} (hx : p.tables.exec = Jvm.exec) (hb : c.code = cX11_plain) (hK : va_K D mcl (mty cA) s) (kk : ∀ (H1 : Heap) (locs1 : List Loc) (ls1 : Array Slot), va_P D mcl [(q, .inl (cA 0, 1734, .inl (fun j => if j < 477 then plN j else f j)))] H1 → va_D A [(q, .inl (cA 0, 1734, .inl (fun j => if j < 477 then plN j else f j)))] → va_S A H0 H1 locs1 → W p l e R s m args below meth c H1 locs1 cells slots Q (F0 m 59 ls1 [])) : ∀ (N i : Nat) (g : Nat → Int32) (H : Heap) (locs : List Loc) (ls : Array Slot), i + N = 477 → g = (fun j => if j < i then plN j else f j) → va_P D mcl [(q, .inl (cA 0, 1734, .inl g))] H → va_D A [(q, .inl (cA 0, 1734, .inl g))] → va_S A H0 H locs → lv_has ls 2 [(1, .int (nI i)), (0, .ref q)] → W p l e R s m args below meth c H locs cells slots Q (F0 m 2 ls []) := by
  intro N
  induction N with
  | zero =>
    intro i g H locs ls hi hg hP hD hS hl
    have e : i = 477 := by omega
    subst e
    subst hg
    refine lv_iload_n hx hb dX11_plain_2 rfl (lv_at hl 0 rfl) ?_
    refine lv_sipush (v := nI 477) hx hb dX11_plain_3 (by decide) ?_
    refine lv_icmp_ge (tgt := 59) hx hb dX11_plain_6 (by decide) (fun _ => ?_) (fun h => absurd (nI_le (Nat.le_refl 477) (by decide)) h)
    exact kk H locs ls hP hD hS
  | succ N ih =>
    intro i g H locs ls hi hg hP hD hS hl
    have hlt : i < 477 := by omega
    refine lv_iload_n hx hb dX11_plain_2 rfl (lv_at hl 0 rfl) ?_
    refine lv_sipush (v := nI 477) hx hb dX11_plain_3 (by decide) ?_
    refine lv_icmp_ge (tgt := 59) hx hb dX11_plain_6 (by decide) (fun h => absurd h (nI_ge hlt (by decide))) (fun _ => ?_)
    refine lv_aload_n hx hb dX11_plain_9 rfl (lv_at hl 1 rfl) ?_
    refine lv_iload_n hx hb dX11_plain_10 rfl (lv_at hl 0 rfl) ?_
    refine lv_iload_n hx hb dX11_plain_11 rfl (lv_at hl 0 rfl) ?_
    have join : W p l e R s m args below meth c H locs cells slots Q (F0 m 52 ls [.int (plN i), .int (nI i), .ref q]) := by
      refine va_iast hx hb hK hP hD hS 0 0 rfl rfl (vp_in_nI (by omega) (by omega)) dX11_plain_52 (fun H locs hP hD hS => ?_)
      rw [nI_clamp (by omega)] at hP hD
      refine lv_iinc (v := nI (i + 1)) (lv' := [(1, .int (nI (i + 1))), (0, .ref q)]) hx hb dX11_plain_53 hl (k := 0) rfl (nI_1 i) (by decide) rfl (fun ls hl => ?_)
      refine lv_goto (tgt := 2) hx hb dX11_plain_56 (by decide) ?_
      refine ih (i + 1) (upd g i (plN i)) H locs ls (by omega) ?_ hP hD hS hl
      subst hg
      funext j
      show (if j = i then plN i else if j < i then plN j else f j) = _
      by_cases h1 : j = i
      · subst h1; rw [if_pos rfl, if_pos (by omega)]
      · rw [if_neg h1]
        by_cases h2 : j < i
        · rw [if_pos h2, if_pos (by omega)]
        · rw [if_neg h2, if_neg (by omega)]
    refine lv_if_ne (tgt := 19) hx hb dX11_plain_12 (by decide) (fun n0 => ?_) (fun z0 => ?_)
    · refine lv_iload_n hx hb dX11_plain_19 rfl (lv_at hl 0 rfl) ?_
      refine lv_bipush (v := 36) hx hb dX11_plain_20 (by decide) ?_
      refine lv_icmp_ne (tgt := 29) hx hb dX11_plain_22 (by decide) (fun n1 => ?_) (fun z1 => ?_)
      · refine lv_iload_n hx hb dX11_plain_29 rfl (lv_at hl 0 rfl) ?_
        refine lv_bipush (v := 37) hx hb dX11_plain_30 (by decide) ?_
        refine lv_icmp_ne (tgt := 40) hx hb dX11_plain_32 (by decide) (fun n2 => ?_) (fun z2 => ?_)
        · refine lv_iload_n hx hb dX11_plain_40 rfl (lv_at hl 0 rfl) ?_
          refine lv_bipush (v := 38) hx hb dX11_plain_41 (by decide) ?_
          refine lv_icmp_ne (tgt := 51) hx hb dX11_plain_43 (by decide) (fun n3 => ?_) (fun z3 => ?_)
          · refine lv_iconst (v := 0) hx hb dX11_plain_51 (by decide) ?_
            have ev : plN i = 0 := by unfold plN; rw [if_neg n0, if_neg n1, if_neg n2, if_neg n3]
            rw [ev] at join; exact join
          · refine lv_bipush (v := 40) hx hb dX11_plain_46 (by decide) ?_
            refine lv_goto (tgt := 52) hx hb dX11_plain_48 (by decide) ?_
            have ev : plN i = 40 := by unfold plN; rw [if_neg n0, if_neg n1, if_neg n2, if_pos z3]
            rw [ev] at join; exact join
        · refine lv_bipush (v := 20) hx hb dX11_plain_35 (by decide) ?_
          refine lv_goto (tgt := 52) hx hb dX11_plain_37 (by decide) ?_
          have ev : plN i = 20 := by unfold plN; rw [if_neg n0, if_neg n1, if_pos z2]
          rw [ev] at join; exact join
      · refine lv_iconst (v := 3) hx hb dX11_plain_25 (by decide) ?_
        refine lv_goto (tgt := 52) hx hb dX11_plain_26 (by decide) ?_
        have ev : plN i = 3 := by unfold plN; rw [if_neg n0, if_pos z1]
        rw [ev] at join; exact join
    · refine lv_iconst (v := 1) hx hb dX11_plain_15 (by decide) ?_
      refine lv_goto (tgt := 52) hx hb dX11_plain_16 (by decide) ?_
      have ev : plN i = 1 := by unfold plN; rw [if_pos z0]
      rw [ev] at join; exact join
set_option maxHeartbeats 4000000 in
theorem c_pln (l : Launch) (D : va_G) (cA : Nat → ClassId) (q : Nat) (f : Nat → Int32) : cN l D cA mX11_plain [(q, .inl (cA 0, 1734, .inl f))] (fun _ => [(q, .inl (cA 0, 1734, .inl (fun j => if j < 477 then plN j else f j)))]) [.ref q] { frames := 1, cells := 0, slots := 0, locals := 20 } 0 0 := by
  intro sz
  refine Met.ofW (cc := cX11_plain) (maxL := 2) (ret := none) (by decide +kernel) rfl ?_
  intro p e s m args below meth c s₁ B hml hv
  obtain ⟨rfl, hsz, hP, hK, hD0, hE⟩ := hv
  have hx := B.exec
  have hb := B.bytes
  have hr := B.returns
  subst hsz
  have hD := hD0.self (sz := s.heap.size)
  generalize hAe : va_A [(q, .inl (cA 0, 1734, .inl f))] s.heap.size = A at hD ⊢
  have hS : va_S A s.heap s.heap [] := va_S.rf
  have hl := lv_entry ([.ref q]) (n := 2) (Nat.le_of_ble_eq_true rfl)
  rw [lg_entry_eq]
  generalize (lg_sl ([.ref q]) ++ List.replicate (2 - (lg_sl ([.ref q])).length) Slot.unset).toArray = ls at hl ⊢
  have hl : lv_has ls 2 [(0, .ref q)] := hl
  refine lv_iconst (v := nI 0) hx hb dX11_plain_0 (by decide) ?_
  refine lv_istore_n (lv' := [(1, .int (nI 0)), (0, .ref q)]) hx hb dX11_plain_1 rfl hl (by decide) rfl (fun ls hl => ?_)
  refine pln_loop (f := f) hx hb hK (fun H locs ls hP hD hS => ?_) 477 0 f s.heap [] ls rfl (by funext j; rw [if_neg (by omega)]) hP hD hS hl
  exact W.vret hx hb hr (fun t ht hW => ⟨⟨(), rfl, trivial, fun _ => 0, by rw [ht]; exact hP, va_K.moved hW.alike hK, hD⟩, hS.F ht⟩) hS.2.2 dX11_plain_59
