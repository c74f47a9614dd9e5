/-! GROUP H3: the reference's tokens. -/
def run (P : Int → Bool) (T : Nat → Int) (n : Nat) : Nat → Nat → Nat
  | 0, p => p
  | f + 1, p => if p < n ∧ P (T p) = true then run P T n f (p + 1) else p
/-- the first place from p on where it is not so, or the end -/
def rn (P : Int → Bool) (T : Nat → Int) (n p : Nat) : Nat := run P T n (n - p) p
theorem rn_s {P : Int → Bool} {T : Nat → Int} {n p : Nat} (h : p < n) (hp : P (T p) = true) : rn P T n p = rn P T n (p + 1) := by
  unfold rn
  rw [show n - p = (n - (p + 1)) + 1 by omega]
  exact if_pos ⟨h, hp⟩
theorem rn_e {P : Int → Bool} {T : Nat → Int} {n p : Nat} (h : ¬ (p < n ∧ P (T p) = true)) : rn P T n p = p := by
  unfold rn
  cases hf : n - p with
  | zero => rfl
  | succ f => exact if_neg h
def isW (v : Int) : Bool := decide (v = 10 ∨ v = 32)
def isL (v : Int) : Bool := decide (97 ≤ v ∧ v ≤ 122)
def isN (v : Int) : Bool := decide (48 ≤ v ∧ v ≤ 57)
/-- the number of k digits -/
def dgv (T : Nat → Int) (a : Nat) : Nat → Int
  | 0 => 0
  | k + 1 => 10 * dgv T a k + T (a + k) - 48
theorem dgv_bd {T : Nat → Int} {a : Nat} (k : Nat) (h : ∀ j, j < k → 48 ≤ T (a + j) ∧ T (a + j) ≤ 57) (hk : k ≤ 3) : 0 ≤ dgv T a k ∧ (k = 0 → dgv T a k ≤ 0) ∧ (k ≤ 1 → dgv T a k ≤ 9) ∧ (k ≤ 2 → dgv T a k ≤ 99) ∧ dgv T a k ≤ 999 := by
  have z : dgv T a 0 = 0 := rfl
  have s0 : dgv T a 1 = 10 * dgv T a 0 + T (a + 0) - 48 := rfl
  have s1 : dgv T a 2 = 10 * dgv T a 1 + T (a + 1) - 48 := rfl
  have s2 : dgv T a 3 = 10 * dgv T a 2 + T (a + 2) - 48 := rfl
  rcases (show k = 0 ∨ k = 1 ∨ k = 2 ∨ k = 3 by omega) with e | e | e | e <;> subst e
  · omega
  · have h0 := h 0 (by omega); omega
  · have h0 := h 0 (by omega); have h1 := h 1 (by omega); omega
  · have h0 := h 0 (by omega); have h1 := h 1 (by omega); have h2 := h 2 (by omega); omega
def tkA (T : Nat → Int) (n b : Nat) : Nat := rn isW T n b
def tkE (T : Nat → Int) (n b : Nat) : Nat := if n ≤ tkA T n b then tkA T n b else if isL (T (tkA T n b)) = true then rn isL T n (tkA T n b) else if isN (T (tkA T n b)) = true then rn isN T n (tkA T n b) else tkA T n b + 1
def tkK (T : Nat → Int) (n b : Nat) : Int := if n ≤ tkA T n b then 34 else if isL (T (tkA T n b)) = true then kwF T (tkA T n b) (tkE T n b) else if isN (T (tkA T n b)) = true then (if tkE T n b - tkA T n b ≤ 3 then 30 else 35) else if T (tkA T n b) = 59 then 31 else if T (tkA T n b) = 40 then 32 else if T (tkA T n b) = 41 then 33 else 35
/-- the number, or what was there -/
def tkV (T : Nat → Int) (n b : Nat) (o : Int) : Int := if n ≤ tkA T n b then o else if isL (T (tkA T n b)) = true then o else if isN (T (tkA T n b)) = true then dgv T (tkA T n b) (if tkE T n b - tkA T n b ≤ 3 then tkE T n b - tkA T n b else 3) else o
/-- the next token is seen -/
def NxP (H H1 : ZH) (T : Nat → Int) (n b : Nat) : Prop := H1.1 0 7 = (tkA T n b : Int) ∧ H1.1 0 8 = (tkE T n b : Int) ∧ H1.1 0 10 = tkK T n b ∧ H1.1 0 11 = tkV T n b (H.1 0 11) ∧ (∀ cc k, ¬ (cc = 0 ∧ (k = 7 ∨ k = 8 ∨ k = 10 ∨ k = 11)) → H1.1 cc k = H.1 cc k) ∧ H1.2 = H.2
theorem kwF_bd (T : Nat → Int) (a e : Nat) : 0 ≤ kwF T a e ∧ kwF T a e ≤ 29 := by
  have z := lea_bd (kmB T a e) 29
  unfold kwF
  split <;> omega

theorem c_X11_next {d : Nat} {H : ZH} (ok : okZ H) {n b : Nat} (hn : n ≤ 400) (hb : b ≤ n) (h8 : H.1 0 8 = (b : Int)) (h9 : H.1 0 9 = (n : Int)) (ht : ∀ k, 0 ≤ H.1 4 k ∧ H.1 4 k ≤ 255) : EvC zX (d + 2) mX11_next [.ref 0] (eh H) (zPv (fun (H1 : ZH) => NxP H H1 (H.1 4) n b)) := by
  show _ ∧ Ev zX mX11_next (EvC zX (d + 1)) (zPv (fun (H1 : ZH) => NxP H H1 (H.1 4) n b)) 0 [(0, .ref 0)] [] (eh H)
  refine ⟨Nat.le_of_ble_eq_true rfl, ?_⟩
  refine x_aload_n (pc := 0) dX11_next_0 (List.Mem.head _) ?_
  refine x_aload_n (pc := 1) dX11_next_1 (List.Mem.head _) ?_
  refine z_getI (pc := 2) (k := 8) (v := (b : Int)) dX11_next_2 lf_X11_111 sh_0 rfl h8 ?_
  refine z_putI (pc := 5) (k := 7) dX11_next_5 lp_X11_108 sh_0 rfl ?_
  have ok1 := okI ok 0 7 (v := ((b : Int))) (by omega) (by omega)
  have lp8 : ∀ (nF : Nat) (p : Nat) (Ha : ZH), okZ Ha → (p ≤ n) → (Ha.1 0 7 = (p : Int)) → (∀ cc k, ¬ (cc = 0 ∧ k = 7) → Ha.1 cc k = H.1 cc k) → (Ha.2 = H.2) → (tkA (H.1 4) n b = rn isW (H.1 4) n p) → n - p < nF → Ev zX mX11_next (EvC zX (d + 1)) (zPv (fun (H1 : ZH) => NxP H H1 (H.1 4) n b)) 8 [(0, .ref 0)] [] (eh Ha) := by
    intro nF
    induction nF with
    | zero => intro p Ha okl8 hp a7 af aJ ar hm; exact absurd hm (Nat.not_lt_zero _)
    | succ nF ih8 =>
      intro p Ha okl8 hp a7 af aJ ar hm
      have a9 : Ha.1 0 9 = (n : Int) := (af 0 9 (by omega)).trans h9
      have a4 : Ha.1 4 = H.1 4 := funext (fun j => af 4 j (by omega))
      have htp := ht p
      have sv : (p < n ∧ (if ((p : Nat) : Int) < Ha.1 0 9 then Ha.1 4 p else -1) = H.1 4 p) ∨ (n ≤ p ∧ (if ((p : Nat) : Int) < Ha.1 0 9 then Ha.1 4 p else -1) = -1) := by
        rw [a9, a4]
        by_cases z : p < n
        · exact Or.inl ⟨z, if_pos (by omega)⟩
        · exact Or.inr ⟨by omega, if_neg (by omega)⟩
      refine x_aload_n (pc := 8) dX11_next_8 (List.Mem.head _) ?_
      refine x_aload_n (pc := 9) dX11_next_9 (List.Mem.head _) ?_
      refine z_getI (pc := 10) (k := 7) (v := (p : Int)) dX11_next_10 lf_X11_108 sh_0 rfl a7 ?_
      refine z_callVip (pc := 13) (i := mX11_see) (S := []) [.int (zN (((p : Int))))] dX11_next_13 ml_X11_114 ok_X11_see rfl sh_0 rfl (Or.inl rfl) (Nat.le_of_ble_eq_true rfl) (c_X11_see (d := d) (k := p) (hk := (by omega)) (ok := okl8) (hsz := (by omega))) (fun r2a r2b ok3 => ?_)
      refine z_bipush (pc := 16) dX11_next_16 bp_10 ?_
      refine z_icmp_eq (pc := 18) (tgt := 34) dX11_next_18 (by decide) (by omega) (by omega) (by decide) (by decide) (fun hb4 => ?_) (fun hb4 => ?_)
      · skip
        have hWp : p < n ∧ (H.1 4 p = 10 ∨ H.1 4 p = 32) := by omega
        refine x_aload_n (pc := 34) dX11_next_34 (List.Mem.head _) ?_
        refine x_dup (pc := 35) dX11_next_35 rfl ?_
        refine z_getI (pc := 36) (k := 7) (v := (p : Int)) dX11_next_36 lf_X11_108 sh_0 rfl a7 ?_
        refine z_iconst (pc := 39) dX11_next_39 ?_
        refine z_iadd (pc := 40) dX11_next_40 ?_
        refine z_putI (pc := 41) (k := 7) dX11_next_41 lp_X11_108 sh_0 rfl ?_
        have ok5 := okI ok3 0 7 (v := (((p : Int)) + 1)) (by omega) (by omega)
        refine x_goto (pc := 44) (tgt := 8) dX11_next_44 (by decide) ?_
        refine x_weaken (L1 := [(0, .ref 0)]) (List.forall_mem_cons.mpr ⟨(List.Mem.head _), (fun _ h => absurd h List.not_mem_nil)⟩) ?_
        exact ih8 ((p + 1)) (wI Ha 0 7 ((((p : Int)) + 1))) ok5 (by omega) (by rw [wI1]; omega) (fun cc k h => by rw [wIg, if_neg h]; exact af cc k h) (aJ) (ar.trans (rn_s (by omega) (decide_eq_true (by omega)))) (by omega)
      · skip
        refine x_aload_n (pc := 21) dX11_next_21 (List.Mem.head _) ?_
        refine x_aload_n (pc := 22) dX11_next_22 (List.Mem.head _) ?_
        refine z_getI (pc := 23) (k := 7) (v := (p : Int)) dX11_next_23 lf_X11_108 sh_0 rfl a7 ?_
        refine z_callVip (pc := 26) (i := mX11_see) (S := []) [.int (zN (((p : Int))))] dX11_next_26 ml_X11_114 ok_X11_see rfl sh_0 rfl (Or.inl rfl) (Nat.le_of_ble_eq_true rfl) (c_X11_see (d := d) (k := p) (hk := (by omega)) (ok := ok3) (hsz := (by omega))) (fun r6a r6b ok7 => ?_)
        refine z_bipush (pc := 29) dX11_next_29 bp_32 ?_
        refine z_icmp_ne (pc := 31) (tgt := 47) dX11_next_31 (by decide) (by omega) (by omega) (by decide) (by decide) (fun hb8 => ?_) (fun hb8 => ?_)
        · skip
          refine x_aload_n (pc := 47) dX11_next_47 (List.Mem.head _) ?_
          refine x_aload_n (pc := 48) dX11_next_48 (List.Mem.head _) ?_
          refine z_getI (pc := 49) (k := 7) (v := (p : Int)) dX11_next_49 lf_X11_108 sh_0 rfl a7 ?_
          refine z_putI (pc := 52) (k := 8) dX11_next_52 lp_X11_111 sh_0 rfl ?_
          have ok9 := okI ok7 0 8 (v := ((p : Int))) (by omega) (by omega)
          obtain ⟨Hc, hHc⟩ : ∃ Hc, Hc = (wI Ha 0 8 (((p : Int)))) := ⟨_, rfl⟩
          rw [← hHc]
          have okHc : okZ Hc := by rw [hHc]; exact ok9
          have c8 : Hc.1 0 8 = (p : Int) := by rw [hHc, wI1]
          have c7 : Hc.1 0 7 = (p : Int) := by rw [hHc, wI1k (by omega)]; exact a7
          have c9 : Hc.1 0 9 = (n : Int) := by rw [hHc, wI1k (by omega)]; exact a9
          have c4 : Hc.1 4 = H.1 4 := by rw [hHc, wIf (by omega)]; exact a4
          have cf : ∀ cc k, ¬ (cc = 0 ∧ (k = 7 ∨ k = 8)) → Hc.1 cc k = H.1 cc k := fun cc k h => by rw [hHc, wIg, if_neg (by omega)]; exact af cc k (by omega)
          have cJ : Hc.2 = H.2 := by rw [hHc]; exact aJ
          have eA : tkA (H.1 4) n b = p := ar.trans (rn_e (fun z => by have y := of_decide_eq_true z.2; omega))
          have svc : (p < n ∧ (if ((p : Nat) : Int) < Hc.1 0 9 then Hc.1 4 p else -1) = H.1 4 p) ∨ (n ≤ p ∧ (if ((p : Nat) : Int) < Hc.1 0 9 then Hc.1 4 p else -1) = -1) := by
            rw [c9, c4]
            by_cases z : p < n
            · exact Or.inl ⟨z, if_pos (by omega)⟩
            · exact Or.inr ⟨by omega, if_neg (by omega)⟩
          refine x_aload_n (pc := 55) dX11_next_55 (List.Mem.head _) ?_
          refine z_getI (pc := 56) (k := 7) (v := (p : Int)) dX11_next_56 lf_X11_108 sh_0 rfl c7 ?_
          refine x_aload_n (pc := 59) dX11_next_59 (List.Mem.head _) ?_
          refine z_getI (pc := 60) (k := 9) (v := (n : Int)) dX11_next_60 lf_X11_93 sh_0 rfl c9 ?_
          refine z_icmp_lt (pc := 63) (tgt := 75) dX11_next_63 (by decide) (by omega) (by omega) (by omega) (by omega) (fun hb10 => ?_) (fun hb10 => ?_)
          · skip
            refine x_aload_n (pc := 75) dX11_next_75 (List.Mem.head _) ?_
            refine x_aload_n (pc := 76) dX11_next_76 (List.Mem.head _) ?_
            refine z_getI (pc := 77) (k := 7) (v := (p : Int)) dX11_next_77 lf_X11_108 sh_0 rfl c7 ?_
            refine z_callVip (pc := 80) (i := mX11_see) (S := []) [.int (zN (((p : Int))))] dX11_next_80 ml_X11_114 ok_X11_see rfl sh_0 rfl (Or.inl rfl) (Nat.le_of_ble_eq_true rfl) (c_X11_see (d := d) (k := p) (hk := (by omega)) (ok := okHc) (hsz := (by omega))) (fun r11a r11b ok12 => ?_)
            refine z_callSbp (pc := 83) (i := mX11_isSmall) (S := []) [.int (zN ((if ((p : Nat) : Int) < Hc.1 0 9 then Hc.1 4 p else -1)))] dX11_next_83 ml_X11_120 ok_X11_isSmall rfl (Or.inr rfl) (Nat.le_of_ble_eq_true rfl) (c_X11_isSmall (d := d) (a := ((if ((p : Nat) : Int) < Hc.1 0 9 then Hc.1 4 p else -1))) (a1 := (by omega)) (a2 := (by omega)) (ok := ok12)) (fun hc15 ok14 => ?_) (fun hc15 ok14 => ?_)
            · skip
              refine z_if_eq (pc := 86) (tgt := 127) dX11_next_86 (by decide) (by decide) (by decide) (fun h => absurd h (by decide)) (fun _ => ?_)
              have lp89 : ∀ (nF : Nat) (e : Nat) (Hb : ZH), okZ Hb → (p ≤ e ∧ e ≤ n) → (Hb.1 0 8 = (e : Int)) → (∀ cc k, ¬ (cc = 0 ∧ k = 8) → Hb.1 cc k = Hc.1 cc k) → (Hb.2 = H.2) → (rn isL (H.1 4) n p = rn isL (H.1 4) n e) → n - e < nF → Ev zX mX11_next (EvC zX (d + 1)) (zPv (fun (H1 : ZH) => NxP H H1 (H.1 4) n b)) 89 [(0, .ref 0)] [] (eh Hb) := by
                intro nF
                induction nF with
                | zero => intro e Hb okl89 he b8 bf bJ br hm; exact absurd hm (Nat.not_lt_zero _)
                | succ nF ih89 =>
                  intro e Hb okl89 he b8 bf bJ br hm
                  have b9 : Hb.1 0 9 = (n : Int) := (bf 0 9 (by omega)).trans c9
                  have b7 : Hb.1 0 7 = (p : Int) := (bf 0 7 (by omega)).trans c7
                  have b4 : Hb.1 4 = H.1 4 := (funext (fun j => bf 4 j (by omega))).trans c4
                  have hte := ht e
                  have sve : (e < n ∧ (if ((e : Nat) : Int) < Hb.1 0 9 then Hb.1 4 e else -1) = H.1 4 e) ∨ (n ≤ e ∧ (if ((e : Nat) : Int) < Hb.1 0 9 then Hb.1 4 e else -1) = -1) := by
                    rw [b9, b4]
                    by_cases z : e < n
                    · exact Or.inl ⟨z, if_pos (by omega)⟩
                    · exact Or.inr ⟨by omega, if_neg (by omega)⟩
                  refine x_aload_n (pc := 89) dX11_next_89 (List.Mem.head _) ?_
                  refine x_aload_n (pc := 90) dX11_next_90 (List.Mem.head _) ?_
                  refine z_getI (pc := 91) (k := 8) (v := (e : Int)) dX11_next_91 lf_X11_111 sh_0 rfl b8 ?_
                  refine z_callVip (pc := 94) (i := mX11_see) (S := []) [.int (zN (((e : Int))))] dX11_next_94 ml_X11_114 ok_X11_see rfl sh_0 rfl (Or.inl rfl) (Nat.le_of_ble_eq_true rfl) (c_X11_see (d := d) (k := e) (hk := (by omega)) (ok := okl89) (hsz := (by omega))) (fun r17a r17b ok18 => ?_)
                  refine z_callSbp (pc := 97) (i := mX11_isSmall) (S := []) [.int (zN ((if ((e : Nat) : Int) < Hb.1 0 9 then Hb.1 4 e else -1)))] dX11_next_97 ml_X11_120 ok_X11_isSmall rfl (Or.inr rfl) (Nat.le_of_ble_eq_true rfl) (c_X11_isSmall (d := d) (a := ((if ((e : Nat) : Int) < Hb.1 0 9 then Hb.1 4 e else -1))) (a1 := (by omega)) (a2 := (by omega)) (ok := ok18)) (fun hc21 ok20 => ?_) (fun hc21 ok20 => ?_)
                  · skip
                    refine z_if_eq (pc := 100) (tgt := 116) dX11_next_100 (by decide) (by decide) (by decide) (fun h => absurd h (by decide)) (fun _ => ?_)
                    refine x_aload_n (pc := 103) dX11_next_103 (List.Mem.head _) ?_
                    refine x_dup (pc := 104) dX11_next_104 rfl ?_
                    refine z_getI (pc := 105) (k := 8) (v := (e : Int)) dX11_next_105 lf_X11_111 sh_0 rfl b8 ?_
                    refine z_iconst (pc := 108) dX11_next_108 ?_
                    refine z_iadd (pc := 109) dX11_next_109 ?_
                    refine z_putI (pc := 110) (k := 8) dX11_next_110 lp_X11_111 sh_0 rfl ?_
                    have ok23 := okI ok20 0 8 (v := (((e : Int)) + 1)) (by omega) (by omega)
                    refine x_goto (pc := 113) (tgt := 89) dX11_next_113 (by decide) ?_
                    refine x_weaken (L1 := [(0, .ref 0)]) (List.forall_mem_cons.mpr ⟨(List.Mem.head _), (fun _ h => absurd h List.not_mem_nil)⟩) ?_
                    exact ih89 ((e + 1)) (wI Hb 0 8 ((((e : Int)) + 1))) ok23 (by omega) (by rw [wI1]; omega) (fun cc k h => by rw [wIg, if_neg h]; exact bf cc k h) (bJ) (br.trans (rn_s (by omega) (decide_eq_true (by omega)))) (by omega)
                  · skip
                    refine z_if_eq (pc := 100) (tgt := 116) dX11_next_100 (by decide) (by decide) (by decide) (fun _ => ?_) (fun h => absurd h (by decide))
                    have eE : tkE (H.1 4) n b = e := by unfold tkE; rw [eA, if_neg (by omega), if_pos (show isL (H.1 4 p) = true from decide_eq_true (by omega)), br]; exact rn_e (fun z => by have y := of_decide_eq_true z.2; omega)
                    have kwb := kwF_bd (H.1 4) p e
                    have eK : tkK (H.1 4) n b = kwF (H.1 4) p e := by unfold tkK; rw [eA, if_neg (show ¬ n ≤ p by omega), if_pos (show isL (H.1 4 p) = true from decide_eq_true (by omega)), eE]
                    have eV : tkV (H.1 4) n b (H.1 0 11) = H.1 0 11 := by unfold tkV; rw [eA, if_neg (show ¬ n ≤ p by omega), if_pos (show isL (H.1 4 p) = true from decide_eq_true (by omega))]
                    refine x_aload_n (pc := 116) dX11_next_116 (List.Mem.head _) ?_
                    refine x_aload_n (pc := 117) dX11_next_117 (List.Mem.head _) ?_
                    refine z_callVip (pc := 118) (i := mX11_keyAt) (S := [.ref 0]) [] dX11_next_118 ml_X11_124 ok_X11_keyAt rfl sh_0 rfl (Or.inl rfl) (Nat.le_of_ble_eq_true rfl) (c_X11_keyAt (d := d) (a := p) (e := e) (hae := (by omega)) (he := (by omega)) (ok := ok20) (ha := b7) (hb := b8)) (fun r25a r25b ok26 => ?_)
                    refine z_putI (pc := 121) (k := 10) dX11_next_121 lp_X11_117 sh_0 rfl ?_
                    have ok27 := okI ok26 0 10 (v := (kwF (Hb.1 4) p e)) (by omega) (by omega)
                    refine x_goto (pc := 124) (tgt := 306) dX11_next_124 (by decide) ?_
                    refine z_vreturn (pc := 306) dX11_next_306 rfl ok27 ?_
                    refine ⟨?_, ?_, ?_, ?_, fun cc k h => ?_, ?_⟩
                    · rw [eA]; (repeat rw [wI1k (by omega)]); first | exact c7 | exact b7
                    · rw [eE]; first | (rw [wI1k (by omega)]; exact c8) | (rw [wI1k (by omega)]; exact b8) | (rw [wI1k (by omega), wI1]; done) | (rw [wI1k (by omega), wI1]; omega)
                    · first | (rw [eK, wI1]; done) | (rw [eK, wI1, b4]; done) | (rw [eK, wI1]; (repeat' split) <;> first | rfl | omega)
                    · rw [eV]; first | (rw [wI1k (by omega), cf 0 11 (by omega)]; done) | (rw [wI1k (by omega), bf 0 11 (by omega), cf 0 11 (by omega)]; done) | (rw [wI1k (by omega)]; exact b11) | (rw [wI1k (by omega), wI1k (by omega), cf 0 11 (by omega)]; done)
                    · first | (rw [wIg, if_neg (by omega), cf cc k (by omega)]; done) | (rw [wIg, if_neg (by omega), bf cc k (by omega), cf cc k (by omega)]; done) | (rw [wIg, if_neg (by omega), wIg, if_neg (by omega), cf cc k (by omega)]; done)
                    · first | exact cJ | exact bJ
              refine x_weaken (L1 := [(0, .ref 0)]) (List.forall_mem_cons.mpr ⟨(List.Mem.head _), (fun _ h => absurd h List.not_mem_nil)⟩) ?_
              exact lp89 (n - p + 1) (p) Hc ok14 (by omega) (c8) (fun _ _ _ => rfl) (cJ) (rfl) (Nat.lt_succ_self _)
            · skip
              refine z_if_eq (pc := 86) (tgt := 127) dX11_next_86 (by decide) (by decide) (by decide) (fun _ => ?_) (fun h => absurd h (by decide))
              refine x_aload_n (pc := 127) dX11_next_127 (List.Mem.head _) ?_
              refine x_aload_n (pc := 128) dX11_next_128 (List.Mem.head _) ?_
              refine z_getI (pc := 129) (k := 7) (v := (p : Int)) dX11_next_129 lf_X11_108 sh_0 rfl c7 ?_
              refine z_callVip (pc := 132) (i := mX11_see) (S := []) [.int (zN (((p : Int))))] dX11_next_132 ml_X11_114 ok_X11_see rfl sh_0 rfl (Or.inl rfl) (Nat.le_of_ble_eq_true rfl) (c_X11_see (d := d) (k := p) (hk := (by omega)) (ok := ok14) (hsz := (by omega))) (fun r29a r29b ok30 => ?_)
              refine z_callSbp (pc := 135) (i := mX11_isDigit) (S := []) [.int (zN ((if ((p : Nat) : Int) < Hc.1 0 9 then Hc.1 4 p else -1)))] dX11_next_135 ml_X11_127 ok_X11_isDigit rfl (Or.inr rfl) (Nat.le_of_ble_eq_true rfl) (c_X11_isDigit (d := d) (a := ((if ((p : Nat) : Int) < Hc.1 0 9 then Hc.1 4 p else -1))) (a1 := (by omega)) (a2 := (by omega)) (ok := ok30)) (fun hc33 ok32 => ?_) (fun hc33 ok32 => ?_)
              · skip
                refine z_if_eq (pc := 138) (tgt := 236) dX11_next_138 (by decide) (by decide) (by decide) (fun h => absurd h (by decide)) (fun _ => ?_)
                refine x_aload_n (pc := 141) dX11_next_141 (List.Mem.head _) ?_
                refine z_iconst (pc := 142) dX11_next_142 ?_
                refine z_putI (pc := 143) (k := 11) dX11_next_143 lp_X11_130 sh_0 rfl ?_
                have ok35 := okI ok32 0 11 (v := 0) (by decide) (by decide)
                have lp146 : ∀ (nF : Nat) (e : Nat) (Hb : ZH), okZ Hb → (p ≤ e ∧ e ≤ n) → (Hb.1 0 8 = (e : Int)) → (Hb.1 0 11 = dgv (H.1 4) p (if e - p ≤ 3 then e - p else 3)) → (∀ j, j < e - p → 48 ≤ H.1 4 (p + j) ∧ H.1 4 (p + j) ≤ 57) → (∀ cc k, ¬ (cc = 0 ∧ (k = 8 ∨ k = 11)) → Hb.1 cc k = Hc.1 cc k) → (Hb.2 = H.2) → (rn isN (H.1 4) n p = rn isN (H.1 4) n e) → n - e < nF → Ev zX mX11_next (EvC zX (d + 1)) (zPv (fun (H1 : ZH) => NxP H H1 (H.1 4) n b)) 146 [(0, .ref 0)] [] (eh Hb) := by
                  intro nF
                  induction nF with
                  | zero => intro e Hb okl146 he b8 b11 bdig bf bJ br hm; exact absurd hm (Nat.not_lt_zero _)
                  | succ nF ih146 =>
                    intro e Hb okl146 he b8 b11 bdig bf bJ br hm
                    have b9 : Hb.1 0 9 = (n : Int) := (bf 0 9 (by omega)).trans c9
                    have b7 : Hb.1 0 7 = (p : Int) := (bf 0 7 (by omega)).trans c7
                    have b4 : Hb.1 4 = H.1 4 := (funext (fun j => bf 4 j (by omega))).trans c4
                    have hte := ht e
                    have dz := dgv_bd (T := H.1 4) (a := p) (if e - p ≤ 3 then e - p else 3) (fun j hj => bdig j (by revert hj; split <;> omega)) (by split <;> omega)
                    have dy : e - p < 3 → Hb.1 0 11 ≤ 99 := fun z => by have y := dz.2.2.2.1; rw [if_pos (by omega)] at y; rw [b11, if_pos (by omega)]; exact y (by omega)
                    have dx : 0 ≤ Hb.1 0 11 ∧ Hb.1 0 11 ≤ 999 := by rw [b11]; exact ⟨dz.1, dz.2.2.2.2⟩
                    have sve : (e < n ∧ (if ((e : Nat) : Int) < Hb.1 0 9 then Hb.1 4 e else -1) = H.1 4 e) ∨ (n ≤ e ∧ (if ((e : Nat) : Int) < Hb.1 0 9 then Hb.1 4 e else -1) = -1) := by
                      rw [b9, b4]
                      by_cases z : e < n
                      · exact Or.inl ⟨z, if_pos (by omega)⟩
                      · exact Or.inr ⟨by omega, if_neg (by omega)⟩
                    refine x_aload_n (pc := 146) dX11_next_146 (List.Mem.head _) ?_
                    refine x_aload_n (pc := 147) dX11_next_147 (List.Mem.head _) ?_
                    refine z_getI (pc := 148) (k := 8) (v := (e : Int)) dX11_next_148 lf_X11_111 sh_0 rfl b8 ?_
                    refine z_callVip (pc := 151) (i := mX11_see) (S := []) [.int (zN (((e : Int))))] dX11_next_151 ml_X11_114 ok_X11_see rfl sh_0 rfl (Or.inl rfl) (Nat.le_of_ble_eq_true rfl) (c_X11_see (d := d) (k := e) (hk := (by omega)) (ok := okl146) (hsz := (by omega))) (fun r36a r36b ok37 => ?_)
                    refine z_callSbp (pc := 154) (i := mX11_isDigit) (S := []) [.int (zN ((if ((e : Nat) : Int) < Hb.1 0 9 then Hb.1 4 e else -1)))] dX11_next_154 ml_X11_127 ok_X11_isDigit rfl (Or.inr rfl) (Nat.le_of_ble_eq_true rfl) (c_X11_isDigit (d := d) (a := ((if ((e : Nat) : Int) < Hb.1 0 9 then Hb.1 4 e else -1))) (a1 := (by omega)) (a2 := (by omega)) (ok := ok37)) (fun hc40 ok39 => ?_) (fun hc40 ok39 => ?_)
                    · skip
                      refine z_if_eq (pc := 157) (tgt := 209) dX11_next_157 (by decide) (by decide) (by decide) (fun h => absurd h (by decide)) (fun _ => ?_)
                      refine x_aload_n (pc := 160) dX11_next_160 (List.Mem.head _) ?_
                      refine z_getI (pc := 161) (k := 8) (v := (e : Int)) dX11_next_161 lf_X11_111 sh_0 rfl b8 ?_
                      refine x_aload_n (pc := 164) dX11_next_164 (List.Mem.head _) ?_
                      refine z_getI (pc := 165) (k := 7) (v := (p : Int)) dX11_next_165 lf_X11_108 sh_0 rfl b7 ?_
                      refine z_isub (pc := 168) dX11_next_168 ?_
                      refine z_iconst (pc := 169) dX11_next_169 ?_
                      refine z_icmp_ge (pc := 170) (tgt := 196) dX11_next_170 (by decide) (by omega) (by omega) (by decide) (by decide) (fun hb42 => ?_) (fun hb42 => ?_)
                      · skip
                        refine x_aload_n (pc := 196) dX11_next_196 (List.Mem.head _) ?_
                        refine x_dup (pc := 197) dX11_next_197 rfl ?_
                        refine z_getI (pc := 198) (k := 8) (v := (e : Int)) dX11_next_198 lf_X11_111 sh_0 rfl (by first | exact b8 | (rw [wI1k (by omega)]; exact b8)) ?_
                        refine z_iconst (pc := 201) dX11_next_201 ?_
                        refine z_iadd (pc := 202) dX11_next_202 ?_
                        refine z_putI (pc := 203) (k := 8) dX11_next_203 lp_X11_111 sh_0 rfl ?_
                        have ok43 := okI ok39 0 8 (v := (((e : Int)) + 1)) (by omega) (by omega)
                        refine x_goto (pc := 206) (tgt := 146) dX11_next_206 (by decide) ?_
                        refine x_weaken (L1 := [(0, .ref 0)]) (List.forall_mem_cons.mpr ⟨(List.Mem.head _), (fun _ h => absurd h List.not_mem_nil)⟩) ?_
                        exact ih146 ((e + 1)) (wI Hb 0 8 ((((e : Int)) + 1))) ok43 (by omega) (by rw [wI1]; omega) (by first | (rw [wI1k (by omega), wI1, if_pos (show e + 1 - p ≤ 3 by omega), show e + 1 - p = (e - p) + 1 by omega, b11, if_pos (show e - p ≤ 3 by omega)]; show _ = 10 * dgv (H.1 4) p (e - p) + H.1 4 (p + (e - p)) - 48; rw [show p + (e - p) = e by omega]; omega) | (rw [wI1k (by omega), if_neg (show ¬ e + 1 - p ≤ 3 by omega), b11]; split <;> first | rfl | rw [show e - p = 3 by omega])) (fun j h => if z : j = e - p then (by rw [z, show p + (e - p) = e by omega]; omega) else bdig j (by omega)) (fun cc k h => by first | (rw [wIg, if_neg (by omega), wIg, if_neg (by omega)]; exact bf cc k h) | (rw [wIg, if_neg (by omega)]; exact bf cc k h)) (bJ) (br.trans (rn_s (by omega) (decide_eq_true (by omega)))) (by omega)
                      · skip
                        refine x_aload_n (pc := 173) dX11_next_173 (List.Mem.head _) ?_
                        refine z_bipush (pc := 174) dX11_next_174 bp_10 ?_
                        refine x_aload_n (pc := 176) dX11_next_176 (List.Mem.head _) ?_
                        have rd44 := ok39.1 0 11
                        refine z_getI (pc := 177) (k := 11) (v := Hb.1 0 11) dX11_next_177 lf_X11_130 sh_0 rfl rfl ?_
                        refine z_imul (pc := 180) dX11_next_180 ?_
                        refine x_aload_n (pc := 181) dX11_next_181 (List.Mem.head _) ?_
                        refine x_aload_n (pc := 182) dX11_next_182 (List.Mem.head _) ?_
                        refine z_getI (pc := 183) (k := 8) (v := (e : Int)) dX11_next_183 lf_X11_111 sh_0 rfl b8 ?_
                        refine z_callVip (pc := 186) (i := mX11_see) (S := [.int (zN ((10 * (Hb.1 0 11)))), .ref 0]) [.int (zN (((e : Int))))] dX11_next_186 ml_X11_114 ok_X11_see rfl sh_0 rfl (Or.inl rfl) (Nat.le_of_ble_eq_true rfl) (c_X11_see (d := d) (k := e) (hk := (by omega)) (ok := ok39) (hsz := (by omega))) (fun r45a r45b ok46 => ?_)
                        refine z_iadd (pc := 189) dX11_next_189 ?_
                        refine z_bipush (pc := 190) dX11_next_190 bp_48 ?_
                        refine z_isub (pc := 192) dX11_next_192 ?_
                        refine z_putI (pc := 193) (k := 11) dX11_next_193 lp_X11_130 sh_0 rfl ?_
                        have ok47 := okI ok46 0 11 (v := (((10 * (Hb.1 0 11)) + (if ((e : Nat) : Int) < Hb.1 0 9 then Hb.1 4 e else -1)) - 48)) (by omega) (by omega)
                        refine x_aload_n (pc := 196) dX11_next_196 (List.Mem.head _) ?_
                        refine x_dup (pc := 197) dX11_next_197 rfl ?_
                        refine z_getI (pc := 198) (k := 8) (v := (e : Int)) dX11_next_198 lf_X11_111 sh_0 rfl (by first | exact b8 | (rw [wI1k (by omega)]; exact b8)) ?_
                        refine z_iconst (pc := 201) dX11_next_201 ?_
                        refine z_iadd (pc := 202) dX11_next_202 ?_
                        refine z_putI (pc := 203) (k := 8) dX11_next_203 lp_X11_111 sh_0 rfl ?_
                        have ok48 := okI ok47 0 8 (v := (((e : Int)) + 1)) (by omega) (by omega)
                        refine x_goto (pc := 206) (tgt := 146) dX11_next_206 (by decide) ?_
                        refine x_weaken (L1 := [(0, .ref 0)]) (List.forall_mem_cons.mpr ⟨(List.Mem.head _), (fun _ h => absurd h List.not_mem_nil)⟩) ?_
                        exact ih146 ((e + 1)) (wI (wI Hb 0 11 ((((10 * (Hb.1 0 11)) + (if ((e : Nat) : Int) < Hb.1 0 9 then Hb.1 4 e else -1)) - 48))) 0 8 ((((e : Int)) + 1))) ok48 (by omega) (by rw [wI1]; omega) (by first | (rw [wI1k (by omega), wI1, if_pos (show e + 1 - p ≤ 3 by omega), show e + 1 - p = (e - p) + 1 by omega, b11, if_pos (show e - p ≤ 3 by omega)]; show _ = 10 * dgv (H.1 4) p (e - p) + H.1 4 (p + (e - p)) - 48; rw [show p + (e - p) = e by omega]; omega) | (rw [wI1k (by omega), if_neg (show ¬ e + 1 - p ≤ 3 by omega), b11]; split <;> first | rfl | rw [show e - p = 3 by omega])) (fun j h => if z : j = e - p then (by rw [z, show p + (e - p) = e by omega]; omega) else bdig j (by omega)) (fun cc k h => by first | (rw [wIg, if_neg (by omega), wIg, if_neg (by omega)]; exact bf cc k h) | (rw [wIg, if_neg (by omega)]; exact bf cc k h)) (bJ) (br.trans (rn_s (by omega) (decide_eq_true (by omega)))) (by omega)
                    · skip
                      refine z_if_eq (pc := 157) (tgt := 209) dX11_next_157 (by decide) (by decide) (by decide) (fun _ => ?_) (fun h => absurd h (by decide))
                      have eE : tkE (H.1 4) n b = e := by unfold tkE; rw [eA, if_neg (by omega), if_neg (show ¬ isL (H.1 4 p) = true from fun z => by have y := of_decide_eq_true z; omega), if_pos (show isN (H.1 4 p) = true from decide_eq_true (by omega)), br]; exact rn_e (fun z => by have y := of_decide_eq_true z.2; omega)
                      have eV : tkV (H.1 4) n b (H.1 0 11) = dgv (H.1 4) p (if e - p ≤ 3 then e - p else 3) := by unfold tkV; rw [eA, if_neg (show ¬ n ≤ p by omega), if_neg (show ¬ isL (H.1 4 p) = true from fun z => by have y := of_decide_eq_true z; omega), if_pos (show isN (H.1 4 p) = true from decide_eq_true (by omega)), eE]
                      have eK : tkK (H.1 4) n b = (if e - p ≤ 3 then 30 else 35) := by unfold tkK; rw [eA, if_neg (show ¬ n ≤ p by omega), if_neg (show ¬ isL (H.1 4 p) = true from fun z => by have y := of_decide_eq_true z; omega), if_pos (show isN (H.1 4 p) = true from decide_eq_true (by omega)), eE]
                      refine x_aload_n (pc := 209) dX11_next_209 (List.Mem.head _) ?_
                      refine x_aload_n (pc := 210) dX11_next_210 (List.Mem.head _) ?_
                      refine z_getI (pc := 211) (k := 8) (v := (e : Int)) dX11_next_211 lf_X11_111 sh_0 rfl b8 ?_
                      refine x_aload_n (pc := 214) dX11_next_214 (List.Mem.head _) ?_
                      refine z_getI (pc := 215) (k := 7) (v := (p : Int)) dX11_next_215 lf_X11_108 sh_0 rfl b7 ?_
                      refine z_isub (pc := 218) dX11_next_218 ?_
                      refine z_iconst (pc := 219) dX11_next_219 ?_
                      refine z_icmp_le (pc := 220) (tgt := 228) dX11_next_220 (by decide) (by omega) (by omega) (by decide) (by decide) (fun hb50 => ?_) (fun hb50 => ?_)
                      · skip
                        refine z_bipush (pc := 228) dX11_next_228 bp_30 ?_
                        refine z_putI (pc := 230) (k := 10) dX11_next_230 lp_X11_117 sh_0 rfl ?_
                        have ok51 := okI ok39 0 10 (v := 30) (by decide) (by decide)
                        refine x_goto (pc := 233) (tgt := 306) dX11_next_233 (by decide) ?_
                        refine z_vreturn (pc := 306) dX11_next_306 rfl ok51 ?_
                        refine ⟨?_, ?_, ?_, ?_, fun cc k h => ?_, ?_⟩
                        · rw [eA]; (repeat rw [wI1k (by omega)]); first | exact c7 | exact b7
                        · rw [eE]; first | (rw [wI1k (by omega)]; exact c8) | (rw [wI1k (by omega)]; exact b8) | (rw [wI1k (by omega), wI1]; done) | (rw [wI1k (by omega), wI1]; omega)
                        · first | (rw [eK, wI1]; done) | (rw [eK, wI1, b4]; done) | (rw [eK, wI1]; (repeat' split) <;> first | rfl | omega)
                        · rw [eV]; first | (rw [wI1k (by omega), cf 0 11 (by omega)]; done) | (rw [wI1k (by omega), bf 0 11 (by omega), cf 0 11 (by omega)]; done) | (rw [wI1k (by omega)]; exact b11) | (rw [wI1k (by omega), wI1k (by omega), cf 0 11 (by omega)]; done)
                        · first | (rw [wIg, if_neg (by omega), cf cc k (by omega)]; done) | (rw [wIg, if_neg (by omega), bf cc k (by omega), cf cc k (by omega)]; done) | (rw [wIg, if_neg (by omega), wIg, if_neg (by omega), cf cc k (by omega)]; done)
                        · first | exact cJ | exact bJ
                      · skip
                        refine z_bipush (pc := 223) dX11_next_223 bp_35 ?_
                        refine x_goto (pc := 225) (tgt := 230) dX11_next_225 (by decide) ?_
                        refine z_putI (pc := 230) (k := 10) dX11_next_230 lp_X11_117 sh_0 rfl ?_
                        have ok52 := okI ok39 0 10 (v := 35) (by decide) (by decide)
                        refine x_goto (pc := 233) (tgt := 306) dX11_next_233 (by decide) ?_
                        refine z_vreturn (pc := 306) dX11_next_306 rfl ok52 ?_
                        refine ⟨?_, ?_, ?_, ?_, fun cc k h => ?_, ?_⟩
                        · rw [eA]; (repeat rw [wI1k (by omega)]); first | exact c7 | exact b7
                        · rw [eE]; first | (rw [wI1k (by omega)]; exact c8) | (rw [wI1k (by omega)]; exact b8) | (rw [wI1k (by omega), wI1]; done) | (rw [wI1k (by omega), wI1]; omega)
                        · first | (rw [eK, wI1]; done) | (rw [eK, wI1, b4]; done) | (rw [eK, wI1]; (repeat' split) <;> first | rfl | omega)
                        · rw [eV]; first | (rw [wI1k (by omega), cf 0 11 (by omega)]; done) | (rw [wI1k (by omega), bf 0 11 (by omega), cf 0 11 (by omega)]; done) | (rw [wI1k (by omega)]; exact b11) | (rw [wI1k (by omega), wI1k (by omega), cf 0 11 (by omega)]; done)
                        · first | (rw [wIg, if_neg (by omega), cf cc k (by omega)]; done) | (rw [wIg, if_neg (by omega), bf cc k (by omega), cf cc k (by omega)]; done) | (rw [wIg, if_neg (by omega), wIg, if_neg (by omega), cf cc k (by omega)]; done)
                        · first | exact cJ | exact bJ
                refine x_weaken (L1 := [(0, .ref 0)]) (List.forall_mem_cons.mpr ⟨(List.Mem.head _), (fun _ h => absurd h List.not_mem_nil)⟩) ?_
                exact lp146 (n - p + 1) (p) (wI Hc 0 11 (0)) ok35 (by omega) (by rw [wI1k (by omega)]; exact c8) (by rw [wI1, if_pos (by omega), show p - p = 0 by omega]; rfl) (fun j h => absurd h (by omega)) (fun cc k h => by rw [wIg, if_neg (by omega)]) (cJ) (rfl) (Nat.lt_succ_self _)
              · skip
                refine z_if_eq (pc := 138) (tgt := 236) dX11_next_138 (by decide) (by decide) (by decide) (fun _ => ?_) (fun h => absurd h (by decide))
                refine x_aload_n (pc := 236) dX11_next_236 (List.Mem.head _) ?_
                refine x_dup (pc := 237) dX11_next_237 rfl ?_
                refine z_getI (pc := 238) (k := 8) (v := (p : Int)) dX11_next_238 lf_X11_111 sh_0 rfl c8 ?_
                refine z_iconst (pc := 241) dX11_next_241 ?_
                refine z_iadd (pc := 242) dX11_next_242 ?_
                refine z_putI (pc := 243) (k := 8) dX11_next_243 lp_X11_111 sh_0 rfl ?_
                have ok54 := okI ok32 0 8 (v := (((p : Int)) + 1)) (by omega) (by omega)
                have eV : tkV (H.1 4) n b (H.1 0 11) = H.1 0 11 := by unfold tkV; rw [eA, if_neg (show ¬ n ≤ p by omega), if_neg (show ¬ isL (H.1 4 p) = true from fun z => by have y := of_decide_eq_true z; omega), if_neg (show ¬ isN (H.1 4 p) = true from fun z => by have y := of_decide_eq_true z; omega)]
                have eK : tkK (H.1 4) n b = (if H.1 4 p = 59 then 31 else if H.1 4 p = 40 then 32 else if H.1 4 p = 41 then 33 else 35) := by unfold tkK; rw [eA, if_neg (show ¬ n ≤ p by omega), if_neg (show ¬ isL (H.1 4 p) = true from fun z => by have y := of_decide_eq_true z; omega), if_neg (show ¬ isN (H.1 4 p) = true from fun z => by have y := of_decide_eq_true z; omega)]
                have eE : tkE (H.1 4) n b = p + 1 := by unfold tkE; rw [eA, if_neg (by omega), if_neg (show ¬ isL (H.1 4 p) = true from fun z => by have y := of_decide_eq_true z; omega), if_neg (show ¬ isN (H.1 4 p) = true from fun z => by have y := of_decide_eq_true z; omega)]
                have svd : (p < n ∧ (if ((p : Nat) : Int) < (wI Hc 0 8 ((((p : Int)) + 1))).1 0 9 then (wI Hc 0 8 ((((p : Int)) + 1))).1 4 p else -1) = H.1 4 p) ∨ (n ≤ p ∧ (if ((p : Nat) : Int) < (wI Hc 0 8 ((((p : Int)) + 1))).1 0 9 then (wI Hc 0 8 ((((p : Int)) + 1))).1 4 p else -1) = -1) := by
                  rw [show ((wI Hc 0 8 ((((p : Int)) + 1)))).1 0 9 = (n : Int) by rw [wI1k (by omega)]; exact c9, show ((wI Hc 0 8 ((((p : Int)) + 1)))).1 4 = H.1 4 by rw [wIf (by omega)]; exact c4]
                  by_cases z : p < n
                  · exact Or.inl ⟨z, if_pos (by omega)⟩
                  · exact Or.inr ⟨by omega, if_neg (by omega)⟩
                refine x_aload_n (pc := 246) dX11_next_246 (List.Mem.head _) ?_
                refine x_aload_n (pc := 247) dX11_next_247 (List.Mem.head _) ?_
                refine x_aload_n (pc := 248) dX11_next_248 (List.Mem.head _) ?_
                refine z_getI (pc := 249) (k := 7) (v := (p : Int)) dX11_next_249 lf_X11_108 sh_0 rfl (by rw [wI1k (by omega)]; exact c7) ?_
                refine z_callVip (pc := 252) (i := mX11_see) (S := [.ref 0]) [.int (zN (((p : Int))))] dX11_next_252 ml_X11_114 ok_X11_see rfl sh_0 rfl (Or.inl rfl) (Nat.le_of_ble_eq_true rfl) (c_X11_see (d := d) (k := p) (hk := (by omega)) (ok := ok54) (hsz := (by rw [wI1k (by omega)]; omega))) (fun r55a r55b ok56 => ?_)
                refine z_bipush (pc := 255) dX11_next_255 bp_59 ?_
                refine z_icmp_ne (pc := 257) (tgt := 265) dX11_next_257 (by decide) (by omega) (by omega) (by decide) (by decide) (fun hb57 => ?_) (fun hb57 => ?_)
                · skip
                  refine x_aload_n (pc := 265) dX11_next_265 (List.Mem.head _) ?_
                  refine x_aload_n (pc := 266) dX11_next_266 (List.Mem.head _) ?_
                  refine z_getI (pc := 267) (k := 7) (v := (p : Int)) dX11_next_267 lf_X11_108 sh_0 rfl (by rw [wI1k (by omega)]; exact c7) ?_
                  refine z_callVip (pc := 270) (i := mX11_see) (S := [.ref 0]) [.int (zN (((p : Int))))] dX11_next_270 ml_X11_114 ok_X11_see rfl sh_0 rfl (Or.inl rfl) (Nat.le_of_ble_eq_true rfl) (c_X11_see (d := d) (k := p) (hk := (by omega)) (ok := ok56) (hsz := (by rw [wI1k (by omega)]; omega))) (fun r58a r58b ok59 => ?_)
                  refine z_bipush (pc := 273) dX11_next_273 bp_40 ?_
                  refine z_icmp_ne (pc := 275) (tgt := 283) dX11_next_275 (by decide) (by omega) (by omega) (by decide) (by decide) (fun hb60 => ?_) (fun hb60 => ?_)
                  · skip
                    refine x_aload_n (pc := 283) dX11_next_283 (List.Mem.head _) ?_
                    refine x_aload_n (pc := 284) dX11_next_284 (List.Mem.head _) ?_
                    refine z_getI (pc := 285) (k := 7) (v := (p : Int)) dX11_next_285 lf_X11_108 sh_0 rfl (by rw [wI1k (by omega)]; exact c7) ?_
                    refine z_callVip (pc := 288) (i := mX11_see) (S := [.ref 0]) [.int (zN (((p : Int))))] dX11_next_288 ml_X11_114 ok_X11_see rfl sh_0 rfl (Or.inl rfl) (Nat.le_of_ble_eq_true rfl) (c_X11_see (d := d) (k := p) (hk := (by omega)) (ok := ok59) (hsz := (by rw [wI1k (by omega)]; omega))) (fun r61a r61b ok62 => ?_)
                    refine z_bipush (pc := 291) dX11_next_291 bp_41 ?_
                    refine z_icmp_ne (pc := 293) (tgt := 301) dX11_next_293 (by decide) (by omega) (by omega) (by decide) (by decide) (fun hb63 => ?_) (fun hb63 => ?_)
                    · skip
                      refine z_bipush (pc := 301) dX11_next_301 bp_35 ?_
                      refine z_putI (pc := 303) (k := 10) dX11_next_303 lp_X11_117 sh_0 rfl ?_
                      have ok64 := okI ok62 0 10 (v := 35) (by decide) (by decide)
                      refine z_vreturn (pc := 306) dX11_next_306 rfl ok64 ?_
                      refine ⟨?_, ?_, ?_, ?_, fun cc k h => ?_, ?_⟩
                      · rw [eA]; (repeat rw [wI1k (by omega)]); first | exact c7 | exact b7
                      · rw [eE]; first | (rw [wI1k (by omega)]; exact c8) | (rw [wI1k (by omega)]; exact b8) | (rw [wI1k (by omega), wI1]; done) | (rw [wI1k (by omega), wI1]; omega)
                      · first | (rw [eK, wI1]; done) | (rw [eK, wI1, b4]; done) | (rw [eK, wI1]; (repeat' split) <;> first | rfl | omega)
                      · rw [eV]; first | (rw [wI1k (by omega), cf 0 11 (by omega)]; done) | (rw [wI1k (by omega), bf 0 11 (by omega), cf 0 11 (by omega)]; done) | (rw [wI1k (by omega)]; exact b11) | (rw [wI1k (by omega), wI1k (by omega), cf 0 11 (by omega)]; done)
                      · first | (rw [wIg, if_neg (by omega), cf cc k (by omega)]; done) | (rw [wIg, if_neg (by omega), bf cc k (by omega), cf cc k (by omega)]; done) | (rw [wIg, if_neg (by omega), wIg, if_neg (by omega), cf cc k (by omega)]; done)
                      · first | exact cJ | exact bJ
                    · skip
                      refine z_bipush (pc := 296) dX11_next_296 bp_33 ?_
                      refine x_goto (pc := 298) (tgt := 303) dX11_next_298 (by decide) ?_
                      refine z_putI (pc := 303) (k := 10) dX11_next_303 lp_X11_117 sh_0 rfl ?_
                      have ok65 := okI ok62 0 10 (v := 33) (by decide) (by decide)
                      refine z_vreturn (pc := 306) dX11_next_306 rfl ok65 ?_
                      refine ⟨?_, ?_, ?_, ?_, fun cc k h => ?_, ?_⟩
                      · rw [eA]; (repeat rw [wI1k (by omega)]); first | exact c7 | exact b7
                      · rw [eE]; first | (rw [wI1k (by omega)]; exact c8) | (rw [wI1k (by omega)]; exact b8) | (rw [wI1k (by omega), wI1]; done) | (rw [wI1k (by omega), wI1]; omega)
                      · first | (rw [eK, wI1]; done) | (rw [eK, wI1, b4]; done) | (rw [eK, wI1]; (repeat' split) <;> first | rfl | omega)
                      · rw [eV]; first | (rw [wI1k (by omega), cf 0 11 (by omega)]; done) | (rw [wI1k (by omega), bf 0 11 (by omega), cf 0 11 (by omega)]; done) | (rw [wI1k (by omega)]; exact b11) | (rw [wI1k (by omega), wI1k (by omega), cf 0 11 (by omega)]; done)
                      · first | (rw [wIg, if_neg (by omega), cf cc k (by omega)]; done) | (rw [wIg, if_neg (by omega), bf cc k (by omega), cf cc k (by omega)]; done) | (rw [wIg, if_neg (by omega), wIg, if_neg (by omega), cf cc k (by omega)]; done)
                      · first | exact cJ | exact bJ
                  · skip
                    refine z_bipush (pc := 278) dX11_next_278 bp_32 ?_
                    refine x_goto (pc := 280) (tgt := 303) dX11_next_280 (by decide) ?_
                    refine z_putI (pc := 303) (k := 10) dX11_next_303 lp_X11_117 sh_0 rfl ?_
                    have ok66 := okI ok59 0 10 (v := 32) (by decide) (by decide)
                    refine z_vreturn (pc := 306) dX11_next_306 rfl ok66 ?_
                    refine ⟨?_, ?_, ?_, ?_, fun cc k h => ?_, ?_⟩
                    · rw [eA]; (repeat rw [wI1k (by omega)]); first | exact c7 | exact b7
                    · rw [eE]; first | (rw [wI1k (by omega)]; exact c8) | (rw [wI1k (by omega)]; exact b8) | (rw [wI1k (by omega), wI1]; done) | (rw [wI1k (by omega), wI1]; omega)
                    · first | (rw [eK, wI1]; done) | (rw [eK, wI1, b4]; done) | (rw [eK, wI1]; (repeat' split) <;> first | rfl | omega)
                    · rw [eV]; first | (rw [wI1k (by omega), cf 0 11 (by omega)]; done) | (rw [wI1k (by omega), bf 0 11 (by omega), cf 0 11 (by omega)]; done) | (rw [wI1k (by omega)]; exact b11) | (rw [wI1k (by omega), wI1k (by omega), cf 0 11 (by omega)]; done)
                    · first | (rw [wIg, if_neg (by omega), cf cc k (by omega)]; done) | (rw [wIg, if_neg (by omega), bf cc k (by omega), cf cc k (by omega)]; done) | (rw [wIg, if_neg (by omega), wIg, if_neg (by omega), cf cc k (by omega)]; done)
                    · first | exact cJ | exact bJ
                · skip
                  refine z_bipush (pc := 260) dX11_next_260 bp_31 ?_
                  refine x_goto (pc := 262) (tgt := 303) dX11_next_262 (by decide) ?_
                  refine z_putI (pc := 303) (k := 10) dX11_next_303 lp_X11_117 sh_0 rfl ?_
                  have ok67 := okI ok56 0 10 (v := 31) (by decide) (by decide)
                  refine z_vreturn (pc := 306) dX11_next_306 rfl ok67 ?_
                  refine ⟨?_, ?_, ?_, ?_, fun cc k h => ?_, ?_⟩
                  · rw [eA]; (repeat rw [wI1k (by omega)]); first | exact c7 | exact b7
                  · rw [eE]; first | (rw [wI1k (by omega)]; exact c8) | (rw [wI1k (by omega)]; exact b8) | (rw [wI1k (by omega), wI1]; done) | (rw [wI1k (by omega), wI1]; omega)
                  · first | (rw [eK, wI1]; done) | (rw [eK, wI1, b4]; done) | (rw [eK, wI1]; (repeat' split) <;> first | rfl | omega)
                  · rw [eV]; first | (rw [wI1k (by omega), cf 0 11 (by omega)]; done) | (rw [wI1k (by omega), bf 0 11 (by omega), cf 0 11 (by omega)]; done) | (rw [wI1k (by omega)]; exact b11) | (rw [wI1k (by omega), wI1k (by omega), cf 0 11 (by omega)]; done)
                  · first | (rw [wIg, if_neg (by omega), cf cc k (by omega)]; done) | (rw [wIg, if_neg (by omega), bf cc k (by omega), cf cc k (by omega)]; done) | (rw [wIg, if_neg (by omega), wIg, if_neg (by omega), cf cc k (by omega)]; done)
                  · first | exact cJ | exact bJ
          · skip
            have eE : tkE (H.1 4) n b = p := by unfold tkE; rw [eA, if_pos (by omega)]
            have eK : tkK (H.1 4) n b = 34 := by unfold tkK; rw [eA, if_pos (by omega)]
            have eV : tkV (H.1 4) n b (H.1 0 11) = H.1 0 11 := by unfold tkV; rw [eA, if_pos (by omega)]
            refine x_aload_n (pc := 66) dX11_next_66 (List.Mem.head _) ?_
            refine z_bipush (pc := 67) dX11_next_67 bp_34 ?_
            refine z_putI (pc := 69) (k := 10) dX11_next_69 lp_X11_117 sh_0 rfl ?_
            have ok68 := okI okHc 0 10 (v := 34) (by decide) (by decide)
            refine x_goto (pc := 72) (tgt := 306) dX11_next_72 (by decide) ?_
            refine z_vreturn (pc := 306) dX11_next_306 rfl ok68 ?_
            refine ⟨?_, ?_, ?_, ?_, fun cc k h => ?_, ?_⟩
            · rw [eA]; (repeat rw [wI1k (by omega)]); first | exact c7 | exact b7
            · rw [eE]; first | (rw [wI1k (by omega)]; exact c8) | (rw [wI1k (by omega)]; exact b8) | (rw [wI1k (by omega), wI1]; done) | (rw [wI1k (by omega), wI1]; omega)
            · first | (rw [eK, wI1]; done) | (rw [eK, wI1, b4]; done) | (rw [eK, wI1]; (repeat' split) <;> first | rfl | omega)
            · rw [eV]; first | (rw [wI1k (by omega), cf 0 11 (by omega)]; done) | (rw [wI1k (by omega), bf 0 11 (by omega), cf 0 11 (by omega)]; done) | (rw [wI1k (by omega)]; exact b11) | (rw [wI1k (by omega), wI1k (by omega), cf 0 11 (by omega)]; done)
            · first | (rw [wIg, if_neg (by omega), cf cc k (by omega)]; done) | (rw [wIg, if_neg (by omega), bf cc k (by omega), cf cc k (by omega)]; done) | (rw [wIg, if_neg (by omega), wIg, if_neg (by omega), cf cc k (by omega)]; done)
            · first | exact cJ | exact bJ
        · skip
          have hWp : p < n ∧ (H.1 4 p = 10 ∨ H.1 4 p = 32) := by omega
          refine x_aload_n (pc := 34) dX11_next_34 (List.Mem.head _) ?_
          refine x_dup (pc := 35) dX11_next_35 rfl ?_
          refine z_getI (pc := 36) (k := 7) (v := (p : Int)) dX11_next_36 lf_X11_108 sh_0 rfl a7 ?_
          refine z_iconst (pc := 39) dX11_next_39 ?_
          refine z_iadd (pc := 40) dX11_next_40 ?_
          refine z_putI (pc := 41) (k := 7) dX11_next_41 lp_X11_108 sh_0 rfl ?_
          have ok69 := okI ok7 0 7 (v := (((p : Int)) + 1)) (by omega) (by omega)
          refine x_goto (pc := 44) (tgt := 8) dX11_next_44 (by decide) ?_
          refine x_weaken (L1 := [(0, .ref 0)]) (List.forall_mem_cons.mpr ⟨(List.Mem.head _), (fun _ h => absurd h List.not_mem_nil)⟩) ?_
          exact ih8 ((p + 1)) (wI Ha 0 7 ((((p : Int)) + 1))) ok69 (by omega) (by rw [wI1]; omega) (fun cc k h => by rw [wIg, if_neg h]; exact af cc k h) (aJ) (ar.trans (rn_s (by omega) (decide_eq_true (by omega)))) (by omega)
  refine x_weaken (L1 := [(0, .ref 0)]) (List.forall_mem_cons.mpr ⟨(List.Mem.head _), (fun _ h => absurd h List.not_mem_nil)⟩) ?_
  exact lp8 (n - b + 1) (b) (wI H 0 7 (((b : Int)))) ok1 (by omega) (by rw [wI1]) (fun cc k h => by rw [wIg, if_neg h]) (rfl) (rfl) (Nat.lt_succ_self _)
