/-! GROUP L3: the law's loop. -/
theorem zN_and63 (a : Int) : zN a &&& zN 63 = zN (a % 64) := by
  rw [pk_and (zN a) (m := zN 63) 6 (by decide), ← zN_nat]
  congr 1
  show (((BitVec.ofInt 32 a).toNat % 2 ^ 6 : Nat) : Int) = a % 64
  rw [BitVec.toNat_ofInt]
  omega
theorem la_sw (x : Int32) : ∃ k : Nat, k < 64 ∧ (x &&& (63 : Int32)).toInt = (k : Int) := by
  have h := zN_and63 x.toInt
  rw [zN_of] at h
  refine ⟨(x.toInt % 64).toNat, by omega, ?_⟩
  show (x &&& zN 63).toInt = _
  rw [h, zN_toInt (by omega) (by omega)]
  omega

set_option maxHeartbeats 4000000 in
set_option maxRecDepth 100000 in
theorem law_loop {p : Program} {l : Launch} {e : Env} {s : State} {m : MethodId} {below : List Frame} {meth : Method} {c : Code} {adr : Nat → Nat} {cA : Nat → ClassId} {D : va_G} {b L : Nat} {xs : Nat → Int32} (K : lK p l s m c adr cA D b L xs) (hr : meth.sig.returnType = ret) (hlocks : meth.locks = false) : ∀ (N i n : Nat) (H : ZH) (Hp : Heap) (locs : List Loc) (ls : Array Slot), L + 6 ≤ i + N → 6 * n = i → i ≤ L + 5 → okZ H → Inv H n → lH s adr cA D H Hp locs → lv_has ls 4 (lL adr b i) → lW p l e s m b below meth c (lw_Z below #[Value.ref b] s) Hp locs (F0 m 18 ls []) := by
  have hx := K.1
  have hb := K.2.1
  have hX := K.2.2.2.2.2.2.2.2.1
  have hbl := K.2.2.2.2.2.2.2.2.2.1
  have hL := K.2.2.2.2.2.2.2.2.2.2.2
  have hbA := lK_b K
  intro N
  induction N with
  | zero =>
    intro i n H Hp locs ls h1 h2 h3
    exact absurd h1 (by omega)
  | succ N ih =>
    intro i n H Hp locs ls h1 h2 h3 ok I lh hl
    have hS := lh.2.2
    refine lv_iload_n hx hb dL_law_18 rfl (lv_at hl 3 rfl) ?_
    refine lv_aload_n hx hb dL_law_19 rfl (lv_at hl 0 rfl) ?_
    refine va_slen hx hb hX hbl hbA hS dL_law_20 ?_
    refine lv_bipush (v := 6) hx hb dL_law_21 (by decide) ?_
    refine lv_isub hx hb dL_law_23 ?_
    have e6 : Int32.ofNat L - 6 = zN ((L : Int) - 6) := by
      show nI L - zN 6 = _
      rw [← zN_nat, zN_sub]
    have ei : nI i = zN (i : Int) := (zN_nat i).symm
    refine lv_icmp_gt (tgt := 1995) hx hb dL_law_24 (by decide) (fun _ => ?_) (fun hle => ?_)
    · refine lv_iconst (v := 1) hx hb dL_law_1995 (by decide) ?_
      refine va_forget (fun q hq => ?_) ?_
      · rcases hS.2.2 q hq with ⟨c, z1, z2⟩ | z
        · have := K.2.2.2.2.2.2.2.2.2.2.1 c z1
          omega
        · exact z
      refine W.widen (k := 600000) (n := 7302249) (Nat.le_of_ble_eq_true rfl) (Nat.le_of_ble_eq_true rfl) ?_
      exact lw_ret hx hb hr hlocks dL_law_1996
    · rw [e6, ei, zN_lt (by omega) (by omega) (by omega) (by omega)] at hle
      have hi : i + 6 ≤ L := by omega
      have hin : vp_in (nI i) L := vp_in_nI (by omega) (by omega)
      have back : ∀ H2 Hp2 locs2, okZ H2 → Inv H2 (n + 1) → lH s adr cA D H2 Hp2 locs2 → lW p l e s m b below meth c (lw_Z below #[Value.ref b] s) Hp2 locs2 (F0 m 1989 ls []) := by
        intro H2 Hp2 locs2 ok2 I2 lh2
        have e7 : nI i + Int32.ofInt 6 = nI (i + 6) := by
          rw [ei, ← zN_nat]
          show zN (i : Int) + zN 6 = _
          rw [zN_add]; rfl
        refine lv_iinc (v := nI (i + 6)) (lv' := [(3, .int (nI (i + 6))), (0, .ref b), (1, .ref (adr 20)), (2, .ref (adr 0))]) hx hb dL_law_1989 hl (k := 3) rfl e7 (by decide) rfl (fun ls2 hl2 => ?_)
        refine lv_goto (tgt := 18) hx hb dL_law_1992 (by decide) ?_
        exact ih (i + 6) (n + 1) H2 Hp2 locs2 ls2 (by omega) (by omega) (by omega) ok2 I2 lh2 (lv_sub hl2 [1, 2, 3, 0] rfl)
      have hn : n ≤ 511 := by omega
      refine lv_aload_n hx hb dL_law_27 rfl (lv_at hl 0 rfl) ?_
      refine lv_iload_n hx hb dL_law_28 rfl (lv_at hl 3 rfl) ?_
      refine va_sld hx hb hX hbl hbA hS hin dL_law_29 ?_
      refine lv_bipush (v := 63) hx hb dL_law_30 (by decide) ?_
      refine lv_iand hx hb dL_law_32 ?_
      obtain ⟨k, hk, ek⟩ := la_sw (xs (nI i).toNatClampNeg)
      generalize xs (nI i).toNatClampNeg &&& (63 : Int32) = v at ek ⊢
      by_cases z : 48 ≤ k
      · refine lv_tableOut (tgt := 1989) hx hb dL_law_33 (Or.inr (by rw [ek]; omega)) (by decide) ?_
        exact back H Hp locs ok (Inv_same I) lh
      · have a1 : ¬ v.toInt < 0 := by rw [ek]; omega
        have a2 : ¬ (47 : Int) < v.toInt := by rw [ek]; omega
        match k, ek, (show k < 48 by omega) with
        | 0, ek, _ =>
          refine lv_tableIn (off := 207) (tgt := 240) hx hb dL_law_33 a1 a2 (by rw [ek]; rfl) (by decide) ?_
          exact la_c0 K lh ok I hn hl hi back
        | 1, ek, _ =>
          refine lv_tableIn (off := 270) (tgt := 303) hx hb dL_law_33 a1 a2 (by rw [ek]; rfl) (by decide) ?_
          exact la_c1 K lh ok I hn hl hi back
        | 2, ek, _ =>
          refine lv_tableIn (off := 303) (tgt := 336) hx hb dL_law_33 a1 a2 (by rw [ek]; rfl) (by decide) ?_
          exact la_c2 K lh ok I hn hl hi back
        | 3, ek, _ =>
          refine lv_tableIn (off := 326) (tgt := 359) hx hb dL_law_33 a1 a2 (by rw [ek]; rfl) (by decide) ?_
          exact la_c3 K lh ok I hn hl hi back
        | 4, ek, _ =>
          refine lv_tableIn (off := 359) (tgt := 392) hx hb dL_law_33 a1 a2 (by rw [ek]; rfl) (by decide) ?_
          exact la_c4 K lh ok I hn hl hi back
        | 5, ek, _ =>
          refine lv_tableIn (off := 408) (tgt := 441) hx hb dL_law_33 a1 a2 (by rw [ek]; rfl) (by decide) ?_
          exact la_c5 K lh ok I hn hl hi back
        | 6, ek, _ =>
          refine lv_tableIn (off := 441) (tgt := 474) hx hb dL_law_33 a1 a2 (by rw [ek]; rfl) (by decide) ?_
          exact la_c6 K lh ok I hn hl hi back
        | 7, ek, _ =>
          refine lv_tableIn (off := 464) (tgt := 497) hx hb dL_law_33 a1 a2 (by rw [ek]; rfl) (by decide) ?_
          exact la_c7 K lh ok I hn hl hi back
        | 8, ek, _ =>
          refine lv_tableIn (off := 487) (tgt := 520) hx hb dL_law_33 a1 a2 (by rw [ek]; rfl) (by decide) ?_
          exact la_c8 K lh ok I hn hl hi back
        | 9, ek, _ =>
          refine lv_tableIn (off := 520) (tgt := 553) hx hb dL_law_33 a1 a2 (by rw [ek]; rfl) (by decide) ?_
          exact la_c9 K lh ok I hn hl hi back
        | 10, ek, _ =>
          refine lv_tableIn (off := 573) (tgt := 606) hx hb dL_law_33 a1 a2 (by rw [ek]; rfl) (by decide) ?_
          exact la_c10 K lh ok I hn hl hi back
        | 11, ek, _ =>
          refine lv_tableIn (off := 606) (tgt := 639) hx hb dL_law_33 a1 a2 (by rw [ek]; rfl) (by decide) ?_
          exact la_c11 K lh ok I hn hl hi back
        | 12, ek, _ =>
          refine lv_tableIn (off := 649) (tgt := 682) hx hb dL_law_33 a1 a2 (by rw [ek]; rfl) (by decide) ?_
          exact la_c12 K lh ok I hn hl hi back
        | 13, ek, _ =>
          refine lv_tableIn (off := 673) (tgt := 706) hx hb dL_law_33 a1 a2 (by rw [ek]; rfl) (by decide) ?_
          exact la_c13 K lh ok I hn hl hi back
        | 14, ek, _ =>
          refine lv_tableIn (off := 697) (tgt := 730) hx hb dL_law_33 a1 a2 (by rw [ek]; rfl) (by decide) ?_
          exact la_c14 K lh ok I hn hl hi back
        | 15, ek, _ =>
          refine lv_tableIn (off := 720) (tgt := 753) hx hb dL_law_33 a1 a2 (by rw [ek]; rfl) (by decide) ?_
          exact la_c15 K lh ok I hn hl hi back
        | 16, ek, _ =>
          refine lv_tableIn (off := 743) (tgt := 776) hx hb dL_law_33 a1 a2 (by rw [ek]; rfl) (by decide) ?_
          exact la_c16 K lh ok I hn hl hi back
        | 17, ek, _ =>
          refine lv_tableIn (off := 766) (tgt := 799) hx hb dL_law_33 a1 a2 (by rw [ek]; rfl) (by decide) ?_
          exact la_c17 K lh ok I hn hl hi back
        | 18, ek, _ =>
          refine lv_tableIn (off := 800) (tgt := 833) hx hb dL_law_33 a1 a2 (by rw [ek]; rfl) (by decide) ?_
          exact la_c18 K lh ok I hn hl hi back
        | 19, ek, _ =>
          refine lv_tableIn (off := 824) (tgt := 857) hx hb dL_law_33 a1 a2 (by rw [ek]; rfl) (by decide) ?_
          exact la_c19 K lh ok I hn hl hi back
        | 20, ek, _ =>
          refine lv_tableIn (off := 848) (tgt := 881) hx hb dL_law_33 a1 a2 (by rw [ek]; rfl) (by decide) ?_
          exact la_c20 K lh ok I hn hl hi back
        | 21, ek, _ =>
          refine lv_tableIn (off := 872) (tgt := 905) hx hb dL_law_33 a1 a2 (by rw [ek]; rfl) (by decide) ?_
          exact la_c21 K lh ok I hn hl hi back
        | 22, ek, _ =>
          refine lv_tableIn (off := 895) (tgt := 928) hx hb dL_law_33 a1 a2 (by rw [ek]; rfl) (by decide) ?_
          exact la_c22 K lh ok I hn hl hi back
        | 23, ek, _ =>
          refine lv_tableIn (off := 974) (tgt := 1007) hx hb dL_law_33 a1 a2 (by rw [ek]; rfl) (by decide) ?_
          exact la_c23 K lh ok I hn hl hi back
        | 24, ek, _ =>
          refine lv_tableIn (off := 1007) (tgt := 1040) hx hb dL_law_33 a1 a2 (by rw [ek]; rfl) (by decide) ?_
          exact la_c24 K lh ok I hn hl hi back
        | 25, ek, _ =>
          refine lv_tableIn (off := 1040) (tgt := 1073) hx hb dL_law_33 a1 a2 (by rw [ek]; rfl) (by decide) ?_
          exact la_c25 K lh ok I hn hl hi back
        | 26, ek, _ =>
          refine lv_tableIn (off := 1089) (tgt := 1122) hx hb dL_law_33 a1 a2 (by rw [ek]; rfl) (by decide) ?_
          exact la_c26 K lh ok I hn hl hi back
        | 27, ek, _ =>
          refine lv_tableIn (off := 1102) (tgt := 1135) hx hb dL_law_33 a1 a2 (by rw [ek]; rfl) (by decide) ?_
          exact la_c27 K lh ok I hn hl hi back
        | 28, ek, _ =>
          refine lv_tableIn (off := 1135) (tgt := 1168) hx hb dL_law_33 a1 a2 (by rw [ek]; rfl) (by decide) ?_
          exact la_c28 K lh ok I hn hl hi back
        | 29, ek, _ =>
          refine lv_tableIn (off := 1158) (tgt := 1191) hx hb dL_law_33 a1 a2 (by rw [ek]; rfl) (by decide) ?_
          exact la_c29 K lh ok I hn hl hi back
        | 30, ek, _ =>
          refine lv_tableIn (off := 1201) (tgt := 1234) hx hb dL_law_33 a1 a2 (by rw [ek]; rfl) (by decide) ?_
          exact la_c30 K lh ok I hn hl hi back
        | 31, ek, _ =>
          refine lv_tableIn (off := 1234) (tgt := 1267) hx hb dL_law_33 a1 a2 (by rw [ek]; rfl) (by decide) ?_
          exact la_c31 K lh ok I hn hl hi back
        | 32, ek, _ =>
          refine lv_tableIn (off := 1287) (tgt := 1320) hx hb dL_law_33 a1 a2 (by rw [ek]; rfl) (by decide) ?_
          exact la_c32 K lh ok I hn hl hi back
        | 33, ek, _ =>
          refine lv_tableIn (off := 1340) (tgt := 1373) hx hb dL_law_33 a1 a2 (by rw [ek]; rfl) (by decide) ?_
          exact la_c33 K lh ok I hn hl hi back
        | 34, ek, _ =>
          refine lv_tableIn (off := 1373) (tgt := 1406) hx hb dL_law_33 a1 a2 (by rw [ek]; rfl) (by decide) ?_
          exact la_c34 K lh ok I hn hl hi back
        | 35, ek, _ =>
          refine lv_tableIn (off := 1426) (tgt := 1459) hx hb dL_law_33 a1 a2 (by rw [ek]; rfl) (by decide) ?_
          exact la_c35 K lh ok I hn hl hi back
        | 36, ek, _ =>
          refine lv_tableIn (off := 1479) (tgt := 1512) hx hb dL_law_33 a1 a2 (by rw [ek]; rfl) (by decide) ?_
          exact la_c36 K lh ok I hn hl hi back
        | 37, ek, _ =>
          refine lv_tableIn (off := 1522) (tgt := 1555) hx hb dL_law_33 a1 a2 (by rw [ek]; rfl) (by decide) ?_
          exact la_c37 K lh ok I hn hl hi back
        | 38, ek, _ =>
          refine lv_tableIn (off := 1575) (tgt := 1608) hx hb dL_law_33 a1 a2 (by rw [ek]; rfl) (by decide) ?_
          exact la_c38 K lh ok I hn hl hi back
        | 39, ek, _ =>
          refine lv_tableIn (off := 1618) (tgt := 1651) hx hb dL_law_33 a1 a2 (by rw [ek]; rfl) (by decide) ?_
          exact la_c39 K lh ok I hn hl hi back
        | 40, ek, _ =>
          refine lv_tableIn (off := 1681) (tgt := 1714) hx hb dL_law_33 a1 a2 (by rw [ek]; rfl) (by decide) ?_
          exact la_c40 K lh ok I hn hl hi back
        | 41, ek, _ =>
          refine lv_tableIn (off := 1714) (tgt := 1747) hx hb dL_law_33 a1 a2 (by rw [ek]; rfl) (by decide) ?_
          exact la_c41 K lh ok I hn hl hi back
        | 42, ek, _ =>
          refine lv_tableIn (off := 1747) (tgt := 1780) hx hb dL_law_33 a1 a2 (by rw [ek]; rfl) (by decide) ?_
          exact la_c42 K lh ok I hn hl hi back
        | 43, ek, _ =>
          refine lv_tableIn (off := 1790) (tgt := 1823) hx hb dL_law_33 a1 a2 (by rw [ek]; rfl) (by decide) ?_
          exact la_c43 K lh ok I hn hl hi back
        | 44, ek, _ =>
          refine lv_tableIn (off := 1864) (tgt := 1897) hx hb dL_law_33 a1 a2 (by rw [ek]; rfl) (by decide) ?_
          exact la_c44 K lh ok I hn hl hi back
        | 45, ek, _ =>
          refine lv_tableIn (off := 1887) (tgt := 1920) hx hb dL_law_33 a1 a2 (by rw [ek]; rfl) (by decide) ?_
          exact la_c45 K lh ok I hn hl hi back
        | 46, ek, _ =>
          refine lv_tableIn (off := 1910) (tgt := 1943) hx hb dL_law_33 a1 a2 (by rw [ek]; rfl) (by decide) ?_
          exact la_c46 K lh ok I hn hl hi back
        | 47, ek, _ =>
          refine lv_tableIn (off := 1933) (tgt := 1966) hx hb dL_law_33 a1 a2 (by rw [ek]; rfl) (by decide) ?_
          exact la_c47 K lh ok I hn hl hi back
        | k + 48, ek, h => exact absurd h (by omega)
