/-! THE SIMULATION: every closed clause holds of the machine itself. -/
theorem mu_0 : ∀ w ∈ u_ws RX0 TX0 6, w ∈ mG := by
  have h : u_ws RX0 TX0 6 = [368, 370, 372, 374, 376, 378].filterMap (fun i => lw_tbl[i]?) := by decide +kernel
  have hg : (u_ws RX0 TX0 6).all goodWord = true := by decide +kernel
  intro w hw
  have h1 := List.all_eq_true.mp hg w hw
  rw [h] at hw
  obtain ⟨i, -, hi⟩ := List.mem_filterMap.mp hw
  exact mG_in i hi h1
theorem mu_1 : ∀ w ∈ u_ws RX1 TX1 5, w ∈ mG := by
  have h : u_ws RX1 TX1 5 = [227, 229, 231, 233, 235].filterMap (fun i => lw_tbl[i]?) := by decide +kernel
  have hg : (u_ws RX1 TX1 5).all goodWord = true := by decide +kernel
  intro w hw
  have h1 := List.all_eq_true.mp hg w hw
  rw [h] at hw
  obtain ⟨i, -, hi⟩ := List.mem_filterMap.mp hw
  exact mG_in i hi h1
theorem mu_2 : ∀ w ∈ u_ws RX2 TX2 9, w ∈ mG := by
  have h : u_ws RX2 TX2 9 = [311, 313, 315, 317, 319, 321, 323, 325, 327].filterMap (fun i => lw_tbl[i]?) := by decide +kernel
  have hg : (u_ws RX2 TX2 9).all goodWord = true := by decide +kernel
  intro w hw
  have h1 := List.all_eq_true.mp hg w hw
  rw [h] at hw
  obtain ⟨i, -, hi⟩ := List.mem_filterMap.mp hw
  exact mG_in i hi h1
theorem mu_3 : ∀ w ∈ u_ws RX3 TX3 11, w ∈ mG := by
  have h : u_ws RX3 TX3 11 = [253, 255, 257, 259, 261, 263, 265, 267, 269, 271, 273].filterMap (fun i => lw_tbl[i]?) := by decide +kernel
  have hg : (u_ws RX3 TX3 11).all goodWord = true := by decide +kernel
  intro w hw
  have h1 := List.all_eq_true.mp hg w hw
  rw [h] at hw
  obtain ⟨i, -, hi⟩ := List.mem_filterMap.mp hw
  exact mG_in i hi h1
theorem mu_4 : ∀ w ∈ u_ws RX4 TX4 19, w ∈ mG := by
  have h : u_ws RX4 TX4 19 = [421, 423, 425, 427, 429, 431, 433, 435, 437, 439, 441, 443, 445, 447, 449, 451, 453, 455, 457].filterMap (fun i => lw_tbl[i]?) := by decide +kernel
  have hg : (u_ws RX4 TX4 19).all goodWord = true := by decide +kernel
  intro w hw
  have h1 := List.all_eq_true.mp hg w hw
  rw [h] at hw
  obtain ⟨i, -, hi⟩ := List.mem_filterMap.mp hw
  exact mG_in i hi h1
theorem mu_5 : ∀ w ∈ u_ws RX5 TX5 4, w ∈ mG := by
  have h : u_ws RX5 TX5 4 = [552, 554, 556, 558].filterMap (fun i => lw_tbl[i]?) := by decide +kernel
  have hg : (u_ws RX5 TX5 4).all goodWord = true := by decide +kernel
  intro w hw
  have h1 := List.all_eq_true.mp hg w hw
  rw [h] at hw
  obtain ⟨i, -, hi⟩ := List.mem_filterMap.mp hw
  exact mG_in i hi h1
theorem mu_6 : ∀ w ∈ u_ws RX6 TX6 12, w ∈ mG := by
  have h : u_ws RX6 TX6 12 = [183, 185, 187, 189, 191, 193, 195, 197, 199, 201, 203, 205].filterMap (fun i => lw_tbl[i]?) := by decide +kernel
  have hg : (u_ws RX6 TX6 12).all goodWord = true := by decide +kernel
  intro w hw
  have h1 := List.all_eq_true.mp hg w hw
  rw [h] at hw
  obtain ⟨i, -, hi⟩ := List.mem_filterMap.mp hw
  exact mG_in i hi h1
theorem mu_7 : ∀ w ∈ u_ws RX7 TX7 7, w ∈ mG := by
  have h : u_ws RX7 TX7 7 = [522, 524, 526, 528, 530, 532, 534].filterMap (fun i => lw_tbl[i]?) := by decide +kernel
  have hg : (u_ws RX7 TX7 7).all goodWord = true := by decide +kernel
  intro w hw
  have h1 := List.all_eq_true.mp hg w hw
  rw [h] at hw
  obtain ⟨i, -, hi⟩ := List.mem_filterMap.mp hw
  exact mG_in i hi h1
theorem mu_8 : ∀ w ∈ u_ws RX8 TX8 4, w ∈ mG := by
  have h : u_ws RX8 TX8 4 = [338, 340, 342, 344].filterMap (fun i => lw_tbl[i]?) := by decide +kernel
  have hg : (u_ws RX8 TX8 4).all goodWord = true := by decide +kernel
  intro w hw
  have h1 := List.all_eq_true.mp hg w hw
  rw [h] at hw
  obtain ⟨i, -, hi⟩ := List.mem_filterMap.mp hw
  exact mG_in i hi h1
theorem mu_9 : ∀ w ∈ u_ws RX9 TX9 9, w ∈ mG := by
  have h : u_ws RX9 TX9 9 = [484, 486, 488, 490, 492, 494, 496, 498, 500].filterMap (fun i => lw_tbl[i]?) := by decide +kernel
  have hg : (u_ws RX9 TX9 9).all goodWord = true := by decide +kernel
  intro w hw
  have h1 := List.all_eq_true.mp hg w hw
  rw [h] at hw
  obtain ⟨i, -, hi⟩ := List.mem_filterMap.mp hw
  exact mG_in i hi h1
theorem mu_10 : ∀ w ∈ u_ws RX10 TX10 16, w ∈ mG := by
  have h : u_ws RX10 TX10 16 = [577, 579, 581, 583, 585, 587, 589, 591, 593, 595, 597, 599, 601, 603, 605, 607].filterMap (fun i => lw_tbl[i]?) := by decide +kernel
  have hg : (u_ws RX10 TX10 16).all goodWord = true := by decide +kernel
  intro w hw
  have h1 := List.all_eq_true.mp hg w hw
  rw [h] at hw
  obtain ⟨i, -, hi⟩ := List.mem_filterMap.mp hw
  exact mG_in i hi h1
theorem mu_11 : ∀ w ∈ u_ws RX11 TX11 36, w ∈ mG := by
  have h : u_ws RX11 TX11 36 = [1346, 1348, 1350, 1352, 1354, 1356, 1358, 1360, 1362, 1364, 1366, 1368, 1370, 1372, 1374, 1376, 1378, 1380, 1382, 1384, 1386, 1388, 1390, 1392, 1394, 1396, 1398, 1400, 1402, 1404, 1406, 1408, 1410, 1412, 1414, 1416].filterMap (fun i => lw_tbl[i]?) := by decide +kernel
  have hg : (u_ws RX11 TX11 36).all goodWord = true := by decide +kernel
  intro w hw
  have h1 := List.all_eq_true.mp hg w hw
  rw [h] at hw
  obtain ⟨i, -, hi⟩ := List.mem_filterMap.mp hw
  exact mG_in i hi h1
theorem mcl_in {ci : Nat} {C : String} {T : u_T} {N : Nat} (h : mcl[ci]? = some (C, T, N)) : ∀ w ∈ u_ws C T N, w ∈ mG := by
  match ci, h with
  | 0, h => cases h; exact mu_0
  | 1, h => cases h; exact mu_1
  | 2, h => cases h; exact mu_2
  | 3, h => cases h; exact mu_3
  | 4, h => cases h; exact mu_4
  | 5, h => cases h; exact mu_5
  | 6, h => cases h; exact mu_6
  | 7, h => cases h; exact mu_7
  | 8, h => cases h; exact mu_8
  | 9, h => cases h; exact mu_9
  | 10, h => cases h; exact mu_10
  | 11, h => cases h; exact mu_11
  | _ + 12, h => simp [mcl] at h
theorem mcl_ty {ci : Nat} {C : String} {T : u_T} {N : Nat} (h : mcl[ci]? = some (C, T, N)) : ∃ ty0 : Nat → FieldType, (∀ k, k < N → parseFieldDescriptor (T k).2.2.1 = some (ty0 k)) ∧ ∀ a, a < N → ∀ b, b < N → a ≠ b → (T a).2.1 ≠ (T b).2.1 := by
  match ci, h with
  | 0, h => cases h; exact ⟨tyX0, tyX0_ok, nmX0⟩
  | 1, h => cases h; exact ⟨tyX1, tyX1_ok, nmX1⟩
  | 2, h => cases h; exact ⟨tyX2, tyX2_ok, nmX2⟩
  | 3, h => cases h; exact ⟨tyX3, tyX3_ok, nmX3⟩
  | 4, h => cases h; exact ⟨tyX4, tyX4_ok, nmX4⟩
  | 5, h => cases h; exact ⟨tyX5, tyX5_ok, nmX5⟩
  | 6, h => cases h; exact ⟨tyX6, tyX6_ok, nmX6⟩
  | 7, h => cases h; exact ⟨tyX7, tyX7_ok, nmX7⟩
  | 8, h => cases h; exact ⟨tyX8, tyX8_ok, nmX8⟩
  | 9, h => cases h; exact ⟨tyX9, tyX9_ok, nmX9⟩
  | 10, h => cases h; exact ⟨tyX10, tyX10_ok, nmX10⟩
  | 11, h => cases h; exact ⟨tyX11, tyX11_ok, nmX11⟩
  | _ + 12, h => simp [mcl] at h
def mtr (adr : Nat → Nat) : Value → Value
  | .ref c => .ref (adr c)
  | v => v
theorem mtr_cat (adr : Nat → Nat) (v : Value) : (mtr adr v).category = v.category := by cases v <;> rfl
def trL (adr : Nat → Nat) (L : ML) : ML := L.map (fun q => (q.1, mtr adr q.2))
theorem mem_trL {adr : Nat → Nat} {L : ML} {i : Nat} {v : Value} (h : (i, v) ∈ L) : (i, mtr adr v) ∈ trL adr L := List.mem_map.mpr ⟨(i, v), h, rfl⟩
theorem mem_trLq {adr : Nat → Nat} {L L1 : ML} (hs : ∀ q ∈ L1, q ∈ L) {q : Nat × Value} (h : q ∈ trL adr L1) : q ∈ trL adr L := by
  obtain ⟨r, h1, h2⟩ := List.mem_map.mp h
  exact List.mem_map.mpr ⟨r, hs r h1, h2⟩
theorem lv_less {ls : Array Slot} {nL : Nat} {l l' : List (Nat × Value)} (h : lv_has ls nL l) (hs : ∀ q ∈ l', q ∈ l) : lv_has ls nL l' := ⟨h.1, h.2.1, fun q hq => h.2.2 q (hs q hq)⟩
theorem trL_st1 {adr : Nat → Nat} (i : Nat) (v : Value) (L : ML) : trL adr (st1 i v L) = (i, mtr adr v) :: (trL adr L).filter (fun q => !(q.1 == i) && !(q.1 + 1 == i && q.2.category == 2)) := by
  simp only [trL, st1, List.map_cons, List.filter_map]
  congr 3
  funext q
  simp [Function.comp, mtr_cat]
theorem trL_st2 {adr : Nat → Nat} (i : Nat) (v : Value) (L : ML) : trL adr (st2 i v L) = (i, mtr adr v) :: (trL adr L).filter (fun q => !(q.1 == i) && (!(q.1 == i + 1) && !(q.1 + 1 == i && q.2.category == 2))) := by
  simp only [trL, st2, List.map_cons, List.filter_map]
  congr 3
  funext q
  simp [Function.comp, mtr_cat]
theorem mcat (adr : Nat → Nat) (S : List Value) : ((S.map (mtr adr)).map fun v => v.category).sum = (S.map fun v => v.category).sum := by
  rw [List.map_map]
  congr 2
  funext v
  exact mtr_cat adr v
def mfv (X : MX) (adr : Nat → Nat) (h : MH) (c k : Nat) : Nat → Value
  | 0 => .int (h.1 c k)
  | 1 => .long (h.2 c k)
  | 2 => .ref (adr (X.2 c k))
  | _ => .ref (adr (h.1 c k).toNatClampNeg)
def mfs (X : MX) (adr : Nat → Nat) (h : MH) (c : Nat) (ks : List Nat) : List Value := (List.range ks.length).map (fun k => mfv X adr h c k (ks.getD k 0))
def mcell (X : MX) (adr : Nat → Nat) (cA : Nat → ClassId) (h : MH) (c : Nat) : MSh → va_E
  | .inl (ci, ks) => .inr (ci, mfs X adr h c ks)
  | .inr (0, n) => .inl (cA 0, n, .inl (h.1 c))
  | .inr (1, n) => .inl (cA 1, n, .inr (.inl (h.2 c)))
  | .inr (2, n) => .inl (cA 2, n, .inl (h.1 c))
  | .inr (3, n) => .inl (cA 3, n, .inl (h.1 c))
  | .inr (ek, n) => .inl (cA ek, n, .inr (.inr (.inr (.inr (fun j => some (adr (X.2 c j)))))))
def mws (X : MX) (adr : Nat → Nat) (cA : Nat → ClassId) (h : MH) : va_W := (List.range X.1.length).map (fun c => (adr c, mcell X adr cA h c (X.1.getD c (.inr (0, 0)))))
theorem mws_get {X : MX} {adr : Nat → Nat} {cA : Nat → ClassId} {h : MH} {c : Nat} {sh : MSh} (hs : X.1[c]? = some sh) : (mws X adr cA h)[c]? = some (adr c, mcell X adr cA h c sh) := by
  have hlt : c < X.1.length := (List.getElem?_eq_some_iff.mp hs).1
  simp only [mws, List.getElem?_map, List.getElem?_range hlt, Option.map_some, List.getD_eq_getElem?_getD, hs, Option.getD_some]
theorem mws_len {X : MX} {adr : Nat → Nat} {cA : Nat → ClassId} {h : MH} : (mws X adr cA h).length = X.1.length := by simp [mws]
theorem mfs_get {X : MX} {adr : Nat → Nat} {h : MH} {c k kd : Nat} {ks : List Nat} (hk : ks[k]? = some kd) : (mfs X adr h c ks)[k]? = some (mfv X adr h c k kd) := by
  have hlt : k < ks.length := (List.getElem?_eq_some_iff.mp hk).1
  simp only [mfs, List.getElem?_map, List.getElem?_range hlt, Option.map_some, List.getD_eq_getElem?_getD, hk, Option.getD_some]
theorem mfs_len {X : MX} {adr : Nat → Nat} {h : MH} {c k kd : Nat} {ks : List Nat} (hk : ks[k]? = some kd) : k < (mfs X adr h c ks).length := by
  have hlt : k < ks.length := (List.getElem?_eq_some_iff.mp hk).1
  simp [mfs, hlt]
/-- a heap that differs at one cell alone -/
theorem mws_upd {X : MX} {adr : Nat → Nat} {cA : Nat → ClassId} {h h1 : MH} {c : Nat} {sh : MSh} {e : va_E} (hs : X.1[c]? = some sh) (ho : ∀ c', c' ≠ c → h1.1 c' = h.1 c' ∧ h1.2 c' = h.2 c') (he : mcell X adr cA h1 c sh = e) : mws X adr cA h1 = (mws X adr cA h).set c (adr c, e) := by
  have hlt : c < X.1.length := (List.getElem?_eq_some_iff.mp hs).1
  apply List.ext_getElem?
  intro j
  by_cases hj : j = c
  · subst hj
    rw [mws_get hs, he, List.getElem?_set_self (by rw [mws_len]; exact hlt)]
  · rw [List.getElem?_set_ne (fun q => hj q.symm)]
    by_cases hl : j < X.1.length
    · have hq : X.1[j]? = some X.1[j] := List.getElem?_eq_getElem hl
      rw [mws_get hq, mws_get hq]
      obtain ⟨e1, e2⟩ := ho j hj
      have e3 : ∀ ks, mfs X adr h1 j ks = mfs X adr h j ks := by
        intro ks
        unfold mfs
        congr 1
        funext k
        unfold mfv
        split <;> simp [e1, e2]
      congr 2
      unfold mcell
      split <;> simp [e1, e2, e3]
    · rw [List.getElem?_eq_none (by rw [mws_len]; omega), List.getElem?_eq_none (by rw [mws_len]; omega)]
theorem hI_o {h : MH} {c k : Nat} {v : Int32} : ∀ c', c' ≠ c → (hI h c k v).1 c' = h.1 c' ∧ (hI h c k v).2 c' = h.2 c' := fun c' hc => ⟨if_neg hc, rfl⟩
theorem hI_s {h : MH} {c k : Nat} {v : Int32} : (hI h c k v).1 c = upd (h.1 c) k v := if_pos rfl
theorem hJ_o {h : MH} {c k : Nat} {v : Int64} : ∀ c', c' ≠ c → (hJ h c k v).1 c' = h.1 c' ∧ (hJ h c k v).2 c' = h.2 c' := fun c' hc => ⟨rfl, if_neg hc⟩
theorem hJ_s {h : MH} {c k : Nat} {v : Int64} : (hJ h c k v).2 c = vp_updL (h.2 c) k v := if_pos rfl
theorem hW_o {h : MH} {c : Nat} {f : Nat → Int32} : ∀ c', c' ≠ c → (hW h c f).1 c' = h.1 c' ∧ (hW h c f).2 c' = h.2 c' := fun c' hc => ⟨if_neg hc, rfl⟩
theorem hW_s {h : MH} {c : Nat} {f : Nat → Int32} : (hW h c f).1 c = f := if_pos rfl
theorem mws_arrI {X : MX} {adr : Nat → Nat} {cA : Nat → ClassId} {h : MH} {c ek n k : Nat} {v : Int32} (hs : X.1[c]? = some (.inr (ek, n))) (h1 : ek ≠ 1) (h3 : ek ≤ 3) : mws X adr cA (hI h c k v) = (mws X adr cA h).set c (adr c, .inl (cA ek, n, .inl (upd (h.1 c) k v))) := by
  refine mws_upd hs hI_o ?_
  rcases (show ek = 0 ∨ ek = 2 ∨ ek = 3 by omega) with rfl | rfl | rfl <;> simp [mcell, hI_s]
theorem mws_arrJ {X : MX} {adr : Nat → Nat} {cA : Nat → ClassId} {h : MH} {c n k : Nat} {v : Int64} (hs : X.1[c]? = some (.inr (1, n))) : mws X adr cA (hJ h c k v) = (mws X adr cA h).set c (adr c, .inl (cA 1, n, .inr (.inl (vp_updL (h.2 c) k v)))) := by
  refine mws_upd hs hJ_o ?_
  simp [mcell, hJ_s]
theorem mws_arrW {X : MX} {adr : Nat → Nat} {cA : Nat → ClassId} {h : MH} {c n : Nat} {f : Nat → Int32} (hs : X.1[c]? = some (.inr (0, n))) : mws X adr cA (hW h c f) = (mws X adr cA h).set c (adr c, .inl (cA 0, n, .inl f)) := by
  refine mws_upd hs hW_o ?_
  simp [mcell, hW_s]
theorem mfs_set {X : MX} {adr : Nat → Nat} {h h1 : MH} {c k kd : Nat} {ks : List Nat} {v : Value} (hk : ks[k]? = some kd) (hv : mfv X adr h1 c k kd = v) (ho : ∀ j, j ≠ k → h1.1 c j = h.1 c j ∧ h1.2 c j = h.2 c j) : mfs X adr h1 c ks = (mfs X adr h c ks).set k v := by
  have hlt : k < ks.length := (List.getElem?_eq_some_iff.mp hk).1
  apply List.ext_getElem?
  intro j
  by_cases hj : j = k
  · subst hj
    rw [mfs_get hk, hv, List.getElem?_set_self (mfs_len hk)]
  · rw [List.getElem?_set_ne (fun q => hj q.symm)]
    by_cases hl : j < ks.length
    · have hq : ks[j]? = some ks[j] := List.getElem?_eq_getElem hl
      rw [mfs_get hq, mfs_get hq]
      obtain ⟨e1, e2⟩ := ho j hj
      congr 1
      unfold mfv
      split <;> simp [e1, e2]
    · rw [List.getElem?_eq_none (by simp [mfs]; omega), List.getElem?_eq_none (by simp [mfs]; omega)]
theorem mws_objI {X : MX} {adr : Nat → Nat} {cA : Nat → ClassId} {h : MH} {c ci k : Nat} {ks : List Nat} {v : Int32} (hs : X.1[c]? = some (.inl (ci, ks))) (hk : ks[k]? = some 0) : mws X adr cA (hI h c k v) = (mws X adr cA h).set c (adr c, .inr (ci, (mfs X adr h c ks).set k (.int v))) := by
  refine mws_upd hs hI_o ?_
  show Sum.inr (ci, mfs X adr (hI h c k v) c ks) = _
  rw [mfs_set (h := h) (h1 := hI h c k v) hk (v := .int v) (by simp [mfv, hI_s, upd]) (fun j hj => ⟨by rw [hI_s]; simp [upd, hj], rfl⟩)]
theorem mws_objY {X : MX} {adr : Nat → Nat} {cA : Nat → ClassId} {h : MH} {c ci k a : Nat} {ks : List Nat} (hs : X.1[c]? = some (.inl (ci, ks))) (hk : ks[k]? = some 3) (ha : a < 2 ^ 31) : mws X adr cA (hI h c k (nI a)) = (mws X adr cA h).set c (adr c, .inr (ci, (mfs X adr h c ks).set k (.ref (adr a)))) := by
  refine mws_upd hs hI_o ?_
  show Sum.inr (ci, mfs X adr (hI h c k (nI a)) c ks) = _
  rw [mfs_set (h := h) (h1 := hI h c k (nI a)) hk (v := .ref (adr a)) (by simp [mfv, hI_s, upd, nI_clamp ha]) (fun j hj => ⟨by rw [hI_s]; simp [upd, hj], rfl⟩)]
theorem mws_objJ {X : MX} {adr : Nat → Nat} {cA : Nat → ClassId} {h : MH} {c ci k : Nat} {ks : List Nat} {v : Int64} (hs : X.1[c]? = some (.inl (ci, ks))) (hk : ks[k]? = some 1) : mws X adr cA (hJ h c k v) = (mws X adr cA h).set c (adr c, .inr (ci, (mfs X adr h c ks).set k (.long v))) := by
  refine mws_upd hs hJ_o ?_
  show Sum.inr (ci, mfs X adr (hJ h c k v) c ks) = _
  rw [mfs_set (h := h) (h1 := hJ h c k v) hk (v := .long v) (by simp [mfv, hJ_s, vp_updL]) (fun j hj => ⟨rfl, by rw [hJ_s]; simp [vp_updL, hj]⟩)]
theorem mty_get {cA : Nat → ClassId} {ek : Nat} (h : ek < 6) : ∃ ty : FieldType, (mty cA)[ek]? = some (cA ek, ty) := by
  match ek, h with
  | 0, _ => exact ⟨_, rfl⟩
  | 1, _ => exact ⟨_, rfl⟩
  | 2, _ => exact ⟨_, rfl⟩
  | 3, _ => exact ⟨_, rfl⟩
  | 4, _ => exact ⟨_, rfl⟩
  | 5, _ => exact ⟨_, rfl⟩
theorem mcell_len {X : MX} {adr : Nat → Nat} {cA : Nat → ClassId} {h : MH} {c ek n : Nat} : ∃ x, mcell X adr cA h c (.inr (ek, n)) = .inl (cA ek, n, x) := by
  match ek with
  | 0 => exact ⟨_, rfl⟩
  | 1 => exact ⟨_, rfl⟩
  | 2 => exact ⟨_, rfl⟩
  | 3 => exact ⟨_, rfl⟩
  | _ + 4 => exact ⟨_, rfl⟩
def mA (adr : Nat → Nat) (n sz : Nat) (q : Nat) : Prop := (∃ c, c < n ∧ q = adr c) ∨ sz ≤ q
/-- what else a state tells: nest mates' links, the two texts -/
def mE (X : MX) (adr : Nat → Nat) (sz : Nat) (U : State) : Prop := (∀ w ∈ mNL, va_Nw w U) ∧ vk_R RX3 161 msWs (adr 900) U ∧ vk_R RX11 96 msKs (adr 901) U ∧ vk_S 2 mslen msbyt (fun i => adr (900 + i)) (fun i => adr (950 + i)) (mA adr X.1.length sz) U U.heap ∧ va_Z "java/lang/String" "COMPACT_STRINGS" "Z" (.int 1) (mA adr X.1.length sz) U U.heap ∧ va_Zq "jdk/internal/util/Preconditions" "SIOOBE_FORMATTER" "Ljava/util/function/BiFunction;" (mA adr X.1.length sz) U U.heap
def mPre (X : MX) (adr : Nat → Nat) (cA : Nat → ClassId) (D : va_G) (sz : Nat) (h : MH) (U : State) : Prop := U.heap.size = sz ∧ va_P D mcl (mws X adr cA h) U.heap ∧ va_K D mcl (mty cA) U ∧ va_D (fun _ => True) (mws X adr cA h) ∧ mE X adr sz U
def mB (X : MX) (adr : Nat → Nat) (cA : Nat → ClassId) (D : va_G) (A : Nat → Prop) (h : MH) (t : State) : Prop := va_P D mcl (mws X adr cA h) t.heap ∧ va_K D mcl (mty cA) t ∧ va_D A (mws X adr cA h)
def mQ (ret : Option FieldType) (Po : MPost) (B : MH → State → Prop) (A : Nat → Prop) : Array Value → State → Outcome → State → Prop := match ret with
  | none => va_Qv (fun u => Po none u) B A
  | some .long => va_Ql (fun r u => Po (some (.long r)) u) B A
  | some _ => va_Qi (fun r u => Po (some (.int r)) u) B A
abbrev mw (i : MI) : List Cond := Cond.code i.1 i.2.1 i.2.2.1 i.2.2.2 :: mG
theorem mG_good {w : Cond} (h : w ∈ mG) : (w.onTables && w.keeps) = true ∨ ∃ ty, w = .arrayClass ty := good_of_word (List.mem_filter.mp h).2
theorem mwG (i : MI) (ok : okM i) : GoodIn mG (mw i) := by
  intro w hw
  rcases List.mem_cons.mp hw with h | h
  · subst h; exact ⟨ok.1, mG_good ok.1⟩
  · exact ⟨h, mG_good h⟩
theorem mwV {idx n : Nat} {i : MI} (mi : MI) (lk : Cond.methodLink mi.1.cls idx i.1 ∈ mG) (ok : okV i n) : GoodIn mG (wsV mi.1.cls idx i.1.cls i.1 (mw i)) := by
  intro w hw
  have hm : w ∈ mG := by
    rcases List.mem_append.mp hw with h | h
    · simp only [List.mem_cons, List.not_mem_nil, or_false] at h
      rcases h with rfl | rfl | rfl | rfl
      · exact lk
      · exact ok.2.2.1
      · exact ok.2.2.2
      · exact ok.1.2.2.2
    · exact (mwG i ok.1 w h).1
  exact ⟨hm, mG_good hm⟩
theorem mwS {idx n : Nat} {i : MI} (mi : MI) (lk : Cond.methodLink mi.1.cls idx i.1 ∈ mG) (ok : okS i n) : GoodIn mG (va_wsS mi.1.cls idx i.1 (mw i)) := by
  intro w hw
  have hm : w ∈ mG := by
    rcases List.mem_append.mp hw with h | h
    · simp only [List.mem_cons, List.not_mem_nil, or_false] at h
      rcases h with rfl | rfl | rfl
      · exact lk
      · exact ok.2.2
      · exact ok.1.2.2.2
    · exact (mwG i ok.1 w h).1
  exact ⟨hm, mG_good hm⟩
theorem mroom {rm R : Room} {i : MI} (hRl : 64 + rm.locals ≤ R.locals) (ok : okM i) : 8 + (i.2.2.1 + 11) + rm.locals ≤ R.locals := by
  have h := ok.2.2.1
  omega
theorem mE_blind {X : MX} {adr : Nat → Nat} {sz : Nat} {U : State} {g : JFrame} {mk : MethodId} {a : Array Value} (h : mE X adr sz U) : mE X adr sz (U.calling g mk a) := by
  obtain ⟨h1, h2, h3, h4, h5, h7⟩ := h
  refine ⟨fun w hw => ?_, vk_R.same (u := U) rfl h2, vk_R.same (u := U) rfl h3, vk_S.moved (u := U) (Vm.Alike.refl U.vm) h4, va_Z.moved (u := U) (Vm.Alike.refl U.vm) h5, va_Zq.moved (u := U) (Vm.Alike.refl U.vm) h7⟩
  have h6 := h1 w hw
  simp only [mNL, List.mem_cons, List.not_mem_nil, or_false] at hw
  rcases hw with rfl | rfl
  · exact va_Nw.same (u := U) rfl rfl h6
  · exact va_Nw.same (u := U) rfl rfl h6
theorem mPre_blind {X : MX} {adr : Nat → Nat} {cA : Nat → ClassId} {D : va_G} {sz : Nat} {h : MH} {av : List Value} : FrameBlind (va_Pc av (mPre X adr cA D sz h)) := by
  intro a U g mk q
  obtain ⟨q0, q1, q2, q3, q4, q5⟩ := q
  exact ⟨q0, q1, q2, va_K.moved (u := U) (U := U.calling g mk a) (Vm.Alike.refl U.vm) q3, q4, mE_blind q5⟩
theorem mA_le {adr : Nat → Nat} {n : Nat} {H0 H : Heap} {locs : List Loc} (hS : va_S (mA adr n H0.size) H0 H locs) (q : Nat) (h : mA adr n H.size q) : mA adr n H0.size q := by
  rcases h with h | h
  · exact Or.inl h
  · exact Or.inr (Nat.le_trans hS.1 h)
theorem mE_at {X : MX} {adr : Nat → Nat} {s U : State} {H : Heap} {locs : List Loc} (hU : U.heap = H) (hWa : s.WarmedH U.vm) (hE : mE X adr s.heap.size s) (hS : va_S (mA adr X.1.length s.heap.size) s.heap H locs) : mE X adr U.heap.size U := by
  obtain ⟨h1, h2, h3, h4, h5, h7⟩ := hE
  subst hU
  refine ⟨fun w hw => ?_, vk_R.warm hWa h2, vk_R.warm hWa h3, ((h4.moved hWa.alike).kept hS.2.1).narrow (fun q hq => mA_le hS q hq), ((h5.moved hWa.alike).kept hS.2.1).narrow (fun q hq => mA_le hS q hq), ((h7.moved hWa.alike).kept hS.2.1).narrow (fun q hq => mA_le hS q hq)⟩
  have h6 := h1 w hw
  simp only [mNL, List.mem_cons, List.not_mem_nil, or_false] at hw
  rcases hw with rfl | rfl
  · exact va_Nw.warmM hWa h6
  · exact va_Nw.warmM hWa h6
theorem mPre_at {X : MX} {adr : Nat → Nat} {cA : Nat → ClassId} {D : va_G} {s U : State} {H : Heap} {locs : List Loc} {h : MH} (hU : U.heap = H) (hWa : s.WarmedH U.vm) (hK : va_K D mcl (mty cA) s) (hP : va_P D mcl (mws X adr cA h) H) (hD : va_D (mA adr X.1.length s.heap.size) (mws X adr cA h)) (hE : mE X adr s.heap.size s) (hS : va_S (mA adr X.1.length s.heap.size) s.heap H locs) : mPre X adr cA D H.size h U :=
  ⟨by rw [hU], by rw [hU]; exact hP, va_K.moved hWa.alike hK, hD.weaken (fun _ _ _ _ => trivial), by rw [← hU]; exact mE_at hU hWa hE hS⟩
theorem mrecv {X : MX} {adr : Nat → Nat} {cA : Nat → ClassId} {D : va_G} {s : State} {H : Heap} {h : MH} {c ci : Nat} {ks : List Nat} {C : String} (hK : va_K D mcl (mty cA) s) (hP : va_P D mcl (mws X adr cA h) H) (hci : (mcl[ci]?).map (fun q => q.1) = some C) (he : (mws X adr cA h)[c]? = some (adr c, .inr (ci, mfs X adr h c ks))) : ∃ cell : Cell, H[adr c]? = some cell ∧ cell.vm.isStatics = false ∧ s.vm.findClass C = some cell.cls := by
  cases hq : mcl[ci]? with
  | none => rw [hq] at hci; cases hci
  | some q =>
    rw [hq] at hci
    have e : q.1 = C := Option.some.inj hci
    rw [← e]
    exact va_recv hK hP hq he
theorem mSrecv {X : MX} {adr : Nat → Nat} {s : State} {H : Heap} {locs : List Loc} {k : Nat} (hE : mE X adr s.heap.size s) (hS : va_S (mA adr X.1.length s.heap.size) s.heap H locs) (hk : k < 2) : ∃ cell : Cell, H[adr (900 + k)]? = some cell ∧ cell.vm.isStatics = false ∧ s.vm.findClass RJ0 = some cell.cls := vk_recv (adK := fun i => adr (900 + i)) hE.2.2.2.1 hk hS
theorem mMet_i {l : Launch} {y : MethodName} {ws : List Cond} {rm : Room} {Pc : Array Value → State → Prop} {ret : Option FieldType} {Po : MPost} {B : MH → State → Prop} {A : Nat → Prop} {mc ms : Nat} {free : Addr → Prop} (hr : ret = some .int ∨ ret = some .boolean) (h : Met l y ws rm Pc (mQ ret Po B A) mc ms free) : Met l y ws rm Pc (va_Qi (fun r u => Po (some (.int r)) u) B A) mc ms free := by
  rcases hr with e | e <;> (subst e; exact h)
theorem mMet_l {l : Launch} {y : MethodName} {ws : List Cond} {rm : Room} {Pc : Array Value → State → Prop} {ret : Option FieldType} {Po : MPost} {B : MH → State → Prop} {A : Nat → Prop} {mc ms : Nat} {free : Addr → Prop} (hr : ret = some .long) (h : Met l y ws rm Pc (mQ ret Po B A) mc ms free) : Met l y ws rm Pc (va_Ql (fun r u => Po (some (.long r)) u) B A) mc ms free := by
  subst hr; exact h
theorem mMet_v {l : Launch} {y : MethodName} {ws : List Cond} {rm : Room} {Pc : Array Value → State → Prop} {ret : Option FieldType} {Po : MPost} {B : MH → State → Prop} {A : Nat → Prop} {mc ms : Nat} {free : Addr → Prop} (hr : ret = none) (h : Met l y ws rm Pc (mQ ret Po B A) mc ms free) : Met l y ws rm Pc (va_Qv (fun u => Po none u) B A) mc ms free := by
  subst hr; exact h
/-- the two texts' methods -/
def mStr (l : Launch) (X : MX) (adr : Nat → Nat) : Prop :=
  (∀ k, k < 2 → ∀ Hh : Heap, Met l mJlen.1 (mw mJlen) ({ frames := 6, cells := 0, slots := 0, locals := 400 }) (va_Pc [.ref (adr (900 + k))] (fun U => U.heap = Hh ∧ mE X adr Hh.size U)) (va_Qi (fun (r : Int32) (u : Heap) => r = nI (mslen.getD k 0) ∧ u = Hh) (fun u t => t.heap = u) (fun _ => False)) 0 0 (fun _ => False)) ∧
  (∀ k, k < 2 → ∀ (Hh : Heap) (j : Nat), j < mslen.getD k 0 → Met l mJcha.1 (mw mJcha) ({ frames := 6, cells := 0, slots := 0, locals := 400 }) (va_Pc [.ref (adr (900 + k)), .int (nI j)] (fun U => U.heap = Hh ∧ mE X adr Hh.size U)) (va_Qi (fun (r : Int32) (u : Heap) => r = (msbyt.getD k []).getD j 0 ∧ u = Hh) (fun u t => t.heap = u) (fun _ => False)) 0 0 (fun _ => False))
/-- what a callee's run gives -/
def mCs (l : Launch) (X : MX) (adr : Nat → Nat) (cA : Nat → ClassId) (D : va_G) (rm : Room) (C : MCall) : Prop := ∀ (i : MI) (as : List Value) (h : MH) (Po : MPost), C i as h Po → okM i → ∀ sz : Nat, Met l i.1 (mw i) rm (va_Pc (as.map (mtr adr)) (mPre X adr cA D sz h)) (mQ i.2.2.2 Po (mB X adr cA D (mA adr X.1.length sz)) (mA adr X.1.length sz)) 0 0 (mA adr X.1.length sz)
def mCtx (p : Program) (l : Launch) (R : Room) (s : State) (m : MethodId) (args : Array Value) (c : Code) (X : MX) (adr : Nat → Nat) (cA : Nat → ClassId) (D : va_G) (rm : Room) (mi : MI) (C : MCall) : Prop :=
  p.tables.exec = Jvm.exec ∧ c.code = mi.2.1 ∧ c.maxLocals = mi.2.2.1 ∧ s.vm.findClass mi.1.cls = some m.cls ∧ (∀ w ∈ mG, w.before args s = true) ∧ va_K D mcl (mty cA) s ∧ mE X adr s.heap.size s ∧ mCs l X adr cA D rm C ∧ mStr l X adr ∧ rm.frames + 1 ≤ R.frames ∧ 64 + rm.locals ≤ R.locals ∧ rm.cells = 0 ∧ rm.slots = 0 ∧ 7 ≤ R.frames ∧ 500 ≤ R.locals
def mRW (p : Program) (l : Launch) (e : Env) (R : Room) (s : State) (m : MethodId) (args : Array Value) (below : List Frame) (meth : Method) (c : Code) (X : MX) (adr : Nat → Nat) (cA : Nat → ClassId) (D : va_G) (mi : MI) (Q : State → Prop) : MR := fun pc L S h => ∀ (ls : Array Slot) (H : Heap) (locs : List Loc), lv_has ls mi.2.2.1 (trL adr L) → va_P D mcl (mws X adr cA h) H → va_D (mA adr X.1.length s.heap.size) (mws X adr cA h) → va_S (mA adr X.1.length s.heap.size) s.heap H locs → W p l e R s m args below meth c H locs 0 0 Q (F0 m pc ls (S.map (mtr adr)))

theorem s_iload_n {p : Program} {l : Launch} {e : Env} {R : Room} {s : State} {m : MethodId} {args : Array Value} {below : List Frame} {meth : Method} {c0 : Code} {X : MX} {adr : Nat → Nat} {cA : Nat → ClassId} {D : va_G} {rm : Room} {mi : MI} {C : MCall} {Rt : MPost} {Q : State → Prop} (K : mCtx p l R s m args c0 X adr cA D rm mi C) : k_iload_n X mi C Rt (mRW p l e R s m args below meth c0 X adr cA D mi Q) := by
  obtain ⟨hx, hb, hml, hown, hts, hK, hE, hCs, ⟨hSL, hSC⟩, hRf, hRl, hRc, hRsl0, hfr7, hR500⟩ := K
  have hfr : 1 ≤ R.frames := Nat.le_trans (by decide) hfr7
  have hR64 : 64 ≤ R.locals := Nat.le_trans (by decide) hR500
  have hRs : 6 + 1 ≤ R.frames := hfr7
  have hRsl : ∀ k, k ≤ 40 → 8 + (k + 11) + 400 ≤ R.locals := fun k hk => by omega
  intro pc L S h k x dg hm kk ls H locs hl hP hD hS
  exact lv_iload_n hx hb dg rfl (hl.2.2 _ (mem_trL hm)) (kk ls H locs hl hP hD hS)
theorem s_iload {p : Program} {l : Launch} {e : Env} {R : Room} {s : State} {m : MethodId} {args : Array Value} {below : List Frame} {meth : Method} {c0 : Code} {X : MX} {adr : Nat → Nat} {cA : Nat → ClassId} {D : va_G} {rm : Room} {mi : MI} {C : MCall} {Rt : MPost} {Q : State → Prop} (K : mCtx p l R s m args c0 X adr cA D rm mi C) : k_iload X mi C Rt (mRW p l e R s m args below meth c0 X adr cA D mi Q) := by
  obtain ⟨hx, hb, hml, hown, hts, hK, hE, hCs, ⟨hSL, hSC⟩, hRf, hRl, hRc, hRsl0, hfr7, hR500⟩ := K
  have hfr : 1 ≤ R.frames := Nat.le_trans (by decide) hfr7
  have hR64 : 64 ≤ R.locals := Nat.le_trans (by decide) hR500
  have hRs : 6 + 1 ≤ R.frames := hfr7
  have hRsl : ∀ k, k ≤ 40 → 8 + (k + 11) + 400 ≤ R.locals := fun k hk => by omega
  intro pc L S h i x dg hm kk ls H locs hl hP hD hS
  exact lv_iload hx hb dg (hl.2.2 _ (mem_trL hm)) (kk ls H locs hl hP hD hS)
theorem s_lload_n {p : Program} {l : Launch} {e : Env} {R : Room} {s : State} {m : MethodId} {args : Array Value} {below : List Frame} {meth : Method} {c0 : Code} {X : MX} {adr : Nat → Nat} {cA : Nat → ClassId} {D : va_G} {rm : Room} {mi : MI} {C : MCall} {Rt : MPost} {Q : State → Prop} (K : mCtx p l R s m args c0 X adr cA D rm mi C) : k_lload_n X mi C Rt (mRW p l e R s m args below meth c0 X adr cA D mi Q) := by
  obtain ⟨hx, hb, hml, hown, hts, hK, hE, hCs, ⟨hSL, hSC⟩, hRf, hRl, hRc, hRsl0, hfr7, hR500⟩ := K
  have hfr : 1 ≤ R.frames := Nat.le_trans (by decide) hfr7
  have hR64 : 64 ≤ R.locals := Nat.le_trans (by decide) hR500
  have hRs : 6 + 1 ≤ R.frames := hfr7
  have hRsl : ∀ k, k ≤ 40 → 8 + (k + 11) + 400 ≤ R.locals := fun k hk => by omega
  intro pc L S h k x dg hm kk ls H locs hl hP hD hS
  exact lv_lload_n hx hb dg rfl (hl.2.2 _ (mem_trL hm)) (kk ls H locs hl hP hD hS)
theorem s_lload {p : Program} {l : Launch} {e : Env} {R : Room} {s : State} {m : MethodId} {args : Array Value} {below : List Frame} {meth : Method} {c0 : Code} {X : MX} {adr : Nat → Nat} {cA : Nat → ClassId} {D : va_G} {rm : Room} {mi : MI} {C : MCall} {Rt : MPost} {Q : State → Prop} (K : mCtx p l R s m args c0 X adr cA D rm mi C) : k_lload X mi C Rt (mRW p l e R s m args below meth c0 X adr cA D mi Q) := by
  obtain ⟨hx, hb, hml, hown, hts, hK, hE, hCs, ⟨hSL, hSC⟩, hRf, hRl, hRc, hRsl0, hfr7, hR500⟩ := K
  have hfr : 1 ≤ R.frames := Nat.le_trans (by decide) hfr7
  have hR64 : 64 ≤ R.locals := Nat.le_trans (by decide) hR500
  have hRs : 6 + 1 ≤ R.frames := hfr7
  have hRsl : ∀ k, k ≤ 40 → 8 + (k + 11) + 400 ≤ R.locals := fun k hk => by omega
  intro pc L S h i x dg hm kk ls H locs hl hP hD hS
  exact lv_lload hx hb dg (hl.2.2 _ (mem_trL hm)) (kk ls H locs hl hP hD hS)
theorem s_aload_n {p : Program} {l : Launch} {e : Env} {R : Room} {s : State} {m : MethodId} {args : Array Value} {below : List Frame} {meth : Method} {c0 : Code} {X : MX} {adr : Nat → Nat} {cA : Nat → ClassId} {D : va_G} {rm : Room} {mi : MI} {C : MCall} {Rt : MPost} {Q : State → Prop} (K : mCtx p l R s m args c0 X adr cA D rm mi C) : k_aload_n X mi C Rt (mRW p l e R s m args below meth c0 X adr cA D mi Q) := by
  obtain ⟨hx, hb, hml, hown, hts, hK, hE, hCs, ⟨hSL, hSC⟩, hRf, hRl, hRc, hRsl0, hfr7, hR500⟩ := K
  have hfr : 1 ≤ R.frames := Nat.le_trans (by decide) hfr7
  have hR64 : 64 ≤ R.locals := Nat.le_trans (by decide) hR500
  have hRs : 6 + 1 ≤ R.frames := hfr7
  have hRsl : ∀ k, k ≤ 40 → 8 + (k + 11) + 400 ≤ R.locals := fun k hk => by omega
  intro pc L S h k x dg hm kk ls H locs hl hP hD hS
  exact lv_aload_n hx hb dg rfl (hl.2.2 _ (mem_trL hm)) (kk ls H locs hl hP hD hS)
theorem s_aload {p : Program} {l : Launch} {e : Env} {R : Room} {s : State} {m : MethodId} {args : Array Value} {below : List Frame} {meth : Method} {c0 : Code} {X : MX} {adr : Nat → Nat} {cA : Nat → ClassId} {D : va_G} {rm : Room} {mi : MI} {C : MCall} {Rt : MPost} {Q : State → Prop} (K : mCtx p l R s m args c0 X adr cA D rm mi C) : k_aload X mi C Rt (mRW p l e R s m args below meth c0 X adr cA D mi Q) := by
  obtain ⟨hx, hb, hml, hown, hts, hK, hE, hCs, ⟨hSL, hSC⟩, hRf, hRl, hRc, hRsl0, hfr7, hR500⟩ := K
  have hfr : 1 ≤ R.frames := Nat.le_trans (by decide) hfr7
  have hR64 : 64 ≤ R.locals := Nat.le_trans (by decide) hR500
  have hRs : 6 + 1 ≤ R.frames := hfr7
  have hRsl : ∀ k, k ≤ 40 → 8 + (k + 11) + 400 ≤ R.locals := fun k hk => by omega
  intro pc L S h i x dg hm kk ls H locs hl hP hD hS
  exact lv_aload hx hb dg (hl.2.2 _ (mem_trL hm)) (kk ls H locs hl hP hD hS)
theorem s_istore_n {p : Program} {l : Launch} {e : Env} {R : Room} {s : State} {m : MethodId} {args : Array Value} {below : List Frame} {meth : Method} {c0 : Code} {X : MX} {adr : Nat → Nat} {cA : Nat → ClassId} {D : va_G} {rm : Room} {mi : MI} {C : MCall} {Rt : MPost} {Q : State → Prop} (K : mCtx p l R s m args c0 X adr cA D rm mi C) : k_istore_n X mi C Rt (mRW p l e R s m args below meth c0 X adr cA D mi Q) := by
  obtain ⟨hx, hb, hml, hown, hts, hK, hE, hCs, ⟨hSL, hSC⟩, hRf, hRl, hRc, hRsl0, hfr7, hR500⟩ := K
  have hfr : 1 ≤ R.frames := Nat.le_trans (by decide) hfr7
  have hR64 : 64 ≤ R.locals := Nat.le_trans (by decide) hR500
  have hRs : 6 + 1 ≤ R.frames := hfr7
  have hRsl : ∀ k, k ≤ 40 → 8 + (k + 11) + 400 ≤ R.locals := fun k hk => by omega
  intro pc L S h k x dg hn kk ls H locs hl hP hD hS
  exact lv_istore_n hx hb dg rfl hl hn (trL_st1 (adr := adr) (k : Nat) (Value.int x) L).symm (fun ls hl => (kk ls H locs hl hP hD hS))
theorem s_istore {p : Program} {l : Launch} {e : Env} {R : Room} {s : State} {m : MethodId} {args : Array Value} {below : List Frame} {meth : Method} {c0 : Code} {X : MX} {adr : Nat → Nat} {cA : Nat → ClassId} {D : va_G} {rm : Room} {mi : MI} {C : MCall} {Rt : MPost} {Q : State → Prop} (K : mCtx p l R s m args c0 X adr cA D rm mi C) : k_istore X mi C Rt (mRW p l e R s m args below meth c0 X adr cA D mi Q) := by
  obtain ⟨hx, hb, hml, hown, hts, hK, hE, hCs, ⟨hSL, hSC⟩, hRf, hRl, hRc, hRsl0, hfr7, hR500⟩ := K
  have hfr : 1 ≤ R.frames := Nat.le_trans (by decide) hfr7
  have hR64 : 64 ≤ R.locals := Nat.le_trans (by decide) hR500
  have hRs : 6 + 1 ≤ R.frames := hfr7
  have hRsl : ∀ k, k ≤ 40 → 8 + (k + 11) + 400 ≤ R.locals := fun k hk => by omega
  intro pc L S h i x dg hn kk ls H locs hl hP hD hS
  exact lv_istore hx hb dg hl hn (trL_st1 (adr := adr) i (Value.int x) L).symm (fun ls hl => (kk ls H locs hl hP hD hS))
theorem s_lstore_n {p : Program} {l : Launch} {e : Env} {R : Room} {s : State} {m : MethodId} {args : Array Value} {below : List Frame} {meth : Method} {c0 : Code} {X : MX} {adr : Nat → Nat} {cA : Nat → ClassId} {D : va_G} {rm : Room} {mi : MI} {C : MCall} {Rt : MPost} {Q : State → Prop} (K : mCtx p l R s m args c0 X adr cA D rm mi C) : k_lstore_n X mi C Rt (mRW p l e R s m args below meth c0 X adr cA D mi Q) := by
  obtain ⟨hx, hb, hml, hown, hts, hK, hE, hCs, ⟨hSL, hSC⟩, hRf, hRl, hRc, hRsl0, hfr7, hR500⟩ := K
  have hfr : 1 ≤ R.frames := Nat.le_trans (by decide) hfr7
  have hR64 : 64 ≤ R.locals := Nat.le_trans (by decide) hR500
  have hRs : 6 + 1 ≤ R.frames := hfr7
  have hRsl : ∀ k, k ≤ 40 → 8 + (k + 11) + 400 ≤ R.locals := fun k hk => by omega
  intro pc L S h k x dg hn kk ls H locs hl hP hD hS
  exact lv_lstore_n hx hb dg rfl hl hn (trL_st2 (adr := adr) (k : Nat) (Value.long x) L).symm (fun ls hl => (kk ls H locs hl hP hD hS))
theorem s_lstore {p : Program} {l : Launch} {e : Env} {R : Room} {s : State} {m : MethodId} {args : Array Value} {below : List Frame} {meth : Method} {c0 : Code} {X : MX} {adr : Nat → Nat} {cA : Nat → ClassId} {D : va_G} {rm : Room} {mi : MI} {C : MCall} {Rt : MPost} {Q : State → Prop} (K : mCtx p l R s m args c0 X adr cA D rm mi C) : k_lstore X mi C Rt (mRW p l e R s m args below meth c0 X adr cA D mi Q) := by
  obtain ⟨hx, hb, hml, hown, hts, hK, hE, hCs, ⟨hSL, hSC⟩, hRf, hRl, hRc, hRsl0, hfr7, hR500⟩ := K
  have hfr : 1 ≤ R.frames := Nat.le_trans (by decide) hfr7
  have hR64 : 64 ≤ R.locals := Nat.le_trans (by decide) hR500
  have hRs : 6 + 1 ≤ R.frames := hfr7
  have hRsl : ∀ k, k ≤ 40 → 8 + (k + 11) + 400 ≤ R.locals := fun k hk => by omega
  intro pc L S h i x dg hn kk ls H locs hl hP hD hS
  exact lv_lstore hx hb dg hl hn (trL_st2 (adr := adr) i (Value.long x) L).symm (fun ls hl => (kk ls H locs hl hP hD hS))
theorem s_astore_n {p : Program} {l : Launch} {e : Env} {R : Room} {s : State} {m : MethodId} {args : Array Value} {below : List Frame} {meth : Method} {c0 : Code} {X : MX} {adr : Nat → Nat} {cA : Nat → ClassId} {D : va_G} {rm : Room} {mi : MI} {C : MCall} {Rt : MPost} {Q : State → Prop} (K : mCtx p l R s m args c0 X adr cA D rm mi C) : k_astore_n X mi C Rt (mRW p l e R s m args below meth c0 X adr cA D mi Q) := by
  obtain ⟨hx, hb, hml, hown, hts, hK, hE, hCs, ⟨hSL, hSC⟩, hRf, hRl, hRc, hRsl0, hfr7, hR500⟩ := K
  have hfr : 1 ≤ R.frames := Nat.le_trans (by decide) hfr7
  have hR64 : 64 ≤ R.locals := Nat.le_trans (by decide) hR500
  have hRs : 6 + 1 ≤ R.frames := hfr7
  have hRsl : ∀ k, k ≤ 40 → 8 + (k + 11) + 400 ≤ R.locals := fun k hk => by omega
  intro pc L S h k x dg hn kk ls H locs hl hP hD hS
  exact lv_astore_n hx hb dg rfl hl hn (trL_st1 (adr := adr) (k : Nat) (Value.ref x) L).symm (fun ls hl => (kk ls H locs hl hP hD hS))
theorem s_astore {p : Program} {l : Launch} {e : Env} {R : Room} {s : State} {m : MethodId} {args : Array Value} {below : List Frame} {meth : Method} {c0 : Code} {X : MX} {adr : Nat → Nat} {cA : Nat → ClassId} {D : va_G} {rm : Room} {mi : MI} {C : MCall} {Rt : MPost} {Q : State → Prop} (K : mCtx p l R s m args c0 X adr cA D rm mi C) : k_astore X mi C Rt (mRW p l e R s m args below meth c0 X adr cA D mi Q) := by
  obtain ⟨hx, hb, hml, hown, hts, hK, hE, hCs, ⟨hSL, hSC⟩, hRf, hRl, hRc, hRsl0, hfr7, hR500⟩ := K
  have hfr : 1 ≤ R.frames := Nat.le_trans (by decide) hfr7
  have hR64 : 64 ≤ R.locals := Nat.le_trans (by decide) hR500
  have hRs : 6 + 1 ≤ R.frames := hfr7
  have hRsl : ∀ k, k ≤ 40 → 8 + (k + 11) + 400 ≤ R.locals := fun k hk => by omega
  intro pc L S h i x dg hn kk ls H locs hl hP hD hS
  exact lv_astore hx hb dg hl hn (trL_st1 (adr := adr) i (Value.ref x) L).symm (fun ls hl => (kk ls H locs hl hP hD hS))
theorem s_iinc {p : Program} {l : Launch} {e : Env} {R : Room} {s : State} {m : MethodId} {args : Array Value} {below : List Frame} {meth : Method} {c0 : Code} {X : MX} {adr : Nat → Nat} {cA : Nat → ClassId} {D : va_G} {rm : Room} {mi : MI} {C : MCall} {Rt : MPost} {Q : State → Prop} (K : mCtx p l R s m args c0 X adr cA D rm mi C) : k_iinc X mi C Rt (mRW p l e R s m args below meth c0 X adr cA D mi Q) := by
  obtain ⟨hx, hb, hml, hown, hts, hK, hE, hCs, ⟨hSL, hSC⟩, hRf, hRl, hRc, hRsl0, hfr7, hR500⟩ := K
  have hfr : 1 ≤ R.frames := Nat.le_trans (by decide) hfr7
  have hR64 : 64 ≤ R.locals := Nat.le_trans (by decide) hR500
  have hRs : 6 + 1 ≤ R.frames := hfr7
  have hRsl : ∀ k, k ≤ 40 → 8 + (k + 11) + 400 ≤ R.locals := fun k hk => by omega
  intro pc L S h i n x v dg hm hv hn kk ls H locs hl hP hD hS
  obtain ⟨k, hk⟩ := List.getElem?_of_mem (mem_trL (adr := adr) hm)
  exact lv_iinc hx hb dg hl hk hv hn (trL_st1 (adr := adr) i (.int v) L).symm (fun ls hl => (kk ls H locs hl hP hD hS))
theorem s_iconst {p : Program} {l : Launch} {e : Env} {R : Room} {s : State} {m : MethodId} {args : Array Value} {below : List Frame} {meth : Method} {c0 : Code} {X : MX} {adr : Nat → Nat} {cA : Nat → ClassId} {D : va_G} {rm : Room} {mi : MI} {C : MCall} {Rt : MPost} {Q : State → Prop} (K : mCtx p l R s m args c0 X adr cA D rm mi C) : k_iconst X mi C Rt (mRW p l e R s m args below meth c0 X adr cA D mi Q) := by
  obtain ⟨hx, hb, hml, hown, hts, hK, hE, hCs, ⟨hSL, hSC⟩, hRf, hRl, hRc, hRsl0, hfr7, hR500⟩ := K
  have hfr : 1 ≤ R.frames := Nat.le_trans (by decide) hfr7
  have hR64 : 64 ≤ R.locals := Nat.le_trans (by decide) hR500
  have hRs : 6 + 1 ≤ R.frames := hfr7
  have hRsl : ∀ k, k ≤ 40 → 8 + (k + 11) + 400 ≤ R.locals := fun k hk => by omega
  intro pc L S h n v dg hv kk ls H locs hl hP hD hS
  exact lv_iconst hx hb dg hv (kk ls H locs hl hP hD hS)
theorem s_bipush {p : Program} {l : Launch} {e : Env} {R : Room} {s : State} {m : MethodId} {args : Array Value} {below : List Frame} {meth : Method} {c0 : Code} {X : MX} {adr : Nat → Nat} {cA : Nat → ClassId} {D : va_G} {rm : Room} {mi : MI} {C : MCall} {Rt : MPost} {Q : State → Prop} (K : mCtx p l R s m args c0 X adr cA D rm mi C) : k_bipush X mi C Rt (mRW p l e R s m args below meth c0 X adr cA D mi Q) := by
  obtain ⟨hx, hb, hml, hown, hts, hK, hE, hCs, ⟨hSL, hSC⟩, hRf, hRl, hRc, hRsl0, hfr7, hR500⟩ := K
  have hfr : 1 ≤ R.frames := Nat.le_trans (by decide) hfr7
  have hR64 : 64 ≤ R.locals := Nat.le_trans (by decide) hR500
  have hRs : 6 + 1 ≤ R.frames := hfr7
  have hRsl : ∀ k, k ≤ 40 → 8 + (k + 11) + 400 ≤ R.locals := fun k hk => by omega
  intro pc L S h n v dg hv kk ls H locs hl hP hD hS
  exact lv_bipush hx hb dg hv (kk ls H locs hl hP hD hS)
theorem s_sipush {p : Program} {l : Launch} {e : Env} {R : Room} {s : State} {m : MethodId} {args : Array Value} {below : List Frame} {meth : Method} {c0 : Code} {X : MX} {adr : Nat → Nat} {cA : Nat → ClassId} {D : va_G} {rm : Room} {mi : MI} {C : MCall} {Rt : MPost} {Q : State → Prop} (K : mCtx p l R s m args c0 X adr cA D rm mi C) : k_sipush X mi C Rt (mRW p l e R s m args below meth c0 X adr cA D mi Q) := by
  obtain ⟨hx, hb, hml, hown, hts, hK, hE, hCs, ⟨hSL, hSC⟩, hRf, hRl, hRc, hRsl0, hfr7, hR500⟩ := K
  have hfr : 1 ≤ R.frames := Nat.le_trans (by decide) hfr7
  have hR64 : 64 ≤ R.locals := Nat.le_trans (by decide) hR500
  have hRs : 6 + 1 ≤ R.frames := hfr7
  have hRsl : ∀ k, k ≤ 40 → 8 + (k + 11) + 400 ≤ R.locals := fun k hk => by omega
  intro pc L S h n v dg hv kk ls H locs hl hP hD hS
  exact lv_sipush hx hb dg hv (kk ls H locs hl hP hD hS)
theorem s_lconst {p : Program} {l : Launch} {e : Env} {R : Room} {s : State} {m : MethodId} {args : Array Value} {below : List Frame} {meth : Method} {c0 : Code} {X : MX} {adr : Nat → Nat} {cA : Nat → ClassId} {D : va_G} {rm : Room} {mi : MI} {C : MCall} {Rt : MPost} {Q : State → Prop} (K : mCtx p l R s m args c0 X adr cA D rm mi C) : k_lconst X mi C Rt (mRW p l e R s m args below meth c0 X adr cA D mi Q) := by
  obtain ⟨hx, hb, hml, hown, hts, hK, hE, hCs, ⟨hSL, hSC⟩, hRf, hRl, hRc, hRsl0, hfr7, hR500⟩ := K
  have hfr : 1 ≤ R.frames := Nat.le_trans (by decide) hfr7
  have hR64 : 64 ≤ R.locals := Nat.le_trans (by decide) hR500
  have hRs : 6 + 1 ≤ R.frames := hfr7
  have hRsl : ∀ k, k ≤ 40 → 8 + (k + 11) + 400 ≤ R.locals := fun k hk => by omega
  intro pc L S h n v dg hv kk ls H locs hl hP hD hS
  exact lv_lconst hx hb dg hv (kk ls H locs hl hP hD hS)
theorem s_ldc {p : Program} {l : Launch} {e : Env} {R : Room} {s : State} {m : MethodId} {args : Array Value} {below : List Frame} {meth : Method} {c0 : Code} {X : MX} {adr : Nat → Nat} {cA : Nat → ClassId} {D : va_G} {rm : Room} {mi : MI} {C : MCall} {Rt : MPost} {Q : State → Prop} (K : mCtx p l R s m args c0 X adr cA D rm mi C) : k_ldc X mi C Rt (mRW p l e R s m args below meth c0 X adr cA D mi Q) := by
  obtain ⟨hx, hb, hml, hown, hts, hK, hE, hCs, ⟨hSL, hSC⟩, hRf, hRl, hRc, hRsl0, hfr7, hR500⟩ := K
  have hfr : 1 ≤ R.frames := Nat.le_trans (by decide) hfr7
  have hR64 : 64 ≤ R.locals := Nat.le_trans (by decide) hR500
  have hRs : 6 + 1 ≤ R.frames := hfr7
  have hRsl : ∀ k, k ≤ 40 → 8 + (k + 11) + 400 ≤ R.locals := fun k hk => by omega
  intro pc L S h idx v dg hc kk ls H locs hl hP hD hS
  exact lv_ldc hx hb hown (hts _ hc) dg (kk ls H locs hl hP hD hS)
theorem s_ldc_w {p : Program} {l : Launch} {e : Env} {R : Room} {s : State} {m : MethodId} {args : Array Value} {below : List Frame} {meth : Method} {c0 : Code} {X : MX} {adr : Nat → Nat} {cA : Nat → ClassId} {D : va_G} {rm : Room} {mi : MI} {C : MCall} {Rt : MPost} {Q : State → Prop} (K : mCtx p l R s m args c0 X adr cA D rm mi C) : k_ldc_w X mi C Rt (mRW p l e R s m args below meth c0 X adr cA D mi Q) := by
  obtain ⟨hx, hb, hml, hown, hts, hK, hE, hCs, ⟨hSL, hSC⟩, hRf, hRl, hRc, hRsl0, hfr7, hR500⟩ := K
  have hfr : 1 ≤ R.frames := Nat.le_trans (by decide) hfr7
  have hR64 : 64 ≤ R.locals := Nat.le_trans (by decide) hR500
  have hRs : 6 + 1 ≤ R.frames := hfr7
  have hRsl : ∀ k, k ≤ 40 → 8 + (k + 11) + 400 ≤ R.locals := fun k hk => by omega
  intro pc L S h idx v dg hc kk ls H locs hl hP hD hS
  exact lv_ldcw hx hb hown (hts _ hc) dg (kk ls H locs hl hP hD hS)
theorem s_ldc2_w {p : Program} {l : Launch} {e : Env} {R : Room} {s : State} {m : MethodId} {args : Array Value} {below : List Frame} {meth : Method} {c0 : Code} {X : MX} {adr : Nat → Nat} {cA : Nat → ClassId} {D : va_G} {rm : Room} {mi : MI} {C : MCall} {Rt : MPost} {Q : State → Prop} (K : mCtx p l R s m args c0 X adr cA D rm mi C) : k_ldc2_w X mi C Rt (mRW p l e R s m args below meth c0 X adr cA D mi Q) := by
  obtain ⟨hx, hb, hml, hown, hts, hK, hE, hCs, ⟨hSL, hSC⟩, hRf, hRl, hRc, hRsl0, hfr7, hR500⟩ := K
  have hfr : 1 ≤ R.frames := Nat.le_trans (by decide) hfr7
  have hR64 : 64 ≤ R.locals := Nat.le_trans (by decide) hR500
  have hRs : 6 + 1 ≤ R.frames := hfr7
  have hRsl : ∀ k, k ≤ 40 → 8 + (k + 11) + 400 ≤ R.locals := fun k hk => by omega
  intro pc L S h idx v dg hc kk ls H locs hl hP hD hS
  exact lv_ldc2 hx hb hown (hts _ hc) dg (kk ls H locs hl hP hD hS)
theorem s_iadd {p : Program} {l : Launch} {e : Env} {R : Room} {s : State} {m : MethodId} {args : Array Value} {below : List Frame} {meth : Method} {c0 : Code} {X : MX} {adr : Nat → Nat} {cA : Nat → ClassId} {D : va_G} {rm : Room} {mi : MI} {C : MCall} {Rt : MPost} {Q : State → Prop} (K : mCtx p l R s m args c0 X adr cA D rm mi C) : k_iadd X mi C Rt (mRW p l e R s m args below meth c0 X adr cA D mi Q) := by
  obtain ⟨hx, hb, hml, hown, hts, hK, hE, hCs, ⟨hSL, hSC⟩, hRf, hRl, hRc, hRsl0, hfr7, hR500⟩ := K
  have hfr : 1 ≤ R.frames := Nat.le_trans (by decide) hfr7
  have hR64 : 64 ≤ R.locals := Nat.le_trans (by decide) hR500
  have hRs : 6 + 1 ≤ R.frames := hfr7
  have hRsl : ∀ k, k ≤ 40 → 8 + (k + 11) + 400 ≤ R.locals := fun k hk => by omega
  intro pc L S h x y dg kk ls H locs hl hP hD hS
  exact lv_iadd hx hb dg (kk ls H locs hl hP hD hS)
theorem s_isub {p : Program} {l : Launch} {e : Env} {R : Room} {s : State} {m : MethodId} {args : Array Value} {below : List Frame} {meth : Method} {c0 : Code} {X : MX} {adr : Nat → Nat} {cA : Nat → ClassId} {D : va_G} {rm : Room} {mi : MI} {C : MCall} {Rt : MPost} {Q : State → Prop} (K : mCtx p l R s m args c0 X adr cA D rm mi C) : k_isub X mi C Rt (mRW p l e R s m args below meth c0 X adr cA D mi Q) := by
  obtain ⟨hx, hb, hml, hown, hts, hK, hE, hCs, ⟨hSL, hSC⟩, hRf, hRl, hRc, hRsl0, hfr7, hR500⟩ := K
  have hfr : 1 ≤ R.frames := Nat.le_trans (by decide) hfr7
  have hR64 : 64 ≤ R.locals := Nat.le_trans (by decide) hR500
  have hRs : 6 + 1 ≤ R.frames := hfr7
  have hRsl : ∀ k, k ≤ 40 → 8 + (k + 11) + 400 ≤ R.locals := fun k hk => by omega
  intro pc L S h x y dg kk ls H locs hl hP hD hS
  exact lv_isub hx hb dg (kk ls H locs hl hP hD hS)
theorem s_imul {p : Program} {l : Launch} {e : Env} {R : Room} {s : State} {m : MethodId} {args : Array Value} {below : List Frame} {meth : Method} {c0 : Code} {X : MX} {adr : Nat → Nat} {cA : Nat → ClassId} {D : va_G} {rm : Room} {mi : MI} {C : MCall} {Rt : MPost} {Q : State → Prop} (K : mCtx p l R s m args c0 X adr cA D rm mi C) : k_imul X mi C Rt (mRW p l e R s m args below meth c0 X adr cA D mi Q) := by
  obtain ⟨hx, hb, hml, hown, hts, hK, hE, hCs, ⟨hSL, hSC⟩, hRf, hRl, hRc, hRsl0, hfr7, hR500⟩ := K
  have hfr : 1 ≤ R.frames := Nat.le_trans (by decide) hfr7
  have hR64 : 64 ≤ R.locals := Nat.le_trans (by decide) hR500
  have hRs : 6 + 1 ≤ R.frames := hfr7
  have hRsl : ∀ k, k ≤ 40 → 8 + (k + 11) + 400 ≤ R.locals := fun k hk => by omega
  intro pc L S h x y dg kk ls H locs hl hP hD hS
  exact lv_imul hx hb dg (kk ls H locs hl hP hD hS)
theorem s_iand {p : Program} {l : Launch} {e : Env} {R : Room} {s : State} {m : MethodId} {args : Array Value} {below : List Frame} {meth : Method} {c0 : Code} {X : MX} {adr : Nat → Nat} {cA : Nat → ClassId} {D : va_G} {rm : Room} {mi : MI} {C : MCall} {Rt : MPost} {Q : State → Prop} (K : mCtx p l R s m args c0 X adr cA D rm mi C) : k_iand X mi C Rt (mRW p l e R s m args below meth c0 X adr cA D mi Q) := by
  obtain ⟨hx, hb, hml, hown, hts, hK, hE, hCs, ⟨hSL, hSC⟩, hRf, hRl, hRc, hRsl0, hfr7, hR500⟩ := K
  have hfr : 1 ≤ R.frames := Nat.le_trans (by decide) hfr7
  have hR64 : 64 ≤ R.locals := Nat.le_trans (by decide) hR500
  have hRs : 6 + 1 ≤ R.frames := hfr7
  have hRsl : ∀ k, k ≤ 40 → 8 + (k + 11) + 400 ≤ R.locals := fun k hk => by omega
  intro pc L S h x y dg kk ls H locs hl hP hD hS
  exact lv_iand hx hb dg (kk ls H locs hl hP hD hS)
theorem s_ior {p : Program} {l : Launch} {e : Env} {R : Room} {s : State} {m : MethodId} {args : Array Value} {below : List Frame} {meth : Method} {c0 : Code} {X : MX} {adr : Nat → Nat} {cA : Nat → ClassId} {D : va_G} {rm : Room} {mi : MI} {C : MCall} {Rt : MPost} {Q : State → Prop} (K : mCtx p l R s m args c0 X adr cA D rm mi C) : k_ior X mi C Rt (mRW p l e R s m args below meth c0 X adr cA D mi Q) := by
  obtain ⟨hx, hb, hml, hown, hts, hK, hE, hCs, ⟨hSL, hSC⟩, hRf, hRl, hRc, hRsl0, hfr7, hR500⟩ := K
  have hfr : 1 ≤ R.frames := Nat.le_trans (by decide) hfr7
  have hR64 : 64 ≤ R.locals := Nat.le_trans (by decide) hR500
  have hRs : 6 + 1 ≤ R.frames := hfr7
  have hRsl : ∀ k, k ≤ 40 → 8 + (k + 11) + 400 ≤ R.locals := fun k hk => by omega
  intro pc L S h x y dg kk ls H locs hl hP hD hS
  exact lv_ior hx hb dg (kk ls H locs hl hP hD hS)
theorem s_ixor {p : Program} {l : Launch} {e : Env} {R : Room} {s : State} {m : MethodId} {args : Array Value} {below : List Frame} {meth : Method} {c0 : Code} {X : MX} {adr : Nat → Nat} {cA : Nat → ClassId} {D : va_G} {rm : Room} {mi : MI} {C : MCall} {Rt : MPost} {Q : State → Prop} (K : mCtx p l R s m args c0 X adr cA D rm mi C) : k_ixor X mi C Rt (mRW p l e R s m args below meth c0 X adr cA D mi Q) := by
  obtain ⟨hx, hb, hml, hown, hts, hK, hE, hCs, ⟨hSL, hSC⟩, hRf, hRl, hRc, hRsl0, hfr7, hR500⟩ := K
  have hfr : 1 ≤ R.frames := Nat.le_trans (by decide) hfr7
  have hR64 : 64 ≤ R.locals := Nat.le_trans (by decide) hR500
  have hRs : 6 + 1 ≤ R.frames := hfr7
  have hRsl : ∀ k, k ≤ 40 → 8 + (k + 11) + 400 ≤ R.locals := fun k hk => by omega
  intro pc L S h x y dg kk ls H locs hl hP hD hS
  exact lv_ixor hx hb dg (kk ls H locs hl hP hD hS)
theorem s_ishl {p : Program} {l : Launch} {e : Env} {R : Room} {s : State} {m : MethodId} {args : Array Value} {below : List Frame} {meth : Method} {c0 : Code} {X : MX} {adr : Nat → Nat} {cA : Nat → ClassId} {D : va_G} {rm : Room} {mi : MI} {C : MCall} {Rt : MPost} {Q : State → Prop} (K : mCtx p l R s m args c0 X adr cA D rm mi C) : k_ishl X mi C Rt (mRW p l e R s m args below meth c0 X adr cA D mi Q) := by
  obtain ⟨hx, hb, hml, hown, hts, hK, hE, hCs, ⟨hSL, hSC⟩, hRf, hRl, hRc, hRsl0, hfr7, hR500⟩ := K
  have hfr : 1 ≤ R.frames := Nat.le_trans (by decide) hfr7
  have hR64 : 64 ≤ R.locals := Nat.le_trans (by decide) hR500
  have hRs : 6 + 1 ≤ R.frames := hfr7
  have hRsl : ∀ k, k ≤ 40 → 8 + (k + 11) + 400 ≤ R.locals := fun k hk => by omega
  intro pc L S h x y dg kk ls H locs hl hP hD hS
  exact lv_ishl hx hb dg (kk ls H locs hl hP hD hS)
theorem s_ishr {p : Program} {l : Launch} {e : Env} {R : Room} {s : State} {m : MethodId} {args : Array Value} {below : List Frame} {meth : Method} {c0 : Code} {X : MX} {adr : Nat → Nat} {cA : Nat → ClassId} {D : va_G} {rm : Room} {mi : MI} {C : MCall} {Rt : MPost} {Q : State → Prop} (K : mCtx p l R s m args c0 X adr cA D rm mi C) : k_ishr X mi C Rt (mRW p l e R s m args below meth c0 X adr cA D mi Q) := by
  obtain ⟨hx, hb, hml, hown, hts, hK, hE, hCs, ⟨hSL, hSC⟩, hRf, hRl, hRc, hRsl0, hfr7, hR500⟩ := K
  have hfr : 1 ≤ R.frames := Nat.le_trans (by decide) hfr7
  have hR64 : 64 ≤ R.locals := Nat.le_trans (by decide) hR500
  have hRs : 6 + 1 ≤ R.frames := hfr7
  have hRsl : ∀ k, k ≤ 40 → 8 + (k + 11) + 400 ≤ R.locals := fun k hk => by omega
  intro pc L S h x y dg kk ls H locs hl hP hD hS
  exact lv_ishr hx hb dg (kk ls H locs hl hP hD hS)
theorem s_idiv {p : Program} {l : Launch} {e : Env} {R : Room} {s : State} {m : MethodId} {args : Array Value} {below : List Frame} {meth : Method} {c0 : Code} {X : MX} {adr : Nat → Nat} {cA : Nat → ClassId} {D : va_G} {rm : Room} {mi : MI} {C : MCall} {Rt : MPost} {Q : State → Prop} (K : mCtx p l R s m args c0 X adr cA D rm mi C) : k_idiv X mi C Rt (mRW p l e R s m args below meth c0 X adr cA D mi Q) := by
  obtain ⟨hx, hb, hml, hown, hts, hK, hE, hCs, ⟨hSL, hSC⟩, hRf, hRl, hRc, hRsl0, hfr7, hR500⟩ := K
  have hfr : 1 ≤ R.frames := Nat.le_trans (by decide) hfr7
  have hR64 : 64 ≤ R.locals := Nat.le_trans (by decide) hR500
  have hRs : 6 + 1 ≤ R.frames := hfr7
  have hRsl : ∀ k, k ≤ 40 → 8 + (k + 11) + 400 ≤ R.locals := fun k hk => by omega
  intro pc L S h x y dg hne kk ls H locs hl hP hD hS
  exact lv_idiv hx hb dg hne (kk ls H locs hl hP hD hS)
theorem s_irem {p : Program} {l : Launch} {e : Env} {R : Room} {s : State} {m : MethodId} {args : Array Value} {below : List Frame} {meth : Method} {c0 : Code} {X : MX} {adr : Nat → Nat} {cA : Nat → ClassId} {D : va_G} {rm : Room} {mi : MI} {C : MCall} {Rt : MPost} {Q : State → Prop} (K : mCtx p l R s m args c0 X adr cA D rm mi C) : k_irem X mi C Rt (mRW p l e R s m args below meth c0 X adr cA D mi Q) := by
  obtain ⟨hx, hb, hml, hown, hts, hK, hE, hCs, ⟨hSL, hSC⟩, hRf, hRl, hRc, hRsl0, hfr7, hR500⟩ := K
  have hfr : 1 ≤ R.frames := Nat.le_trans (by decide) hfr7
  have hR64 : 64 ≤ R.locals := Nat.le_trans (by decide) hR500
  have hRs : 6 + 1 ≤ R.frames := hfr7
  have hRsl : ∀ k, k ≤ 40 → 8 + (k + 11) + 400 ≤ R.locals := fun k hk => by omega
  intro pc L S h x y dg hne kk ls H locs hl hP hD hS
  exact lv_irem hx hb dg hne (kk ls H locs hl hP hD hS)
theorem s_ineg {p : Program} {l : Launch} {e : Env} {R : Room} {s : State} {m : MethodId} {args : Array Value} {below : List Frame} {meth : Method} {c0 : Code} {X : MX} {adr : Nat → Nat} {cA : Nat → ClassId} {D : va_G} {rm : Room} {mi : MI} {C : MCall} {Rt : MPost} {Q : State → Prop} (K : mCtx p l R s m args c0 X adr cA D rm mi C) : k_ineg X mi C Rt (mRW p l e R s m args below meth c0 X adr cA D mi Q) := by
  obtain ⟨hx, hb, hml, hown, hts, hK, hE, hCs, ⟨hSL, hSC⟩, hRf, hRl, hRc, hRsl0, hfr7, hR500⟩ := K
  have hfr : 1 ≤ R.frames := Nat.le_trans (by decide) hfr7
  have hR64 : 64 ≤ R.locals := Nat.le_trans (by decide) hR500
  have hRs : 6 + 1 ≤ R.frames := hfr7
  have hRsl : ∀ k, k ≤ 40 → 8 + (k + 11) + 400 ≤ R.locals := fun k hk => by omega
  intro pc L S h x dg kk ls H locs hl hP hD hS
  exact lv_ineg hx hb dg (kk ls H locs hl hP hD hS)
theorem s_ladd {p : Program} {l : Launch} {e : Env} {R : Room} {s : State} {m : MethodId} {args : Array Value} {below : List Frame} {meth : Method} {c0 : Code} {X : MX} {adr : Nat → Nat} {cA : Nat → ClassId} {D : va_G} {rm : Room} {mi : MI} {C : MCall} {Rt : MPost} {Q : State → Prop} (K : mCtx p l R s m args c0 X adr cA D rm mi C) : k_ladd X mi C Rt (mRW p l e R s m args below meth c0 X adr cA D mi Q) := by
  obtain ⟨hx, hb, hml, hown, hts, hK, hE, hCs, ⟨hSL, hSC⟩, hRf, hRl, hRc, hRsl0, hfr7, hR500⟩ := K
  have hfr : 1 ≤ R.frames := Nat.le_trans (by decide) hfr7
  have hR64 : 64 ≤ R.locals := Nat.le_trans (by decide) hR500
  have hRs : 6 + 1 ≤ R.frames := hfr7
  have hRsl : ∀ k, k ≤ 40 → 8 + (k + 11) + 400 ≤ R.locals := fun k hk => by omega
  intro pc L S h x y dg kk ls H locs hl hP hD hS
  exact lv_ladd hx hb dg (kk ls H locs hl hP hD hS)
theorem s_lsub {p : Program} {l : Launch} {e : Env} {R : Room} {s : State} {m : MethodId} {args : Array Value} {below : List Frame} {meth : Method} {c0 : Code} {X : MX} {adr : Nat → Nat} {cA : Nat → ClassId} {D : va_G} {rm : Room} {mi : MI} {C : MCall} {Rt : MPost} {Q : State → Prop} (K : mCtx p l R s m args c0 X adr cA D rm mi C) : k_lsub X mi C Rt (mRW p l e R s m args below meth c0 X adr cA D mi Q) := by
  obtain ⟨hx, hb, hml, hown, hts, hK, hE, hCs, ⟨hSL, hSC⟩, hRf, hRl, hRc, hRsl0, hfr7, hR500⟩ := K
  have hfr : 1 ≤ R.frames := Nat.le_trans (by decide) hfr7
  have hR64 : 64 ≤ R.locals := Nat.le_trans (by decide) hR500
  have hRs : 6 + 1 ≤ R.frames := hfr7
  have hRsl : ∀ k, k ≤ 40 → 8 + (k + 11) + 400 ≤ R.locals := fun k hk => by omega
  intro pc L S h x y dg kk ls H locs hl hP hD hS
  exact lv_lsub hx hb dg (kk ls H locs hl hP hD hS)
theorem s_lmul {p : Program} {l : Launch} {e : Env} {R : Room} {s : State} {m : MethodId} {args : Array Value} {below : List Frame} {meth : Method} {c0 : Code} {X : MX} {adr : Nat → Nat} {cA : Nat → ClassId} {D : va_G} {rm : Room} {mi : MI} {C : MCall} {Rt : MPost} {Q : State → Prop} (K : mCtx p l R s m args c0 X adr cA D rm mi C) : k_lmul X mi C Rt (mRW p l e R s m args below meth c0 X adr cA D mi Q) := by
  obtain ⟨hx, hb, hml, hown, hts, hK, hE, hCs, ⟨hSL, hSC⟩, hRf, hRl, hRc, hRsl0, hfr7, hR500⟩ := K
  have hfr : 1 ≤ R.frames := Nat.le_trans (by decide) hfr7
  have hR64 : 64 ≤ R.locals := Nat.le_trans (by decide) hR500
  have hRs : 6 + 1 ≤ R.frames := hfr7
  have hRsl : ∀ k, k ≤ 40 → 8 + (k + 11) + 400 ≤ R.locals := fun k hk => by omega
  intro pc L S h x y dg kk ls H locs hl hP hD hS
  exact lv_lmul hx hb dg (kk ls H locs hl hP hD hS)
theorem s_land {p : Program} {l : Launch} {e : Env} {R : Room} {s : State} {m : MethodId} {args : Array Value} {below : List Frame} {meth : Method} {c0 : Code} {X : MX} {adr : Nat → Nat} {cA : Nat → ClassId} {D : va_G} {rm : Room} {mi : MI} {C : MCall} {Rt : MPost} {Q : State → Prop} (K : mCtx p l R s m args c0 X adr cA D rm mi C) : k_land X mi C Rt (mRW p l e R s m args below meth c0 X adr cA D mi Q) := by
  obtain ⟨hx, hb, hml, hown, hts, hK, hE, hCs, ⟨hSL, hSC⟩, hRf, hRl, hRc, hRsl0, hfr7, hR500⟩ := K
  have hfr : 1 ≤ R.frames := Nat.le_trans (by decide) hfr7
  have hR64 : 64 ≤ R.locals := Nat.le_trans (by decide) hR500
  have hRs : 6 + 1 ≤ R.frames := hfr7
  have hRsl : ∀ k, k ≤ 40 → 8 + (k + 11) + 400 ≤ R.locals := fun k hk => by omega
  intro pc L S h x y dg kk ls H locs hl hP hD hS
  exact lv_land hx hb dg (kk ls H locs hl hP hD hS)
theorem s_lor {p : Program} {l : Launch} {e : Env} {R : Room} {s : State} {m : MethodId} {args : Array Value} {below : List Frame} {meth : Method} {c0 : Code} {X : MX} {adr : Nat → Nat} {cA : Nat → ClassId} {D : va_G} {rm : Room} {mi : MI} {C : MCall} {Rt : MPost} {Q : State → Prop} (K : mCtx p l R s m args c0 X adr cA D rm mi C) : k_lor X mi C Rt (mRW p l e R s m args below meth c0 X adr cA D mi Q) := by
  obtain ⟨hx, hb, hml, hown, hts, hK, hE, hCs, ⟨hSL, hSC⟩, hRf, hRl, hRc, hRsl0, hfr7, hR500⟩ := K
  have hfr : 1 ≤ R.frames := Nat.le_trans (by decide) hfr7
  have hR64 : 64 ≤ R.locals := Nat.le_trans (by decide) hR500
  have hRs : 6 + 1 ≤ R.frames := hfr7
  have hRsl : ∀ k, k ≤ 40 → 8 + (k + 11) + 400 ≤ R.locals := fun k hk => by omega
  intro pc L S h x y dg kk ls H locs hl hP hD hS
  exact lv_lor hx hb dg (kk ls H locs hl hP hD hS)
theorem s_ldiv {p : Program} {l : Launch} {e : Env} {R : Room} {s : State} {m : MethodId} {args : Array Value} {below : List Frame} {meth : Method} {c0 : Code} {X : MX} {adr : Nat → Nat} {cA : Nat → ClassId} {D : va_G} {rm : Room} {mi : MI} {C : MCall} {Rt : MPost} {Q : State → Prop} (K : mCtx p l R s m args c0 X adr cA D rm mi C) : k_ldiv X mi C Rt (mRW p l e R s m args below meth c0 X adr cA D mi Q) := by
  obtain ⟨hx, hb, hml, hown, hts, hK, hE, hCs, ⟨hSL, hSC⟩, hRf, hRl, hRc, hRsl0, hfr7, hR500⟩ := K
  have hfr : 1 ≤ R.frames := Nat.le_trans (by decide) hfr7
  have hR64 : 64 ≤ R.locals := Nat.le_trans (by decide) hR500
  have hRs : 6 + 1 ≤ R.frames := hfr7
  have hRsl : ∀ k, k ≤ 40 → 8 + (k + 11) + 400 ≤ R.locals := fun k hk => by omega
  intro pc L S h x y dg hne kk ls H locs hl hP hD hS
  exact lv_ldiv hx hb dg hne (kk ls H locs hl hP hD hS)
theorem s_lrem {p : Program} {l : Launch} {e : Env} {R : Room} {s : State} {m : MethodId} {args : Array Value} {below : List Frame} {meth : Method} {c0 : Code} {X : MX} {adr : Nat → Nat} {cA : Nat → ClassId} {D : va_G} {rm : Room} {mi : MI} {C : MCall} {Rt : MPost} {Q : State → Prop} (K : mCtx p l R s m args c0 X adr cA D rm mi C) : k_lrem X mi C Rt (mRW p l e R s m args below meth c0 X adr cA D mi Q) := by
  obtain ⟨hx, hb, hml, hown, hts, hK, hE, hCs, ⟨hSL, hSC⟩, hRf, hRl, hRc, hRsl0, hfr7, hR500⟩ := K
  have hfr : 1 ≤ R.frames := Nat.le_trans (by decide) hfr7
  have hR64 : 64 ≤ R.locals := Nat.le_trans (by decide) hR500
  have hRs : 6 + 1 ≤ R.frames := hfr7
  have hRsl : ∀ k, k ≤ 40 → 8 + (k + 11) + 400 ≤ R.locals := fun k hk => by omega
  intro pc L S h x y dg hne kk ls H locs hl hP hD hS
  exact lv_lrem hx hb dg hne (kk ls H locs hl hP hD hS)
theorem s_i2l {p : Program} {l : Launch} {e : Env} {R : Room} {s : State} {m : MethodId} {args : Array Value} {below : List Frame} {meth : Method} {c0 : Code} {X : MX} {adr : Nat → Nat} {cA : Nat → ClassId} {D : va_G} {rm : Room} {mi : MI} {C : MCall} {Rt : MPost} {Q : State → Prop} (K : mCtx p l R s m args c0 X adr cA D rm mi C) : k_i2l X mi C Rt (mRW p l e R s m args below meth c0 X adr cA D mi Q) := by
  obtain ⟨hx, hb, hml, hown, hts, hK, hE, hCs, ⟨hSL, hSC⟩, hRf, hRl, hRc, hRsl0, hfr7, hR500⟩ := K
  have hfr : 1 ≤ R.frames := Nat.le_trans (by decide) hfr7
  have hR64 : 64 ≤ R.locals := Nat.le_trans (by decide) hR500
  have hRs : 6 + 1 ≤ R.frames := hfr7
  have hRsl : ∀ k, k ≤ 40 → 8 + (k + 11) + 400 ≤ R.locals := fun k hk => by omega
  intro pc L S h x dg kk ls H locs hl hP hD hS
  exact lv_i2l hx hb dg rfl (kk ls H locs hl hP hD hS)
theorem s_l2i {p : Program} {l : Launch} {e : Env} {R : Room} {s : State} {m : MethodId} {args : Array Value} {below : List Frame} {meth : Method} {c0 : Code} {X : MX} {adr : Nat → Nat} {cA : Nat → ClassId} {D : va_G} {rm : Room} {mi : MI} {C : MCall} {Rt : MPost} {Q : State → Prop} (K : mCtx p l R s m args c0 X adr cA D rm mi C) : k_l2i X mi C Rt (mRW p l e R s m args below meth c0 X adr cA D mi Q) := by
  obtain ⟨hx, hb, hml, hown, hts, hK, hE, hCs, ⟨hSL, hSC⟩, hRf, hRl, hRc, hRsl0, hfr7, hR500⟩ := K
  have hfr : 1 ≤ R.frames := Nat.le_trans (by decide) hfr7
  have hR64 : 64 ≤ R.locals := Nat.le_trans (by decide) hR500
  have hRs : 6 + 1 ≤ R.frames := hfr7
  have hRsl : ∀ k, k ≤ 40 → 8 + (k + 11) + 400 ≤ R.locals := fun k hk => by omega
  intro pc L S h x dg kk ls H locs hl hP hD hS
  exact lv_l2i hx hb dg rfl (kk ls H locs hl hP hD hS)
theorem s_i2b {p : Program} {l : Launch} {e : Env} {R : Room} {s : State} {m : MethodId} {args : Array Value} {below : List Frame} {meth : Method} {c0 : Code} {X : MX} {adr : Nat → Nat} {cA : Nat → ClassId} {D : va_G} {rm : Room} {mi : MI} {C : MCall} {Rt : MPost} {Q : State → Prop} (K : mCtx p l R s m args c0 X adr cA D rm mi C) : k_i2b X mi C Rt (mRW p l e R s m args below meth c0 X adr cA D mi Q) := by
  obtain ⟨hx, hb, hml, hown, hts, hK, hE, hCs, ⟨hSL, hSC⟩, hRf, hRl, hRc, hRsl0, hfr7, hR500⟩ := K
  have hfr : 1 ≤ R.frames := Nat.le_trans (by decide) hfr7
  have hR64 : 64 ≤ R.locals := Nat.le_trans (by decide) hR500
  have hRs : 6 + 1 ≤ R.frames := hfr7
  have hRsl : ∀ k, k ≤ 40 → 8 + (k + 11) + 400 ≤ R.locals := fun k hk => by omega
  intro pc L S h x dg kk ls H locs hl hP hD hS
  exact lv_i2b hx hb dg rfl (kk ls H locs hl hP hD hS)
theorem s_i2s {p : Program} {l : Launch} {e : Env} {R : Room} {s : State} {m : MethodId} {args : Array Value} {below : List Frame} {meth : Method} {c0 : Code} {X : MX} {adr : Nat → Nat} {cA : Nat → ClassId} {D : va_G} {rm : Room} {mi : MI} {C : MCall} {Rt : MPost} {Q : State → Prop} (K : mCtx p l R s m args c0 X adr cA D rm mi C) : k_i2s X mi C Rt (mRW p l e R s m args below meth c0 X adr cA D mi Q) := by
  obtain ⟨hx, hb, hml, hown, hts, hK, hE, hCs, ⟨hSL, hSC⟩, hRf, hRl, hRc, hRsl0, hfr7, hR500⟩ := K
  have hfr : 1 ≤ R.frames := Nat.le_trans (by decide) hfr7
  have hR64 : 64 ≤ R.locals := Nat.le_trans (by decide) hR500
  have hRs : 6 + 1 ≤ R.frames := hfr7
  have hRsl : ∀ k, k ≤ 40 → 8 + (k + 11) + 400 ≤ R.locals := fun k hk => by omega
  intro pc L S h x dg kk ls H locs hl hP hD hS
  exact lv_i2s hx hb dg rfl (kk ls H locs hl hP hD hS)
theorem s_iushr {p : Program} {l : Launch} {e : Env} {R : Room} {s : State} {m : MethodId} {args : Array Value} {below : List Frame} {meth : Method} {c0 : Code} {X : MX} {adr : Nat → Nat} {cA : Nat → ClassId} {D : va_G} {rm : Room} {mi : MI} {C : MCall} {Rt : MPost} {Q : State → Prop} (K : mCtx p l R s m args c0 X adr cA D rm mi C) : k_iushr X mi C Rt (mRW p l e R s m args below meth c0 X adr cA D mi Q) := by
  obtain ⟨hx, hb, hml, hown, hts, hK, hE, hCs, ⟨hSL, hSC⟩, hRf, hRl, hRc, hRsl0, hfr7, hR500⟩ := K
  have hfr : 1 ≤ R.frames := Nat.le_trans (by decide) hfr7
  have hR64 : 64 ≤ R.locals := Nat.le_trans (by decide) hR500
  have hRs : 6 + 1 ≤ R.frames := hfr7
  have hRsl : ∀ k, k ≤ 40 → 8 + (k + 11) + 400 ≤ R.locals := fun k hk => by omega
  intro pc L S h x y dg kk ls H locs hl hP hD hS
  exact lv_iushr hx hb dg rfl (kk ls H locs hl hP hD hS)
theorem s_lshl {p : Program} {l : Launch} {e : Env} {R : Room} {s : State} {m : MethodId} {args : Array Value} {below : List Frame} {meth : Method} {c0 : Code} {X : MX} {adr : Nat → Nat} {cA : Nat → ClassId} {D : va_G} {rm : Room} {mi : MI} {C : MCall} {Rt : MPost} {Q : State → Prop} (K : mCtx p l R s m args c0 X adr cA D rm mi C) : k_lshl X mi C Rt (mRW p l e R s m args below meth c0 X adr cA D mi Q) := by
  obtain ⟨hx, hb, hml, hown, hts, hK, hE, hCs, ⟨hSL, hSC⟩, hRf, hRl, hRc, hRsl0, hfr7, hR500⟩ := K
  have hfr : 1 ≤ R.frames := Nat.le_trans (by decide) hfr7
  have hR64 : 64 ≤ R.locals := Nat.le_trans (by decide) hR500
  have hRs : 6 + 1 ≤ R.frames := hfr7
  have hRsl : ∀ k, k ≤ 40 → 8 + (k + 11) + 400 ≤ R.locals := fun k hk => by omega
  intro pc L S h x y dg kk ls H locs hl hP hD hS
  exact lv_lshl hx hb dg rfl (kk ls H locs hl hP hD hS)
theorem s_lshr {p : Program} {l : Launch} {e : Env} {R : Room} {s : State} {m : MethodId} {args : Array Value} {below : List Frame} {meth : Method} {c0 : Code} {X : MX} {adr : Nat → Nat} {cA : Nat → ClassId} {D : va_G} {rm : Room} {mi : MI} {C : MCall} {Rt : MPost} {Q : State → Prop} (K : mCtx p l R s m args c0 X adr cA D rm mi C) : k_lshr X mi C Rt (mRW p l e R s m args below meth c0 X adr cA D mi Q) := by
  obtain ⟨hx, hb, hml, hown, hts, hK, hE, hCs, ⟨hSL, hSC⟩, hRf, hRl, hRc, hRsl0, hfr7, hR500⟩ := K
  have hfr : 1 ≤ R.frames := Nat.le_trans (by decide) hfr7
  have hR64 : 64 ≤ R.locals := Nat.le_trans (by decide) hR500
  have hRs : 6 + 1 ≤ R.frames := hfr7
  have hRsl : ∀ k, k ≤ 40 → 8 + (k + 11) + 400 ≤ R.locals := fun k hk => by omega
  intro pc L S h x y dg kk ls H locs hl hP hD hS
  exact lv_lshr hx hb dg rfl (kk ls H locs hl hP hD hS)
theorem s_lcmp {p : Program} {l : Launch} {e : Env} {R : Room} {s : State} {m : MethodId} {args : Array Value} {below : List Frame} {meth : Method} {c0 : Code} {X : MX} {adr : Nat → Nat} {cA : Nat → ClassId} {D : va_G} {rm : Room} {mi : MI} {C : MCall} {Rt : MPost} {Q : State → Prop} (K : mCtx p l R s m args c0 X adr cA D rm mi C) : k_lcmp X mi C Rt (mRW p l e R s m args below meth c0 X adr cA D mi Q) := by
  obtain ⟨hx, hb, hml, hown, hts, hK, hE, hCs, ⟨hSL, hSC⟩, hRf, hRl, hRc, hRsl0, hfr7, hR500⟩ := K
  have hfr : 1 ≤ R.frames := Nat.le_trans (by decide) hfr7
  have hR64 : 64 ≤ R.locals := Nat.le_trans (by decide) hR500
  have hRs : 6 + 1 ≤ R.frames := hfr7
  have hRsl : ∀ k, k ≤ 40 → 8 + (k + 11) + 400 ≤ R.locals := fun k hk => by omega
  intro pc L S h x y dg kk ls H locs hl hP hD hS
  exact W.lcmp hx hb dg (kk ls H locs hl hP hD hS)
theorem s_dup {p : Program} {l : Launch} {e : Env} {R : Room} {s : State} {m : MethodId} {args : Array Value} {below : List Frame} {meth : Method} {c0 : Code} {X : MX} {adr : Nat → Nat} {cA : Nat → ClassId} {D : va_G} {rm : Room} {mi : MI} {C : MCall} {Rt : MPost} {Q : State → Prop} (K : mCtx p l R s m args c0 X adr cA D rm mi C) : k_dup X mi C Rt (mRW p l e R s m args below meth c0 X adr cA D mi Q) := by
  obtain ⟨hx, hb, hml, hown, hts, hK, hE, hCs, ⟨hSL, hSC⟩, hRf, hRl, hRc, hRsl0, hfr7, hR500⟩ := K
  have hfr : 1 ≤ R.frames := Nat.le_trans (by decide) hfr7
  have hR64 : 64 ≤ R.locals := Nat.le_trans (by decide) hR500
  have hRs : 6 + 1 ≤ R.frames := hfr7
  have hRsl : ∀ k, k ≤ 40 → 8 + (k + 11) + 400 ≤ R.locals := fun k hk => by omega
  intro pc L S h v dg hv kk ls H locs hl hP hD hS
  exact lv_dup hx hb dg ((mtr_cat _ _).trans hv) (kk ls H locs hl hP hD hS)
theorem s_pop {p : Program} {l : Launch} {e : Env} {R : Room} {s : State} {m : MethodId} {args : Array Value} {below : List Frame} {meth : Method} {c0 : Code} {X : MX} {adr : Nat → Nat} {cA : Nat → ClassId} {D : va_G} {rm : Room} {mi : MI} {C : MCall} {Rt : MPost} {Q : State → Prop} (K : mCtx p l R s m args c0 X adr cA D rm mi C) : k_pop X mi C Rt (mRW p l e R s m args below meth c0 X adr cA D mi Q) := by
  obtain ⟨hx, hb, hml, hown, hts, hK, hE, hCs, ⟨hSL, hSC⟩, hRf, hRl, hRc, hRsl0, hfr7, hR500⟩ := K
  have hfr : 1 ≤ R.frames := Nat.le_trans (by decide) hfr7
  have hR64 : 64 ≤ R.locals := Nat.le_trans (by decide) hR500
  have hRs : 6 + 1 ≤ R.frames := hfr7
  have hRsl : ∀ k, k ≤ 40 → 8 + (k + 11) + 400 ≤ R.locals := fun k hk => by omega
  intro pc L S h v dg hv kk ls H locs hl hP hD hS
  exact lv_pop hx hb dg ((mtr_cat _ _).trans hv) (kk ls H locs hl hP hD hS)
theorem s_dup2 {p : Program} {l : Launch} {e : Env} {R : Room} {s : State} {m : MethodId} {args : Array Value} {below : List Frame} {meth : Method} {c0 : Code} {X : MX} {adr : Nat → Nat} {cA : Nat → ClassId} {D : va_G} {rm : Room} {mi : MI} {C : MCall} {Rt : MPost} {Q : State → Prop} (K : mCtx p l R s m args c0 X adr cA D rm mi C) : k_dup2 X mi C Rt (mRW p l e R s m args below meth c0 X adr cA D mi Q) := by
  obtain ⟨hx, hb, hml, hown, hts, hK, hE, hCs, ⟨hSL, hSC⟩, hRf, hRl, hRc, hRsl0, hfr7, hR500⟩ := K
  have hfr : 1 ≤ R.frames := Nat.le_trans (by decide) hfr7
  have hR64 : 64 ≤ R.locals := Nat.le_trans (by decide) hR500
  have hRs : 6 + 1 ≤ R.frames := hfr7
  have hRsl : ∀ k, k ≤ 40 → 8 + (k + 11) + 400 ≤ R.locals := fun k hk => by omega
  intro pc L S h v w dg hv hw kk ls H locs hl hP hD hS
  exact lv_dup2_11 hx hb dg ((mtr_cat _ _).trans hv) ((mtr_cat _ _).trans hw) (kk ls H locs hl hP hD hS)
theorem s_dup2_2 {p : Program} {l : Launch} {e : Env} {R : Room} {s : State} {m : MethodId} {args : Array Value} {below : List Frame} {meth : Method} {c0 : Code} {X : MX} {adr : Nat → Nat} {cA : Nat → ClassId} {D : va_G} {rm : Room} {mi : MI} {C : MCall} {Rt : MPost} {Q : State → Prop} (K : mCtx p l R s m args c0 X adr cA D rm mi C) : k_dup2_2 X mi C Rt (mRW p l e R s m args below meth c0 X adr cA D mi Q) := by
  obtain ⟨hx, hb, hml, hown, hts, hK, hE, hCs, ⟨hSL, hSC⟩, hRf, hRl, hRc, hRsl0, hfr7, hR500⟩ := K
  have hfr : 1 ≤ R.frames := Nat.le_trans (by decide) hfr7
  have hR64 : 64 ≤ R.locals := Nat.le_trans (by decide) hR500
  have hRs : 6 + 1 ≤ R.frames := hfr7
  have hRsl : ∀ k, k ≤ 40 → 8 + (k + 11) + 400 ≤ R.locals := fun k hk => by omega
  intro pc L S h v dg hv kk ls H locs hl hP hD hS
  exact lv_dup2_2 hx hb dg ((mtr_cat _ _).trans hv) (kk ls H locs hl hP hD hS)
theorem s_if_eq {p : Program} {l : Launch} {e : Env} {R : Room} {s : State} {m : MethodId} {args : Array Value} {below : List Frame} {meth : Method} {c0 : Code} {X : MX} {adr : Nat → Nat} {cA : Nat → ClassId} {D : va_G} {rm : Room} {mi : MI} {C : MCall} {Rt : MPost} {Q : State → Prop} (K : mCtx p l R s m args c0 X adr cA D rm mi C) : k_if_eq X mi C Rt (mRW p l e R s m args below meth c0 X adr cA D mi Q) := by
  obtain ⟨hx, hb, hml, hown, hts, hK, hE, hCs, ⟨hSL, hSC⟩, hRf, hRl, hRc, hRsl0, hfr7, hR500⟩ := K
  have hfr : 1 ≤ R.frames := Nat.le_trans (by decide) hfr7
  have hR64 : 64 ≤ R.locals := Nat.le_trans (by decide) hR500
  have hRs : 6 + 1 ≤ R.frames := hfr7
  have hRsl : ∀ k, k ≤ 40 → 8 + (k + 11) + 400 ≤ R.locals := fun k hk => by omega
  intro pc L S h x off tgt dg ht kt kf ls H locs hl hP hD hS
  exact lv_if_eq hx hb dg ht (fun hq => kt hq ls H locs hl hP hD hS) (fun hq => kf hq ls H locs hl hP hD hS)
theorem s_icmp_eq {p : Program} {l : Launch} {e : Env} {R : Room} {s : State} {m : MethodId} {args : Array Value} {below : List Frame} {meth : Method} {c0 : Code} {X : MX} {adr : Nat → Nat} {cA : Nat → ClassId} {D : va_G} {rm : Room} {mi : MI} {C : MCall} {Rt : MPost} {Q : State → Prop} (K : mCtx p l R s m args c0 X adr cA D rm mi C) : k_icmp_eq X mi C Rt (mRW p l e R s m args below meth c0 X adr cA D mi Q) := by
  obtain ⟨hx, hb, hml, hown, hts, hK, hE, hCs, ⟨hSL, hSC⟩, hRf, hRl, hRc, hRsl0, hfr7, hR500⟩ := K
  have hfr : 1 ≤ R.frames := Nat.le_trans (by decide) hfr7
  have hR64 : 64 ≤ R.locals := Nat.le_trans (by decide) hR500
  have hRs : 6 + 1 ≤ R.frames := hfr7
  have hRsl : ∀ k, k ≤ 40 → 8 + (k + 11) + 400 ≤ R.locals := fun k hk => by omega
  intro pc L S h x y off tgt dg ht kt kf ls H locs hl hP hD hS
  exact lv_icmp_eq hx hb dg ht (fun hq => kt hq ls H locs hl hP hD hS) (fun hq => kf hq ls H locs hl hP hD hS)
theorem s_if_ne {p : Program} {l : Launch} {e : Env} {R : Room} {s : State} {m : MethodId} {args : Array Value} {below : List Frame} {meth : Method} {c0 : Code} {X : MX} {adr : Nat → Nat} {cA : Nat → ClassId} {D : va_G} {rm : Room} {mi : MI} {C : MCall} {Rt : MPost} {Q : State → Prop} (K : mCtx p l R s m args c0 X adr cA D rm mi C) : k_if_ne X mi C Rt (mRW p l e R s m args below meth c0 X adr cA D mi Q) := by
  obtain ⟨hx, hb, hml, hown, hts, hK, hE, hCs, ⟨hSL, hSC⟩, hRf, hRl, hRc, hRsl0, hfr7, hR500⟩ := K
  have hfr : 1 ≤ R.frames := Nat.le_trans (by decide) hfr7
  have hR64 : 64 ≤ R.locals := Nat.le_trans (by decide) hR500
  have hRs : 6 + 1 ≤ R.frames := hfr7
  have hRsl : ∀ k, k ≤ 40 → 8 + (k + 11) + 400 ≤ R.locals := fun k hk => by omega
  intro pc L S h x off tgt dg ht kt kf ls H locs hl hP hD hS
  exact lv_if_ne hx hb dg ht (fun hq => kt hq ls H locs hl hP hD hS) (fun hq => kf hq ls H locs hl hP hD hS)
theorem s_icmp_ne {p : Program} {l : Launch} {e : Env} {R : Room} {s : State} {m : MethodId} {args : Array Value} {below : List Frame} {meth : Method} {c0 : Code} {X : MX} {adr : Nat → Nat} {cA : Nat → ClassId} {D : va_G} {rm : Room} {mi : MI} {C : MCall} {Rt : MPost} {Q : State → Prop} (K : mCtx p l R s m args c0 X adr cA D rm mi C) : k_icmp_ne X mi C Rt (mRW p l e R s m args below meth c0 X adr cA D mi Q) := by
  obtain ⟨hx, hb, hml, hown, hts, hK, hE, hCs, ⟨hSL, hSC⟩, hRf, hRl, hRc, hRsl0, hfr7, hR500⟩ := K
  have hfr : 1 ≤ R.frames := Nat.le_trans (by decide) hfr7
  have hR64 : 64 ≤ R.locals := Nat.le_trans (by decide) hR500
  have hRs : 6 + 1 ≤ R.frames := hfr7
  have hRsl : ∀ k, k ≤ 40 → 8 + (k + 11) + 400 ≤ R.locals := fun k hk => by omega
  intro pc L S h x y off tgt dg ht kt kf ls H locs hl hP hD hS
  exact lv_icmp_ne hx hb dg ht (fun hq => kt hq ls H locs hl hP hD hS) (fun hq => kf hq ls H locs hl hP hD hS)
theorem s_if_lt {p : Program} {l : Launch} {e : Env} {R : Room} {s : State} {m : MethodId} {args : Array Value} {below : List Frame} {meth : Method} {c0 : Code} {X : MX} {adr : Nat → Nat} {cA : Nat → ClassId} {D : va_G} {rm : Room} {mi : MI} {C : MCall} {Rt : MPost} {Q : State → Prop} (K : mCtx p l R s m args c0 X adr cA D rm mi C) : k_if_lt X mi C Rt (mRW p l e R s m args below meth c0 X adr cA D mi Q) := by
  obtain ⟨hx, hb, hml, hown, hts, hK, hE, hCs, ⟨hSL, hSC⟩, hRf, hRl, hRc, hRsl0, hfr7, hR500⟩ := K
  have hfr : 1 ≤ R.frames := Nat.le_trans (by decide) hfr7
  have hR64 : 64 ≤ R.locals := Nat.le_trans (by decide) hR500
  have hRs : 6 + 1 ≤ R.frames := hfr7
  have hRsl : ∀ k, k ≤ 40 → 8 + (k + 11) + 400 ≤ R.locals := fun k hk => by omega
  intro pc L S h x off tgt dg ht kt kf ls H locs hl hP hD hS
  exact lv_if_lt hx hb dg ht (fun hq => kt hq ls H locs hl hP hD hS) (fun hq => kf hq ls H locs hl hP hD hS)
theorem s_icmp_lt {p : Program} {l : Launch} {e : Env} {R : Room} {s : State} {m : MethodId} {args : Array Value} {below : List Frame} {meth : Method} {c0 : Code} {X : MX} {adr : Nat → Nat} {cA : Nat → ClassId} {D : va_G} {rm : Room} {mi : MI} {C : MCall} {Rt : MPost} {Q : State → Prop} (K : mCtx p l R s m args c0 X adr cA D rm mi C) : k_icmp_lt X mi C Rt (mRW p l e R s m args below meth c0 X adr cA D mi Q) := by
  obtain ⟨hx, hb, hml, hown, hts, hK, hE, hCs, ⟨hSL, hSC⟩, hRf, hRl, hRc, hRsl0, hfr7, hR500⟩ := K
  have hfr : 1 ≤ R.frames := Nat.le_trans (by decide) hfr7
  have hR64 : 64 ≤ R.locals := Nat.le_trans (by decide) hR500
  have hRs : 6 + 1 ≤ R.frames := hfr7
  have hRsl : ∀ k, k ≤ 40 → 8 + (k + 11) + 400 ≤ R.locals := fun k hk => by omega
  intro pc L S h x y off tgt dg ht kt kf ls H locs hl hP hD hS
  exact lv_icmp_lt hx hb dg ht (fun hq => kt hq ls H locs hl hP hD hS) (fun hq => kf hq ls H locs hl hP hD hS)
theorem s_if_ge {p : Program} {l : Launch} {e : Env} {R : Room} {s : State} {m : MethodId} {args : Array Value} {below : List Frame} {meth : Method} {c0 : Code} {X : MX} {adr : Nat → Nat} {cA : Nat → ClassId} {D : va_G} {rm : Room} {mi : MI} {C : MCall} {Rt : MPost} {Q : State → Prop} (K : mCtx p l R s m args c0 X adr cA D rm mi C) : k_if_ge X mi C Rt (mRW p l e R s m args below meth c0 X adr cA D mi Q) := by
  obtain ⟨hx, hb, hml, hown, hts, hK, hE, hCs, ⟨hSL, hSC⟩, hRf, hRl, hRc, hRsl0, hfr7, hR500⟩ := K
  have hfr : 1 ≤ R.frames := Nat.le_trans (by decide) hfr7
  have hR64 : 64 ≤ R.locals := Nat.le_trans (by decide) hR500
  have hRs : 6 + 1 ≤ R.frames := hfr7
  have hRsl : ∀ k, k ≤ 40 → 8 + (k + 11) + 400 ≤ R.locals := fun k hk => by omega
  intro pc L S h x off tgt dg ht kt kf ls H locs hl hP hD hS
  exact lv_if_ge hx hb dg ht (fun hq => kt hq ls H locs hl hP hD hS) (fun hq => kf hq ls H locs hl hP hD hS)
theorem s_icmp_ge {p : Program} {l : Launch} {e : Env} {R : Room} {s : State} {m : MethodId} {args : Array Value} {below : List Frame} {meth : Method} {c0 : Code} {X : MX} {adr : Nat → Nat} {cA : Nat → ClassId} {D : va_G} {rm : Room} {mi : MI} {C : MCall} {Rt : MPost} {Q : State → Prop} (K : mCtx p l R s m args c0 X adr cA D rm mi C) : k_icmp_ge X mi C Rt (mRW p l e R s m args below meth c0 X adr cA D mi Q) := by
  obtain ⟨hx, hb, hml, hown, hts, hK, hE, hCs, ⟨hSL, hSC⟩, hRf, hRl, hRc, hRsl0, hfr7, hR500⟩ := K
  have hfr : 1 ≤ R.frames := Nat.le_trans (by decide) hfr7
  have hR64 : 64 ≤ R.locals := Nat.le_trans (by decide) hR500
  have hRs : 6 + 1 ≤ R.frames := hfr7
  have hRsl : ∀ k, k ≤ 40 → 8 + (k + 11) + 400 ≤ R.locals := fun k hk => by omega
  intro pc L S h x y off tgt dg ht kt kf ls H locs hl hP hD hS
  exact lv_icmp_ge hx hb dg ht (fun hq => kt hq ls H locs hl hP hD hS) (fun hq => kf hq ls H locs hl hP hD hS)
theorem s_if_gt {p : Program} {l : Launch} {e : Env} {R : Room} {s : State} {m : MethodId} {args : Array Value} {below : List Frame} {meth : Method} {c0 : Code} {X : MX} {adr : Nat → Nat} {cA : Nat → ClassId} {D : va_G} {rm : Room} {mi : MI} {C : MCall} {Rt : MPost} {Q : State → Prop} (K : mCtx p l R s m args c0 X adr cA D rm mi C) : k_if_gt X mi C Rt (mRW p l e R s m args below meth c0 X adr cA D mi Q) := by
  obtain ⟨hx, hb, hml, hown, hts, hK, hE, hCs, ⟨hSL, hSC⟩, hRf, hRl, hRc, hRsl0, hfr7, hR500⟩ := K
  have hfr : 1 ≤ R.frames := Nat.le_trans (by decide) hfr7
  have hR64 : 64 ≤ R.locals := Nat.le_trans (by decide) hR500
  have hRs : 6 + 1 ≤ R.frames := hfr7
  have hRsl : ∀ k, k ≤ 40 → 8 + (k + 11) + 400 ≤ R.locals := fun k hk => by omega
  intro pc L S h x off tgt dg ht kt kf ls H locs hl hP hD hS
  exact lv_if_gt hx hb dg ht (fun hq => kt hq ls H locs hl hP hD hS) (fun hq => kf hq ls H locs hl hP hD hS)
theorem s_icmp_gt {p : Program} {l : Launch} {e : Env} {R : Room} {s : State} {m : MethodId} {args : Array Value} {below : List Frame} {meth : Method} {c0 : Code} {X : MX} {adr : Nat → Nat} {cA : Nat → ClassId} {D : va_G} {rm : Room} {mi : MI} {C : MCall} {Rt : MPost} {Q : State → Prop} (K : mCtx p l R s m args c0 X adr cA D rm mi C) : k_icmp_gt X mi C Rt (mRW p l e R s m args below meth c0 X adr cA D mi Q) := by
  obtain ⟨hx, hb, hml, hown, hts, hK, hE, hCs, ⟨hSL, hSC⟩, hRf, hRl, hRc, hRsl0, hfr7, hR500⟩ := K
  have hfr : 1 ≤ R.frames := Nat.le_trans (by decide) hfr7
  have hR64 : 64 ≤ R.locals := Nat.le_trans (by decide) hR500
  have hRs : 6 + 1 ≤ R.frames := hfr7
  have hRsl : ∀ k, k ≤ 40 → 8 + (k + 11) + 400 ≤ R.locals := fun k hk => by omega
  intro pc L S h x y off tgt dg ht kt kf ls H locs hl hP hD hS
  exact lv_icmp_gt hx hb dg ht (fun hq => kt hq ls H locs hl hP hD hS) (fun hq => kf hq ls H locs hl hP hD hS)
theorem s_if_le {p : Program} {l : Launch} {e : Env} {R : Room} {s : State} {m : MethodId} {args : Array Value} {below : List Frame} {meth : Method} {c0 : Code} {X : MX} {adr : Nat → Nat} {cA : Nat → ClassId} {D : va_G} {rm : Room} {mi : MI} {C : MCall} {Rt : MPost} {Q : State → Prop} (K : mCtx p l R s m args c0 X adr cA D rm mi C) : k_if_le X mi C Rt (mRW p l e R s m args below meth c0 X adr cA D mi Q) := by
  obtain ⟨hx, hb, hml, hown, hts, hK, hE, hCs, ⟨hSL, hSC⟩, hRf, hRl, hRc, hRsl0, hfr7, hR500⟩ := K
  have hfr : 1 ≤ R.frames := Nat.le_trans (by decide) hfr7
  have hR64 : 64 ≤ R.locals := Nat.le_trans (by decide) hR500
  have hRs : 6 + 1 ≤ R.frames := hfr7
  have hRsl : ∀ k, k ≤ 40 → 8 + (k + 11) + 400 ≤ R.locals := fun k hk => by omega
  intro pc L S h x off tgt dg ht kt kf ls H locs hl hP hD hS
  exact lv_if_le hx hb dg ht (fun hq => kt hq ls H locs hl hP hD hS) (fun hq => kf hq ls H locs hl hP hD hS)
theorem s_icmp_le {p : Program} {l : Launch} {e : Env} {R : Room} {s : State} {m : MethodId} {args : Array Value} {below : List Frame} {meth : Method} {c0 : Code} {X : MX} {adr : Nat → Nat} {cA : Nat → ClassId} {D : va_G} {rm : Room} {mi : MI} {C : MCall} {Rt : MPost} {Q : State → Prop} (K : mCtx p l R s m args c0 X adr cA D rm mi C) : k_icmp_le X mi C Rt (mRW p l e R s m args below meth c0 X adr cA D mi Q) := by
  obtain ⟨hx, hb, hml, hown, hts, hK, hE, hCs, ⟨hSL, hSC⟩, hRf, hRl, hRc, hRsl0, hfr7, hR500⟩ := K
  have hfr : 1 ≤ R.frames := Nat.le_trans (by decide) hfr7
  have hR64 : 64 ≤ R.locals := Nat.le_trans (by decide) hR500
  have hRs : 6 + 1 ≤ R.frames := hfr7
  have hRsl : ∀ k, k ≤ 40 → 8 + (k + 11) + 400 ≤ R.locals := fun k hk => by omega
  intro pc L S h x y off tgt dg ht kt kf ls H locs hl hP hD hS
  exact lv_icmp_le hx hb dg ht (fun hq => kt hq ls H locs hl hP hD hS) (fun hq => kf hq ls H locs hl hP hD hS)
theorem s_goto {p : Program} {l : Launch} {e : Env} {R : Room} {s : State} {m : MethodId} {args : Array Value} {below : List Frame} {meth : Method} {c0 : Code} {X : MX} {adr : Nat → Nat} {cA : Nat → ClassId} {D : va_G} {rm : Room} {mi : MI} {C : MCall} {Rt : MPost} {Q : State → Prop} (K : mCtx p l R s m args c0 X adr cA D rm mi C) : k_goto X mi C Rt (mRW p l e R s m args below meth c0 X adr cA D mi Q) := by
  obtain ⟨hx, hb, hml, hown, hts, hK, hE, hCs, ⟨hSL, hSC⟩, hRf, hRl, hRc, hRsl0, hfr7, hR500⟩ := K
  have hfr : 1 ≤ R.frames := Nat.le_trans (by decide) hfr7
  have hR64 : 64 ≤ R.locals := Nat.le_trans (by decide) hR500
  have hRs : 6 + 1 ≤ R.frames := hfr7
  have hRsl : ∀ k, k ≤ 40 → 8 + (k + 11) + 400 ≤ R.locals := fun k hk => by omega
  intro pc L S h off tgt dg ht kk ls H locs hl hP hD hS
  exact lv_goto hx hb dg ht (kk ls H locs hl hP hD hS)
theorem s_tabOut {p : Program} {l : Launch} {e : Env} {R : Room} {s : State} {m : MethodId} {args : Array Value} {below : List Frame} {meth : Method} {c0 : Code} {X : MX} {adr : Nat → Nat} {cA : Nat → ClassId} {D : va_G} {rm : Room} {mi : MI} {C : MCall} {Rt : MPost} {Q : State → Prop} (K : mCtx p l R s m args c0 X adr cA D rm mi C) : k_tabOut X mi C Rt (mRW p l e R s m args below meth c0 X adr cA D mi Q) := by
  obtain ⟨hx, hb, hml, hown, hts, hK, hE, hCs, ⟨hSL, hSC⟩, hRf, hRl, hRc, hRsl0, hfr7, hR500⟩ := K
  have hfr : 1 ≤ R.frames := Nat.le_trans (by decide) hfr7
  have hR64 : 64 ≤ R.locals := Nat.le_trans (by decide) hR500
  have hRs : 6 + 1 ≤ R.frames := hfr7
  have hRsl : ∀ k, k ≤ 40 → 8 + (k + 11) + 400 ≤ R.locals := fun k hk => by omega
  intro pc L S h dflt lo hi offs len x tgt dg hh ht kk ls H locs hl hP hD hS
  exact lv_tableOut hx hb dg hh ht (kk ls H locs hl hP hD hS)
theorem s_tabIn {p : Program} {l : Launch} {e : Env} {R : Room} {s : State} {m : MethodId} {args : Array Value} {below : List Frame} {meth : Method} {c0 : Code} {X : MX} {adr : Nat → Nat} {cA : Nat → ClassId} {D : va_G} {rm : Room} {mi : MI} {C : MCall} {Rt : MPost} {Q : State → Prop} (K : mCtx p l R s m args c0 X adr cA D rm mi C) : k_tabIn X mi C Rt (mRW p l e R s m args below meth c0 X adr cA D mi Q) := by
  obtain ⟨hx, hb, hml, hown, hts, hK, hE, hCs, ⟨hSL, hSC⟩, hRf, hRl, hRc, hRsl0, hfr7, hR500⟩ := K
  have hfr : 1 ≤ R.frames := Nat.le_trans (by decide) hfr7
  have hR64 : 64 ≤ R.locals := Nat.le_trans (by decide) hR500
  have hRs : 6 + 1 ≤ R.frames := hfr7
  have hRsl : ∀ k, k ≤ 40 → 8 + (k + 11) + 400 ≤ R.locals := fun k hk => by omega
  intro pc L S h dflt lo hi offs len x off tgt dg h1 h2 ho ht kk ls H locs hl hP hD hS
  exact lv_tableIn hx hb dg h1 h2 ho ht (kk ls H locs hl hP hD hS)
theorem s_iald {p : Program} {l : Launch} {e : Env} {R : Room} {s : State} {m : MethodId} {args : Array Value} {below : List Frame} {meth : Method} {c0 : Code} {X : MX} {adr : Nat → Nat} {cA : Nat → ClassId} {D : va_G} {rm : Room} {mi : MI} {C : MCall} {Rt : MPost} {Q : State → Prop} (K : mCtx p l R s m args c0 X adr cA D rm mi C) : k_iald X mi C Rt (mRW p l e R s m args below meth c0 X adr cA D mi Q) := by
  obtain ⟨hx, hb, hml, hown, hts, hK, hE, hCs, ⟨hSL, hSC⟩, hRf, hRl, hRc, hRsl0, hfr7, hR500⟩ := K
  have hfr : 1 ≤ R.frames := Nat.le_trans (by decide) hfr7
  have hR64 : 64 ≤ R.locals := Nat.le_trans (by decide) hR500
  have hRs : 6 + 1 ≤ R.frames := hfr7
  have hRsl : ∀ k, k ≤ 40 → 8 + (k + 11) + 400 ≤ R.locals := fun k hk => by omega
  intro pc L S h c n i dg sh hin kk ls H locs hl hP hD hS
  exact va_iald hx hb hK hP c 0 (mws_get sh) rfl hin dg (kk ls H locs hl hP hD hS)
theorem s_zald {p : Program} {l : Launch} {e : Env} {R : Room} {s : State} {m : MethodId} {args : Array Value} {below : List Frame} {meth : Method} {c0 : Code} {X : MX} {adr : Nat → Nat} {cA : Nat → ClassId} {D : va_G} {rm : Room} {mi : MI} {C : MCall} {Rt : MPost} {Q : State → Prop} (K : mCtx p l R s m args c0 X adr cA D rm mi C) : k_zald X mi C Rt (mRW p l e R s m args below meth c0 X adr cA D mi Q) := by
  obtain ⟨hx, hb, hml, hown, hts, hK, hE, hCs, ⟨hSL, hSC⟩, hRf, hRl, hRc, hRsl0, hfr7, hR500⟩ := K
  have hfr : 1 ≤ R.frames := Nat.le_trans (by decide) hfr7
  have hR64 : 64 ≤ R.locals := Nat.le_trans (by decide) hR500
  have hRs : 6 + 1 ≤ R.frames := hfr7
  have hRsl : ∀ k, k ≤ 40 → 8 + (k + 11) + 400 ≤ R.locals := fun k hk => by omega
  intro pc L S h c n i dg sh hin kk ls H locs hl hP hD hS
  exact va_zald hx hb hK hP c 2 (mws_get sh) rfl hin dg (kk ls H locs hl hP hD hS)
theorem s_bald {p : Program} {l : Launch} {e : Env} {R : Room} {s : State} {m : MethodId} {args : Array Value} {below : List Frame} {meth : Method} {c0 : Code} {X : MX} {adr : Nat → Nat} {cA : Nat → ClassId} {D : va_G} {rm : Room} {mi : MI} {C : MCall} {Rt : MPost} {Q : State → Prop} (K : mCtx p l R s m args c0 X adr cA D rm mi C) : k_bald X mi C Rt (mRW p l e R s m args below meth c0 X adr cA D mi Q) := by
  obtain ⟨hx, hb, hml, hown, hts, hK, hE, hCs, ⟨hSL, hSC⟩, hRf, hRl, hRc, hRsl0, hfr7, hR500⟩ := K
  have hfr : 1 ≤ R.frames := Nat.le_trans (by decide) hfr7
  have hR64 : 64 ≤ R.locals := Nat.le_trans (by decide) hR500
  have hRs : 6 + 1 ≤ R.frames := hfr7
  have hRsl : ∀ k, k ≤ 40 → 8 + (k + 11) + 400 ≤ R.locals := fun k hk => by omega
  intro pc L S h c n i dg sh hin kk ls H locs hl hP hD hS
  exact va_bald hx hb hK hP c 3 (mws_get sh) rfl hin dg (kk ls H locs hl hP hD hS)
theorem s_lald {p : Program} {l : Launch} {e : Env} {R : Room} {s : State} {m : MethodId} {args : Array Value} {below : List Frame} {meth : Method} {c0 : Code} {X : MX} {adr : Nat → Nat} {cA : Nat → ClassId} {D : va_G} {rm : Room} {mi : MI} {C : MCall} {Rt : MPost} {Q : State → Prop} (K : mCtx p l R s m args c0 X adr cA D rm mi C) : k_lald X mi C Rt (mRW p l e R s m args below meth c0 X adr cA D mi Q) := by
  obtain ⟨hx, hb, hml, hown, hts, hK, hE, hCs, ⟨hSL, hSC⟩, hRf, hRl, hRc, hRsl0, hfr7, hR500⟩ := K
  have hfr : 1 ≤ R.frames := Nat.le_trans (by decide) hfr7
  have hR64 : 64 ≤ R.locals := Nat.le_trans (by decide) hR500
  have hRs : 6 + 1 ≤ R.frames := hfr7
  have hRsl : ∀ k, k ≤ 40 → 8 + (k + 11) + 400 ≤ R.locals := fun k hk => by omega
  intro pc L S h c n i dg sh hin kk ls H locs hl hP hD hS
  exact va_lald hx hb hK hP c 1 (mws_get sh) rfl hin dg (kk ls H locs hl hP hD hS)
theorem s_aald4 {p : Program} {l : Launch} {e : Env} {R : Room} {s : State} {m : MethodId} {args : Array Value} {below : List Frame} {meth : Method} {c0 : Code} {X : MX} {adr : Nat → Nat} {cA : Nat → ClassId} {D : va_G} {rm : Room} {mi : MI} {C : MCall} {Rt : MPost} {Q : State → Prop} (K : mCtx p l R s m args c0 X adr cA D rm mi C) : k_aald4 X mi C Rt (mRW p l e R s m args below meth c0 X adr cA D mi Q) := by
  obtain ⟨hx, hb, hml, hown, hts, hK, hE, hCs, ⟨hSL, hSC⟩, hRf, hRl, hRc, hRsl0, hfr7, hR500⟩ := K
  have hfr : 1 ≤ R.frames := Nat.le_trans (by decide) hfr7
  have hR64 : 64 ≤ R.locals := Nat.le_trans (by decide) hR500
  have hRs : 6 + 1 ≤ R.frames := hfr7
  have hRsl : ∀ k, k ≤ 40 → 8 + (k + 11) + 400 ≤ R.locals := fun k hk => by omega
  intro pc L S h c n i dg sh hin kk ls H locs hl hP hD hS
  exact va_aldq hx hb hK hP c 4 (mws_get sh) rfl hin dg (kk ls H locs hl hP hD hS)
theorem s_aald5 {p : Program} {l : Launch} {e : Env} {R : Room} {s : State} {m : MethodId} {args : Array Value} {below : List Frame} {meth : Method} {c0 : Code} {X : MX} {adr : Nat → Nat} {cA : Nat → ClassId} {D : va_G} {rm : Room} {mi : MI} {C : MCall} {Rt : MPost} {Q : State → Prop} (K : mCtx p l R s m args c0 X adr cA D rm mi C) : k_aald5 X mi C Rt (mRW p l e R s m args below meth c0 X adr cA D mi Q) := by
  obtain ⟨hx, hb, hml, hown, hts, hK, hE, hCs, ⟨hSL, hSC⟩, hRf, hRl, hRc, hRsl0, hfr7, hR500⟩ := K
  have hfr : 1 ≤ R.frames := Nat.le_trans (by decide) hfr7
  have hR64 : 64 ≤ R.locals := Nat.le_trans (by decide) hR500
  have hRs : 6 + 1 ≤ R.frames := hfr7
  have hRsl : ∀ k, k ≤ 40 → 8 + (k + 11) + 400 ≤ R.locals := fun k hk => by omega
  intro pc L S h c n i dg sh hin kk ls H locs hl hP hD hS
  exact va_aldq hx hb hK hP c 5 (mws_get sh) rfl hin dg (kk ls H locs hl hP hD hS)
theorem s_iast {p : Program} {l : Launch} {e : Env} {R : Room} {s : State} {m : MethodId} {args : Array Value} {below : List Frame} {meth : Method} {c0 : Code} {X : MX} {adr : Nat → Nat} {cA : Nat → ClassId} {D : va_G} {rm : Room} {mi : MI} {C : MCall} {Rt : MPost} {Q : State → Prop} (K : mCtx p l R s m args c0 X adr cA D rm mi C) : k_iast X mi C Rt (mRW p l e R s m args below meth c0 X adr cA D mi Q) := by
  obtain ⟨hx, hb, hml, hown, hts, hK, hE, hCs, ⟨hSL, hSC⟩, hRf, hRl, hRc, hRsl0, hfr7, hR500⟩ := K
  have hfr : 1 ≤ R.frames := Nat.le_trans (by decide) hfr7
  have hR64 : 64 ≤ R.locals := Nat.le_trans (by decide) hR500
  have hRs : 6 + 1 ≤ R.frames := hfr7
  have hRsl : ∀ k, k ≤ 40 → 8 + (k + 11) + 400 ≤ R.locals := fun k hk => by omega
  intro pc L S h c n i x dg sh hin kk ls H locs hl hP hD hS
  refine va_iast hx hb hK hP hD hS c 0 (mws_get sh) rfl hin dg (fun H1 locs1 hP1 hD1 hS1 => ?_)
  refine kk ls H1 locs1 hl ?_ ?_ hS1
  · rw [mws_arrI sh (by decide) (by decide)]; exact hP1
  · rw [mws_arrI sh (by decide) (by decide)]; exact hD1
theorem s_zast {p : Program} {l : Launch} {e : Env} {R : Room} {s : State} {m : MethodId} {args : Array Value} {below : List Frame} {meth : Method} {c0 : Code} {X : MX} {adr : Nat → Nat} {cA : Nat → ClassId} {D : va_G} {rm : Room} {mi : MI} {C : MCall} {Rt : MPost} {Q : State → Prop} (K : mCtx p l R s m args c0 X adr cA D rm mi C) : k_zast X mi C Rt (mRW p l e R s m args below meth c0 X adr cA D mi Q) := by
  obtain ⟨hx, hb, hml, hown, hts, hK, hE, hCs, ⟨hSL, hSC⟩, hRf, hRl, hRc, hRsl0, hfr7, hR500⟩ := K
  have hfr : 1 ≤ R.frames := Nat.le_trans (by decide) hfr7
  have hR64 : 64 ≤ R.locals := Nat.le_trans (by decide) hR500
  have hRs : 6 + 1 ≤ R.frames := hfr7
  have hRsl : ∀ k, k ≤ 40 → 8 + (k + 11) + 400 ≤ R.locals := fun k hk => by omega
  intro pc L S h c n i x dg sh hin kk ls H locs hl hP hD hS
  refine va_zast hx hb hK hP hD hS c 2 (mws_get sh) rfl hin dg (fun H1 locs1 hP1 hD1 hS1 => ?_)
  refine kk ls H1 locs1 hl ?_ ?_ hS1
  · rw [mws_arrI sh (by decide) (by decide)]; exact hP1
  · rw [mws_arrI sh (by decide) (by decide)]; exact hD1
theorem s_bast {p : Program} {l : Launch} {e : Env} {R : Room} {s : State} {m : MethodId} {args : Array Value} {below : List Frame} {meth : Method} {c0 : Code} {X : MX} {adr : Nat → Nat} {cA : Nat → ClassId} {D : va_G} {rm : Room} {mi : MI} {C : MCall} {Rt : MPost} {Q : State → Prop} (K : mCtx p l R s m args c0 X adr cA D rm mi C) : k_bast X mi C Rt (mRW p l e R s m args below meth c0 X adr cA D mi Q) := by
  obtain ⟨hx, hb, hml, hown, hts, hK, hE, hCs, ⟨hSL, hSC⟩, hRf, hRl, hRc, hRsl0, hfr7, hR500⟩ := K
  have hfr : 1 ≤ R.frames := Nat.le_trans (by decide) hfr7
  have hR64 : 64 ≤ R.locals := Nat.le_trans (by decide) hR500
  have hRs : 6 + 1 ≤ R.frames := hfr7
  have hRsl : ∀ k, k ≤ 40 → 8 + (k + 11) + 400 ≤ R.locals := fun k hk => by omega
  intro pc L S h c n i x dg sh hin kk ls H locs hl hP hD hS
  refine va_bast hx hb hK hP hD hS c 3 (mws_get sh) rfl hin dg (fun H1 locs1 hP1 hD1 hS1 => ?_)
  refine kk ls H1 locs1 hl ?_ ?_ hS1
  · rw [mws_arrI sh (by decide) (by decide)]; exact hP1
  · rw [mws_arrI sh (by decide) (by decide)]; exact hD1
theorem s_last {p : Program} {l : Launch} {e : Env} {R : Room} {s : State} {m : MethodId} {args : Array Value} {below : List Frame} {meth : Method} {c0 : Code} {X : MX} {adr : Nat → Nat} {cA : Nat → ClassId} {D : va_G} {rm : Room} {mi : MI} {C : MCall} {Rt : MPost} {Q : State → Prop} (K : mCtx p l R s m args c0 X adr cA D rm mi C) : k_last X mi C Rt (mRW p l e R s m args below meth c0 X adr cA D mi Q) := by
  obtain ⟨hx, hb, hml, hown, hts, hK, hE, hCs, ⟨hSL, hSC⟩, hRf, hRl, hRc, hRsl0, hfr7, hR500⟩ := K
  have hfr : 1 ≤ R.frames := Nat.le_trans (by decide) hfr7
  have hR64 : 64 ≤ R.locals := Nat.le_trans (by decide) hR500
  have hRs : 6 + 1 ≤ R.frames := hfr7
  have hRsl : ∀ k, k ≤ 40 → 8 + (k + 11) + 400 ≤ R.locals := fun k hk => by omega
  intro pc L S h c n i x dg sh hin kk ls H locs hl hP hD hS
  refine va_last hx hb hK hP hD hS c 1 (mws_get sh) rfl hin dg (fun H1 locs1 hP1 hD1 hS1 => ?_)
  refine kk ls H1 locs1 hl ?_ ?_ hS1
  · rw [mws_arrJ sh]; exact hP1
  · rw [mws_arrJ sh]; exact hD1
theorem s_alen {p : Program} {l : Launch} {e : Env} {R : Room} {s : State} {m : MethodId} {args : Array Value} {below : List Frame} {meth : Method} {c0 : Code} {X : MX} {adr : Nat → Nat} {cA : Nat → ClassId} {D : va_G} {rm : Room} {mi : MI} {C : MCall} {Rt : MPost} {Q : State → Prop} (K : mCtx p l R s m args c0 X adr cA D rm mi C) : k_alen X mi C Rt (mRW p l e R s m args below meth c0 X adr cA D mi Q) := by
  obtain ⟨hx, hb, hml, hown, hts, hK, hE, hCs, ⟨hSL, hSC⟩, hRf, hRl, hRc, hRsl0, hfr7, hR500⟩ := K
  have hfr : 1 ≤ R.frames := Nat.le_trans (by decide) hfr7
  have hR64 : 64 ≤ R.locals := Nat.le_trans (by decide) hR500
  have hRs : 6 + 1 ≤ R.frames := hfr7
  have hRsl : ∀ k, k ≤ 40 → 8 + (k + 11) + 400 ≤ R.locals := fun k hk => by omega
  intro pc L S h c ek n v dg sh hek hv kk ls H locs hl hP hD hS
  obtain ⟨ty, ht⟩ := mty_get (cA := cA) hek
  obtain ⟨xx, hxx⟩ := mcell_len (X := X) (adr := adr) (cA := cA) (h := h) (c := c) (ek := ek) (n := n)
  exact va_alen (x := (n, xx)) hx hb hK hP c ek ((mws_get sh).trans (by rw [hxx])) ht hv dg (kk ls H locs hl hP hD hS)
theorem s_getI {p : Program} {l : Launch} {e : Env} {R : Room} {s : State} {m : MethodId} {args : Array Value} {below : List Frame} {meth : Method} {c0 : Code} {X : MX} {adr : Nat → Nat} {cA : Nat → ClassId} {D : va_G} {rm : Room} {mi : MI} {C : MCall} {Rt : MPost} {Q : State → Prop} (K : mCtx p l R s m args c0 X adr cA D rm mi C) : k_getI X mi C Rt (mRW p l e R s m args below meth c0 X adr cA D mi Q) := by
  obtain ⟨hx, hb, hml, hown, hts, hK, hE, hCs, ⟨hSL, hSC⟩, hRf, hRl, hRc, hRsl0, hfr7, hR500⟩ := K
  have hfr : 1 ≤ R.frames := Nat.le_trans (by decide) hfr7
  have hR64 : 64 ≤ R.locals := Nat.le_trans (by decide) hR500
  have hRs : 6 + 1 ≤ R.frames := hfr7
  have hRsl : ∀ k, k ≤ 40 → 8 + (k + 11) + 400 ≤ R.locals := fun k hk => by omega
  intro pc L S h idx ci k c ks dg lk sh hk kk ls H locs hl hP hD hS
  obtain ⟨C, T, N, hc, hkN, hlk⟩ := lk
  exact va_get hx hb hts (fun w hw => mcl_in hc w hw) hown hK hP c (mws_get sh) hc k hkN (hts _ hlk) (fun _ h9 => h9) (mfs_get hk) dg (kk ls H locs hl hP hD hS)
theorem s_getJ {p : Program} {l : Launch} {e : Env} {R : Room} {s : State} {m : MethodId} {args : Array Value} {below : List Frame} {meth : Method} {c0 : Code} {X : MX} {adr : Nat → Nat} {cA : Nat → ClassId} {D : va_G} {rm : Room} {mi : MI} {C : MCall} {Rt : MPost} {Q : State → Prop} (K : mCtx p l R s m args c0 X adr cA D rm mi C) : k_getJ X mi C Rt (mRW p l e R s m args below meth c0 X adr cA D mi Q) := by
  obtain ⟨hx, hb, hml, hown, hts, hK, hE, hCs, ⟨hSL, hSC⟩, hRf, hRl, hRc, hRsl0, hfr7, hR500⟩ := K
  have hfr : 1 ≤ R.frames := Nat.le_trans (by decide) hfr7
  have hR64 : 64 ≤ R.locals := Nat.le_trans (by decide) hR500
  have hRs : 6 + 1 ≤ R.frames := hfr7
  have hRsl : ∀ k, k ≤ 40 → 8 + (k + 11) + 400 ≤ R.locals := fun k hk => by omega
  intro pc L S h idx ci k c ks dg lk sh hk kk ls H locs hl hP hD hS
  obtain ⟨C, T, N, hc, hkN, hlk⟩ := lk
  exact va_get hx hb hts (fun w hw => mcl_in hc w hw) hown hK hP c (mws_get sh) hc k hkN (hts _ hlk) (fun _ h9 => h9) (mfs_get hk) dg (kk ls H locs hl hP hD hS)
theorem s_getR {p : Program} {l : Launch} {e : Env} {R : Room} {s : State} {m : MethodId} {args : Array Value} {below : List Frame} {meth : Method} {c0 : Code} {X : MX} {adr : Nat → Nat} {cA : Nat → ClassId} {D : va_G} {rm : Room} {mi : MI} {C : MCall} {Rt : MPost} {Q : State → Prop} (K : mCtx p l R s m args c0 X adr cA D rm mi C) : k_getR X mi C Rt (mRW p l e R s m args below meth c0 X adr cA D mi Q) := by
  obtain ⟨hx, hb, hml, hown, hts, hK, hE, hCs, ⟨hSL, hSC⟩, hRf, hRl, hRc, hRsl0, hfr7, hR500⟩ := K
  have hfr : 1 ≤ R.frames := Nat.le_trans (by decide) hfr7
  have hR64 : 64 ≤ R.locals := Nat.le_trans (by decide) hR500
  have hRs : 6 + 1 ≤ R.frames := hfr7
  have hRsl : ∀ k, k ≤ 40 → 8 + (k + 11) + 400 ≤ R.locals := fun k hk => by omega
  intro pc L S h idx ci k c ks dg lk sh hk kk ls H locs hl hP hD hS
  obtain ⟨C, T, N, hc, hkN, hlk⟩ := lk
  exact va_get hx hb hts (fun w hw => mcl_in hc w hw) hown hK hP c (mws_get sh) hc k hkN (hts _ hlk) (fun _ h9 => h9) (mfs_get hk) dg (kk ls H locs hl hP hD hS)
theorem s_getY {p : Program} {l : Launch} {e : Env} {R : Room} {s : State} {m : MethodId} {args : Array Value} {below : List Frame} {meth : Method} {c0 : Code} {X : MX} {adr : Nat → Nat} {cA : Nat → ClassId} {D : va_G} {rm : Room} {mi : MI} {C : MCall} {Rt : MPost} {Q : State → Prop} (K : mCtx p l R s m args c0 X adr cA D rm mi C) : k_getY X mi C Rt (mRW p l e R s m args below meth c0 X adr cA D mi Q) := by
  obtain ⟨hx, hb, hml, hown, hts, hK, hE, hCs, ⟨hSL, hSC⟩, hRf, hRl, hRc, hRsl0, hfr7, hR500⟩ := K
  have hfr : 1 ≤ R.frames := Nat.le_trans (by decide) hfr7
  have hR64 : 64 ≤ R.locals := Nat.le_trans (by decide) hR500
  have hRs : 6 + 1 ≤ R.frames := hfr7
  have hRsl : ∀ k, k ≤ 40 → 8 + (k + 11) + 400 ≤ R.locals := fun k hk => by omega
  intro pc L S h idx ci k c ks dg lk sh hk kk ls H locs hl hP hD hS
  obtain ⟨C, T, N, hc, hkN, hlk⟩ := lk
  exact va_get hx hb hts (fun w hw => mcl_in hc w hw) hown hK hP c (mws_get sh) hc k hkN (hts _ hlk) (fun _ h9 => h9) (mfs_get hk) dg (kk ls H locs hl hP hD hS)
theorem s_putI {p : Program} {l : Launch} {e : Env} {R : Room} {s : State} {m : MethodId} {args : Array Value} {below : List Frame} {meth : Method} {c0 : Code} {X : MX} {adr : Nat → Nat} {cA : Nat → ClassId} {D : va_G} {rm : Room} {mi : MI} {C : MCall} {Rt : MPost} {Q : State → Prop} (K : mCtx p l R s m args c0 X adr cA D rm mi C) : k_putI X mi C Rt (mRW p l e R s m args below meth c0 X adr cA D mi Q) := by
  obtain ⟨hx, hb, hml, hown, hts, hK, hE, hCs, ⟨hSL, hSC⟩, hRf, hRl, hRc, hRsl0, hfr7, hR500⟩ := K
  have hfr : 1 ≤ R.frames := Nat.le_trans (by decide) hfr7
  have hR64 : 64 ≤ R.locals := Nat.le_trans (by decide) hR500
  have hRs : 6 + 1 ≤ R.frames := hfr7
  have hRsl : ∀ k, k ≤ 40 → 8 + (k + 11) + 400 ≤ R.locals := fun k hk => by omega
  intro pc L S h idx ci k c ks ty v dg lk sh hk hn hf kk ls H locs hl hP hD hS
  obtain ⟨C, T, N, hc, hkN, hlk, hfin, hpd⟩ := lk
  obtain ⟨ty0, hty, hnm⟩ := mcl_ty hc
  refine va_put hx hb hts (fun w hw => mcl_in hc w hw) ty0 hty hnm hown hK hP hD hS c (mws_get sh) hc k hkN (hts _ hlk) (fun _ h9 => h9) hfin hpd hn hf (mfs_len hk) dg (fun H1 locs1 hP1 hD1 hS1 => ?_)
  refine kk ls H1 locs1 hl ?_ ?_ hS1
  · rw [mws_objI sh hk]; exact hP1
  · rw [mws_objI sh hk]; exact hD1
theorem s_putJ {p : Program} {l : Launch} {e : Env} {R : Room} {s : State} {m : MethodId} {args : Array Value} {below : List Frame} {meth : Method} {c0 : Code} {X : MX} {adr : Nat → Nat} {cA : Nat → ClassId} {D : va_G} {rm : Room} {mi : MI} {C : MCall} {Rt : MPost} {Q : State → Prop} (K : mCtx p l R s m args c0 X adr cA D rm mi C) : k_putJ X mi C Rt (mRW p l e R s m args below meth c0 X adr cA D mi Q) := by
  obtain ⟨hx, hb, hml, hown, hts, hK, hE, hCs, ⟨hSL, hSC⟩, hRf, hRl, hRc, hRsl0, hfr7, hR500⟩ := K
  have hfr : 1 ≤ R.frames := Nat.le_trans (by decide) hfr7
  have hR64 : 64 ≤ R.locals := Nat.le_trans (by decide) hR500
  have hRs : 6 + 1 ≤ R.frames := hfr7
  have hRsl : ∀ k, k ≤ 40 → 8 + (k + 11) + 400 ≤ R.locals := fun k hk => by omega
  intro pc L S h idx ci k c ks v dg lk sh hk kk ls H locs hl hP hD hS
  obtain ⟨C, T, N, hc, hkN, hlk, hfin, hpd⟩ := lk
  obtain ⟨ty0, hty, hnm⟩ := mcl_ty hc
  refine va_put hx hb hts (fun w hw => mcl_in hc w hw) ty0 hty hnm hown hK hP hD hS c (mws_get sh) hc k hkN (hts _ hlk) (fun _ h9 => h9) hfin hpd rfl rfl (mfs_len hk) dg (fun H1 locs1 hP1 hD1 hS1 => ?_)
  refine kk ls H1 locs1 hl ?_ ?_ hS1
  · rw [mws_objJ sh hk]; exact hP1
  · rw [mws_objJ sh hk]; exact hD1
theorem s_putY {p : Program} {l : Launch} {e : Env} {R : Room} {s : State} {m : MethodId} {args : Array Value} {below : List Frame} {meth : Method} {c0 : Code} {X : MX} {adr : Nat → Nat} {cA : Nat → ClassId} {D : va_G} {rm : Room} {mi : MI} {C : MCall} {Rt : MPost} {Q : State → Prop} (K : mCtx p l R s m args c0 X adr cA D rm mi C) : k_putY X mi C Rt (mRW p l e R s m args below meth c0 X adr cA D mi Q) := by
  obtain ⟨hx, hb, hml, hown, hts, hK, hE, hCs, ⟨hSL, hSC⟩, hRf, hRl, hRc, hRsl0, hfr7, hR500⟩ := K
  have hfr : 1 ≤ R.frames := Nat.le_trans (by decide) hfr7
  have hR64 : 64 ≤ R.locals := Nat.le_trans (by decide) hR500
  have hRs : 6 + 1 ≤ R.frames := hfr7
  have hRsl : ∀ k, k ≤ 40 → 8 + (k + 11) + 400 ≤ R.locals := fun k hk => by omega
  intro pc L S h idx ci k c a ks ty dg lk sh hk ha hn hf kk ls H locs hl hP hD hS
  obtain ⟨C, T, N, hc, hkN, hlk, hfin, hpd⟩ := lk
  obtain ⟨ty0, hty, hnm⟩ := mcl_ty hc
  refine va_put hx hb hts (fun w hw => mcl_in hc w hw) ty0 hty hnm hown hK hP hD hS c (mws_get sh) hc k hkN (hts _ hlk) (fun _ h9 => h9) hfin hpd (hn _) (hf _) (mfs_len hk) dg (fun H1 locs1 hP1 hD1 hS1 => ?_)
  refine kk ls H1 locs1 hl ?_ ?_ hS1
  · rw [mws_objY sh hk ha]; exact hP1
  · rw [mws_objY sh hk ha]; exact hD1
theorem s_mmax {p : Program} {l : Launch} {e : Env} {R : Room} {s : State} {m : MethodId} {args : Array Value} {below : List Frame} {meth : Method} {c0 : Code} {X : MX} {adr : Nat → Nat} {cA : Nat → ClassId} {D : va_G} {rm : Room} {mi : MI} {C : MCall} {Rt : MPost} {Q : State → Prop} (K : mCtx p l R s m args c0 X adr cA D rm mi C) : k_mmax X mi C Rt (mRW p l e R s m args below meth c0 X adr cA D mi Q) := by
  obtain ⟨hx, hb, hml, hown, hts, hK, hE, hCs, ⟨hSL, hSC⟩, hRf, hRl, hRc, hRsl0, hfr7, hR500⟩ := K
  have hfr : 1 ≤ R.frames := Nat.le_trans (by decide) hfr7
  have hR64 : 64 ≤ R.locals := Nat.le_trans (by decide) hR500
  have hRs : 6 + 1 ≤ R.frames := hfr7
  have hRsl : ∀ k, k ≤ 40 → 8 + (k + 11) + 400 ≤ R.locals := fun k hk => by omega
  intro pc L S h idx x y dg lk hst hin hcd hw kk ls H locs hl hP hD hS
  exact va_mmax hx hb (hml.trans hl.1.symm) hown (hts _ lk) (hts _ hst) (hts _ hin) (hts _ hcd) hfr (by rw [mcat]; exact Nat.le_trans (Nat.add_le_add_right hw _) (Nat.le_trans (by decide) hR64)) (Nat.zero_le _) (Nat.zero_le _) dg (kk ls H locs hl hP hD hS)
theorem s_mmin {p : Program} {l : Launch} {e : Env} {R : Room} {s : State} {m : MethodId} {args : Array Value} {below : List Frame} {meth : Method} {c0 : Code} {X : MX} {adr : Nat → Nat} {cA : Nat → ClassId} {D : va_G} {rm : Room} {mi : MI} {C : MCall} {Rt : MPost} {Q : State → Prop} (K : mCtx p l R s m args c0 X adr cA D rm mi C) : k_mmin X mi C Rt (mRW p l e R s m args below meth c0 X adr cA D mi Q) := by
  obtain ⟨hx, hb, hml, hown, hts, hK, hE, hCs, ⟨hSL, hSC⟩, hRf, hRl, hRc, hRsl0, hfr7, hR500⟩ := K
  have hfr : 1 ≤ R.frames := Nat.le_trans (by decide) hfr7
  have hR64 : 64 ≤ R.locals := Nat.le_trans (by decide) hR500
  have hRs : 6 + 1 ≤ R.frames := hfr7
  have hRsl : ∀ k, k ≤ 40 → 8 + (k + 11) + 400 ≤ R.locals := fun k hk => by omega
  intro pc L S h idx x y dg lk hst hin hcd hw kk ls H locs hl hP hD hS
  exact va_mmin hx hb (hml.trans hl.1.symm) hown (hts _ lk) (hts _ hst) (hts _ hin) (hts _ hcd) hfr (by rw [mcat]; exact Nat.le_trans (Nat.add_le_add_right hw _) (Nat.le_trans (by decide) hR64)) (Nat.zero_le _) (Nat.zero_le _) dg (kk ls H locs hl hP hD hS)
theorem s_mmaxl {p : Program} {l : Launch} {e : Env} {R : Room} {s : State} {m : MethodId} {args : Array Value} {below : List Frame} {meth : Method} {c0 : Code} {X : MX} {adr : Nat → Nat} {cA : Nat → ClassId} {D : va_G} {rm : Room} {mi : MI} {C : MCall} {Rt : MPost} {Q : State → Prop} (K : mCtx p l R s m args c0 X adr cA D rm mi C) : k_mmaxl X mi C Rt (mRW p l e R s m args below meth c0 X adr cA D mi Q) := by
  obtain ⟨hx, hb, hml, hown, hts, hK, hE, hCs, ⟨hSL, hSC⟩, hRf, hRl, hRc, hRsl0, hfr7, hR500⟩ := K
  have hfr : 1 ≤ R.frames := Nat.le_trans (by decide) hfr7
  have hR64 : 64 ≤ R.locals := Nat.le_trans (by decide) hR500
  have hRs : 6 + 1 ≤ R.frames := hfr7
  have hRsl : ∀ k, k ≤ 40 → 8 + (k + 11) + 400 ≤ R.locals := fun k hk => by omega
  intro pc L S h idx x y dg lk hst hin hcd hw kk ls H locs hl hP hD hS
  exact va_mmax_long hx hb (hml.trans hl.1.symm) hown (hts _ lk) (hts _ hst) (hts _ hin) (hts _ hcd) hfr (by rw [mcat]; exact Nat.le_trans (Nat.add_le_add_right hw _) (Nat.le_trans (by decide) hR64)) (Nat.zero_le _) (Nat.zero_le _) dg (kk ls H locs hl hP hD hS)
theorem s_mabs {p : Program} {l : Launch} {e : Env} {R : Room} {s : State} {m : MethodId} {args : Array Value} {below : List Frame} {meth : Method} {c0 : Code} {X : MX} {adr : Nat → Nat} {cA : Nat → ClassId} {D : va_G} {rm : Room} {mi : MI} {C : MCall} {Rt : MPost} {Q : State → Prop} (K : mCtx p l R s m args c0 X adr cA D rm mi C) : k_mabs X mi C Rt (mRW p l e R s m args below meth c0 X adr cA D mi Q) := by
  obtain ⟨hx, hb, hml, hown, hts, hK, hE, hCs, ⟨hSL, hSC⟩, hRf, hRl, hRc, hRsl0, hfr7, hR500⟩ := K
  have hfr : 1 ≤ R.frames := Nat.le_trans (by decide) hfr7
  have hR64 : 64 ≤ R.locals := Nat.le_trans (by decide) hR500
  have hRs : 6 + 1 ≤ R.frames := hfr7
  have hRsl : ∀ k, k ≤ 40 → 8 + (k + 11) + 400 ≤ R.locals := fun k hk => by omega
  intro pc L S h idx x dg lk hst hin hcd hw kk ls H locs hl hP hD hS
  exact va_mabs hx hb (hml.trans hl.1.symm) hown (hts _ lk) (hts _ hst) (hts _ hin) (hts _ hcd) hfr (by rw [mcat]; exact Nat.le_trans (Nat.add_le_add_right hw _) (Nat.le_trans (by decide) hR64)) (Nat.zero_le _) (Nat.zero_le _) dg (kk ls H locs hl hP hD hS)
theorem s_acpy {p : Program} {l : Launch} {e : Env} {R : Room} {s : State} {m : MethodId} {args : Array Value} {below : List Frame} {meth : Method} {c0 : Code} {X : MX} {adr : Nat → Nat} {cA : Nat → ClassId} {D : va_G} {rm : Room} {mi : MI} {C : MCall} {Rt : MPost} {Q : State → Prop} (K : mCtx p l R s m args c0 X adr cA D rm mi C) : k_acpy X mi C Rt (mRW p l e R s m args below meth c0 X adr cA D mi Q) := by
  obtain ⟨hx, hb, hml, hown, hts, hK, hE, hCs, ⟨hSL, hSC⟩, hRf, hRl, hRc, hRsl0, hfr7, hR500⟩ := K
  have hfr : 1 ≤ R.frames := Nat.le_trans (by decide) hfr7
  have hR64 : 64 ≤ R.locals := Nat.le_trans (by decide) hR500
  have hRs : 6 + 1 ≤ R.frames := hfr7
  have hRsl : ∀ k, k ≤ 40 → 8 + (k + 11) + 400 ≤ R.locals := fun k hk => by omega
  intro pc L S h idx c0 c1 n0 n1 sp dp n dg lk hnt hst hin sh0 sh1 h1 h2 h3 h4 h5 hw kk ls H locs hl hP hD hS
  refine va_copyi hx hb (hml.trans hl.1.symm) hown (hts _ lk) (hts _ hnt) (hts _ hst) (hts _ hin) hK hP hD hS c0 c1 0 0 (ty := .int) (mws_get sh0) (mws_get sh1) rfl rfl rfl h1 h2 h3 h4 h5 (fun _ _ => rfl) hfr (by rw [mcat]; exact Nat.le_trans (Nat.add_le_add_right hw _) (Nat.le_trans (by decide) hR64)) dg (fun H1 locs1 hP1 hD1 hS1 => ?_)
  refine kk ls H1 locs1 hl ?_ ?_ hS1
  · rw [mws_arrW sh1]; exact hP1
  · rw [mws_arrW sh1]; exact hD1
theorem s_callVi {p : Program} {l : Launch} {e : Env} {R : Room} {s : State} {m : MethodId} {args : Array Value} {below : List Frame} {meth : Method} {c0 : Code} {X : MX} {adr : Nat → Nat} {cA : Nat → ClassId} {D : va_G} {rm : Room} {mi : MI} {C : MCall} {Rt : MPost} {Q : State → Prop} (K : mCtx p l R s m args c0 X adr cA D rm mi C) : k_callVi X mi C Rt (mRW p l e R s m args below meth c0 X adr cA D mi Q) := by
  obtain ⟨hx, hb, hml, hown, hts, hK, hE, hCs, ⟨hSL, hSC⟩, hRf, hRl, hRc, hRsl0, hfr7, hR500⟩ := K
  have hfr : 1 ≤ R.frames := Nat.le_trans (by decide) hfr7
  have hR64 : 64 ≤ R.locals := Nat.le_trans (by decide) hR500
  have hRs : 6 + 1 ≤ R.frames := hfr7
  have hRsl : ∀ k, k ≤ 40 → 8 + (k + 11) + 400 ≤ R.locals := fun k hk => by omega
  intro pc L S h i idx n c ci ks as P dg lk ok hn sh hci hr hw hC kk ls H locs hl hP hD hS
  have hM := mMet_i hr (hCs _ _ _ _ hC ok.1 H.size)
  refine W.eq (g2 := F0 m pc ls ((as.map (mtr adr)).reverse ++ .ref (adr c) :: S.map (mtr adr))) (by first | (rw [List.map_append, List.map_reverse]; done) | (rw [List.map_append, List.map_reverse]; rfl)) ?_
  refine va_calli (va_runV (nL := mi.2.2.1) (own := mi.1.cls) (C := i.1.cls) (As := as.map (mtr adr)) (rest := S.map (mtr adr)) ⟨hx, hb, hml, hown, hts⟩ hM (cwV n hts (mwV mi lk ok) rfl hRc hRsl0 ⟨rfl, ok.2.1⟩ ⟨hRf, mroom hRl ok.1⟩) ⟨mPre_blind, mrecv hK hP hci (mws_get sh), fun U hU hWa => ⟨rfl, mPre_at hU hWa hK hP hD hE hS⟩⟩ rfl (by rw [List.length_map]; exact hn) hl.1 rfl (lv_room (by rw [mcat]; exact hw)) dg ⟨Nat.zero_le _, Nat.zero_le _⟩) hS (fun q _ h => mA_le hS q h) (fun q h => mA_le hS q h) (fun r u t H1 locs1 ht hvm hw1 hB hz1 hk1 hS1 => ?_)
  obtain ⟨hP1, hK1, hD1⟩ := hB
  rw [ht] at hP1
  exact kk r u hw1 ls H1 locs1 hl hP1 (hD1.weaken (fun q _ _ h => mA_le hS _ h)) hS1
theorem s_callVl {p : Program} {l : Launch} {e : Env} {R : Room} {s : State} {m : MethodId} {args : Array Value} {below : List Frame} {meth : Method} {c0 : Code} {X : MX} {adr : Nat → Nat} {cA : Nat → ClassId} {D : va_G} {rm : Room} {mi : MI} {C : MCall} {Rt : MPost} {Q : State → Prop} (K : mCtx p l R s m args c0 X adr cA D rm mi C) : k_callVl X mi C Rt (mRW p l e R s m args below meth c0 X adr cA D mi Q) := by
  obtain ⟨hx, hb, hml, hown, hts, hK, hE, hCs, ⟨hSL, hSC⟩, hRf, hRl, hRc, hRsl0, hfr7, hR500⟩ := K
  have hfr : 1 ≤ R.frames := Nat.le_trans (by decide) hfr7
  have hR64 : 64 ≤ R.locals := Nat.le_trans (by decide) hR500
  have hRs : 6 + 1 ≤ R.frames := hfr7
  have hRsl : ∀ k, k ≤ 40 → 8 + (k + 11) + 400 ≤ R.locals := fun k hk => by omega
  intro pc L S h i idx n c ci ks as P dg lk ok hn sh hci hr hw hC kk ls H locs hl hP hD hS
  have hM := mMet_l hr (hCs _ _ _ _ hC ok.1 H.size)
  refine W.eq (g2 := F0 m pc ls ((as.map (mtr adr)).reverse ++ .ref (adr c) :: S.map (mtr adr))) (by first | (rw [List.map_append, List.map_reverse]; done) | (rw [List.map_append, List.map_reverse]; rfl)) ?_
  refine va_calll (va_runV (nL := mi.2.2.1) (own := mi.1.cls) (C := i.1.cls) (As := as.map (mtr adr)) (rest := S.map (mtr adr)) ⟨hx, hb, hml, hown, hts⟩ hM (cwV n hts (mwV mi lk ok) rfl hRc hRsl0 ⟨rfl, ok.2.1⟩ ⟨hRf, mroom hRl ok.1⟩) ⟨mPre_blind, mrecv hK hP hci (mws_get sh), fun U hU hWa => ⟨rfl, mPre_at hU hWa hK hP hD hE hS⟩⟩ rfl (by rw [List.length_map]; exact hn) hl.1 rfl (lv_room (by rw [mcat]; exact hw)) dg ⟨Nat.zero_le _, Nat.zero_le _⟩) hS (fun q _ h => mA_le hS q h) (fun q h => mA_le hS q h) (fun r u t H1 locs1 ht hvm hw1 hB hz1 hk1 hS1 => ?_)
  obtain ⟨hP1, hK1, hD1⟩ := hB
  rw [ht] at hP1
  exact kk r u hw1 ls H1 locs1 hl hP1 (hD1.weaken (fun q _ _ h => mA_le hS _ h)) hS1
theorem s_callVv {p : Program} {l : Launch} {e : Env} {R : Room} {s : State} {m : MethodId} {args : Array Value} {below : List Frame} {meth : Method} {c0 : Code} {X : MX} {adr : Nat → Nat} {cA : Nat → ClassId} {D : va_G} {rm : Room} {mi : MI} {C : MCall} {Rt : MPost} {Q : State → Prop} (K : mCtx p l R s m args c0 X adr cA D rm mi C) : k_callVv X mi C Rt (mRW p l e R s m args below meth c0 X adr cA D mi Q) := by
  obtain ⟨hx, hb, hml, hown, hts, hK, hE, hCs, ⟨hSL, hSC⟩, hRf, hRl, hRc, hRsl0, hfr7, hR500⟩ := K
  have hfr : 1 ≤ R.frames := Nat.le_trans (by decide) hfr7
  have hR64 : 64 ≤ R.locals := Nat.le_trans (by decide) hR500
  have hRs : 6 + 1 ≤ R.frames := hfr7
  have hRsl : ∀ k, k ≤ 40 → 8 + (k + 11) + 400 ≤ R.locals := fun k hk => by omega
  intro pc L S h i idx n c ci ks as P dg lk ok hn sh hci hr hw hC kk ls H locs hl hP hD hS
  have hM := mMet_v hr (hCs _ _ _ _ hC ok.1 H.size)
  refine W.eq (g2 := F0 m pc ls ((as.map (mtr adr)).reverse ++ .ref (adr c) :: S.map (mtr adr))) (by first | (rw [List.map_append, List.map_reverse]; done) | (rw [List.map_append, List.map_reverse]; rfl)) ?_
  refine va_callv (va_runV (nL := mi.2.2.1) (own := mi.1.cls) (C := i.1.cls) (As := as.map (mtr adr)) (rest := S.map (mtr adr)) ⟨hx, hb, hml, hown, hts⟩ hM (cwV n hts (mwV mi lk ok) rfl hRc hRsl0 ⟨rfl, ok.2.1⟩ ⟨hRf, mroom hRl ok.1⟩) ⟨mPre_blind, mrecv hK hP hci (mws_get sh), fun U hU hWa => ⟨rfl, mPre_at hU hWa hK hP hD hE hS⟩⟩ rfl (by rw [List.length_map]; exact hn) hl.1 rfl (lv_room (by rw [mcat]; exact hw)) dg ⟨Nat.zero_le _, Nat.zero_le _⟩) hS (fun q _ h => mA_le hS q h) (fun q h => mA_le hS q h) (fun u t H1 locs1 ht hvm hw1 hB hz1 hk1 hS1 => ?_)
  obtain ⟨hP1, hK1, hD1⟩ := hB
  rw [ht] at hP1
  exact kk u hw1 ls H1 locs1 hl hP1 (hD1.weaken (fun q _ _ h => mA_le hS _ h)) hS1
theorem s_callSi {p : Program} {l : Launch} {e : Env} {R : Room} {s : State} {m : MethodId} {args : Array Value} {below : List Frame} {meth : Method} {c0 : Code} {X : MX} {adr : Nat → Nat} {cA : Nat → ClassId} {D : va_G} {rm : Room} {mi : MI} {C : MCall} {Rt : MPost} {Q : State → Prop} (K : mCtx p l R s m args c0 X adr cA D rm mi C) : k_callSi X mi C Rt (mRW p l e R s m args below meth c0 X adr cA D mi Q) := by
  obtain ⟨hx, hb, hml, hown, hts, hK, hE, hCs, ⟨hSL, hSC⟩, hRf, hRl, hRc, hRsl0, hfr7, hR500⟩ := K
  have hfr : 1 ≤ R.frames := Nat.le_trans (by decide) hfr7
  have hR64 : 64 ≤ R.locals := Nat.le_trans (by decide) hR500
  have hRs : 6 + 1 ≤ R.frames := hfr7
  have hRsl : ∀ k, k ≤ 40 → 8 + (k + 11) + 400 ≤ R.locals := fun k hk => by omega
  intro pc L S h i idx n as P dg lk ok hn hr hw hC kk ls H locs hl hP hD hS
  have hM := mMet_i hr (hCs _ _ _ _ hC ok.1 H.size)
  refine W.eq (g2 := F0 m pc ls ((as.map (mtr adr)).reverse ++ S.map (mtr adr))) (by first | (rw [List.map_append, List.map_reverse]; done) | (rw [List.map_append, List.map_reverse]; rfl)) ?_
  refine va_calli (va_runS (nL := mi.2.2.1) (own := mi.1.cls) (As := as.map (mtr adr)) (rest := S.map (mtr adr)) ⟨hx, hb, hml, hown, hts⟩ hM (va_cwS n hts (mwS mi lk ok) rfl hRc hRsl0 ok.2.1 ⟨hRf, mroom hRl ok.1⟩) ⟨mPre_blind, fun U hU hWa => ⟨rfl, mPre_at hU hWa hK hP hD hE hS⟩⟩ rfl (by rw [List.length_map]; exact hn) hl.1 rfl (lv_room (by rw [mcat]; exact hw)) dg ⟨Nat.zero_le _, Nat.zero_le _⟩) hS (fun q _ h => mA_le hS q h) (fun q h => mA_le hS q h) (fun r u t H1 locs1 ht hvm hw1 hB hz1 hk1 hS1 => ?_)
  obtain ⟨hP1, hK1, hD1⟩ := hB
  rw [ht] at hP1
  exact kk r u hw1 ls H1 locs1 hl hP1 (hD1.weaken (fun q _ _ h => mA_le hS _ h)) hS1
theorem s_callSl {p : Program} {l : Launch} {e : Env} {R : Room} {s : State} {m : MethodId} {args : Array Value} {below : List Frame} {meth : Method} {c0 : Code} {X : MX} {adr : Nat → Nat} {cA : Nat → ClassId} {D : va_G} {rm : Room} {mi : MI} {C : MCall} {Rt : MPost} {Q : State → Prop} (K : mCtx p l R s m args c0 X adr cA D rm mi C) : k_callSl X mi C Rt (mRW p l e R s m args below meth c0 X adr cA D mi Q) := by
  obtain ⟨hx, hb, hml, hown, hts, hK, hE, hCs, ⟨hSL, hSC⟩, hRf, hRl, hRc, hRsl0, hfr7, hR500⟩ := K
  have hfr : 1 ≤ R.frames := Nat.le_trans (by decide) hfr7
  have hR64 : 64 ≤ R.locals := Nat.le_trans (by decide) hR500
  have hRs : 6 + 1 ≤ R.frames := hfr7
  have hRsl : ∀ k, k ≤ 40 → 8 + (k + 11) + 400 ≤ R.locals := fun k hk => by omega
  intro pc L S h i idx n as P dg lk ok hn hr hw hC kk ls H locs hl hP hD hS
  have hM := mMet_l hr (hCs _ _ _ _ hC ok.1 H.size)
  refine W.eq (g2 := F0 m pc ls ((as.map (mtr adr)).reverse ++ S.map (mtr adr))) (by first | (rw [List.map_append, List.map_reverse]; done) | (rw [List.map_append, List.map_reverse]; rfl)) ?_
  refine va_calll (va_runS (nL := mi.2.2.1) (own := mi.1.cls) (As := as.map (mtr adr)) (rest := S.map (mtr adr)) ⟨hx, hb, hml, hown, hts⟩ hM (va_cwS n hts (mwS mi lk ok) rfl hRc hRsl0 ok.2.1 ⟨hRf, mroom hRl ok.1⟩) ⟨mPre_blind, fun U hU hWa => ⟨rfl, mPre_at hU hWa hK hP hD hE hS⟩⟩ rfl (by rw [List.length_map]; exact hn) hl.1 rfl (lv_room (by rw [mcat]; exact hw)) dg ⟨Nat.zero_le _, Nat.zero_le _⟩) hS (fun q _ h => mA_le hS q h) (fun q h => mA_le hS q h) (fun r u t H1 locs1 ht hvm hw1 hB hz1 hk1 hS1 => ?_)
  obtain ⟨hP1, hK1, hD1⟩ := hB
  rw [ht] at hP1
  exact kk r u hw1 ls H1 locs1 hl hP1 (hD1.weaken (fun q _ _ h => mA_le hS _ h)) hS1
theorem s_callSv {p : Program} {l : Launch} {e : Env} {R : Room} {s : State} {m : MethodId} {args : Array Value} {below : List Frame} {meth : Method} {c0 : Code} {X : MX} {adr : Nat → Nat} {cA : Nat → ClassId} {D : va_G} {rm : Room} {mi : MI} {C : MCall} {Rt : MPost} {Q : State → Prop} (K : mCtx p l R s m args c0 X adr cA D rm mi C) : k_callSv X mi C Rt (mRW p l e R s m args below meth c0 X adr cA D mi Q) := by
  obtain ⟨hx, hb, hml, hown, hts, hK, hE, hCs, ⟨hSL, hSC⟩, hRf, hRl, hRc, hRsl0, hfr7, hR500⟩ := K
  have hfr : 1 ≤ R.frames := Nat.le_trans (by decide) hfr7
  have hR64 : 64 ≤ R.locals := Nat.le_trans (by decide) hR500
  have hRs : 6 + 1 ≤ R.frames := hfr7
  have hRsl : ∀ k, k ≤ 40 → 8 + (k + 11) + 400 ≤ R.locals := fun k hk => by omega
  intro pc L S h i idx n as P dg lk ok hn hr hw hC kk ls H locs hl hP hD hS
  have hM := mMet_v hr (hCs _ _ _ _ hC ok.1 H.size)
  refine W.eq (g2 := F0 m pc ls ((as.map (mtr adr)).reverse ++ S.map (mtr adr))) (by first | (rw [List.map_append, List.map_reverse]; done) | (rw [List.map_append, List.map_reverse]; rfl)) ?_
  refine va_callv (va_runS (nL := mi.2.2.1) (own := mi.1.cls) (As := as.map (mtr adr)) (rest := S.map (mtr adr)) ⟨hx, hb, hml, hown, hts⟩ hM (va_cwS n hts (mwS mi lk ok) rfl hRc hRsl0 ok.2.1 ⟨hRf, mroom hRl ok.1⟩) ⟨mPre_blind, fun U hU hWa => ⟨rfl, mPre_at hU hWa hK hP hD hE hS⟩⟩ rfl (by rw [List.length_map]; exact hn) hl.1 rfl (lv_room (by rw [mcat]; exact hw)) dg ⟨Nat.zero_le _, Nat.zero_le _⟩) hS (fun q _ h => mA_le hS q h) (fun q h => mA_le hS q h) (fun u t H1 locs1 ht hvm hw1 hB hz1 hk1 hS1 => ?_)
  obtain ⟨hP1, hK1, hD1⟩ := hB
  rw [ht] at hP1
  exact kk u hw1 ls H1 locs1 hl hP1 (hD1.weaken (fun q _ _ h => mA_le hS _ h)) hS1
theorem s_callNi {p : Program} {l : Launch} {e : Env} {R : Room} {s : State} {m : MethodId} {args : Array Value} {below : List Frame} {meth : Method} {c0 : Code} {X : MX} {adr : Nat → Nat} {cA : Nat → ClassId} {D : va_G} {rm : Room} {mi : MI} {C : MCall} {Rt : MPost} {Q : State → Prop} (K : mCtx p l R s m args c0 X adr cA D rm mi C) : k_callNi X mi C Rt (mRW p l e R s m args below meth c0 X adr cA D mi Q) := by
  obtain ⟨hx, hb, hml, hown, hts, hK, hE, hCs, ⟨hSL, hSC⟩, hRf, hRl, hRc, hRsl0, hfr7, hR500⟩ := K
  have hfr : 1 ≤ R.frames := Nat.le_trans (by decide) hfr7
  have hR64 : 64 ≤ R.locals := Nat.le_trans (by decide) hR500
  have hRs : 6 + 1 ≤ R.frames := hfr7
  have hRsl : ∀ k, k ≤ 40 → 8 + (k + 11) + 400 ≤ R.locals := fun k hk => by omega
  intro pc L S h i idx n as P dg lk ok hn hr hw hC kk ls H locs hl hP hD hS
  have hM := mMet_i hr (hCs _ _ _ _ hC ok.1 H.size)
  refine W.eq (g2 := F0 m pc ls ((as.map (mtr adr)).reverse ++ S.map (mtr adr))) (by first | (rw [List.map_append, List.map_reverse]; done) | (rw [List.map_append, List.map_reverse]; rfl)) ?_
  refine va_calli (va_runSN (nL := mi.2.2.1) (own := mi.1.cls) (As := as.map (mtr adr)) (rest := S.map (mtr adr)) ⟨hx, hb, hml, hown, hts⟩ hM ⟨va_cnB n hts (mwG i ok.1) rfl hRc hRsl0 (hE.1 _ lk) (hts _ ok.1.2.2.2) ok.2.1 ⟨hRf, mroom hRl ok.1⟩, hts _ ok.2.2, trivial⟩ ⟨mPre_blind, fun U hU hWa => ⟨rfl, mPre_at hU hWa hK hP hD hE hS⟩⟩ rfl (by rw [List.length_map]; exact hn) hl.1 rfl (lv_room (by rw [mcat]; exact hw)) dg ⟨Nat.zero_le _, Nat.zero_le _⟩) hS (fun q _ h => mA_le hS q h) (fun q h => mA_le hS q h) (fun r u t H1 locs1 ht hvm hw1 hB hz1 hk1 hS1 => ?_)
  obtain ⟨hP1, hK1, hD1⟩ := hB
  rw [ht] at hP1
  exact kk r u hw1 ls H1 locs1 hl hP1 (hD1.weaken (fun q _ _ h => mA_le hS _ h)) hS1
theorem s_ldcS {p : Program} {l : Launch} {e : Env} {R : Room} {s : State} {m : MethodId} {args : Array Value} {below : List Frame} {meth : Method} {c0 : Code} {X : MX} {adr : Nat → Nat} {cA : Nat → ClassId} {D : va_G} {rm : Room} {mi : MI} {C : MCall} {Rt : MPost} {Q : State → Prop} (K : mCtx p l R s m args c0 X adr cA D rm mi C) : k_ldcS X mi C Rt (mRW p l e R s m args below meth c0 X adr cA D mi Q) := by
  obtain ⟨hx, hb, hml, hown, hts, hK, hE, hCs, ⟨hSL, hSC⟩, hRf, hRl, hRc, hRsl0, hfr7, hR500⟩ := K
  have hfr : 1 ≤ R.frames := Nat.le_trans (by decide) hfr7
  have hR64 : 64 ≤ R.locals := Nat.le_trans (by decide) hR500
  have hRs : 6 + 1 ≤ R.frames := hfr7
  have hRsl : ∀ k, k ≤ 40 → 8 + (k + 11) + 400 ≤ R.locals := fun k hk => by omega
  intro pc L S h idx k dg hs kk ls H locs hl hP hD hS
  rcases hs with ⟨h1, h2, h3⟩ | ⟨h1, h2, h3⟩
  · subst h2; subst h3; rw [h1] at hown
    exact va_ldcS hx hb hown hE.2.1 dg (kk ls H locs hl hP hD hS)
  · subst h2; subst h3; rw [h1] at hown
    exact va_ldcS hx hb hown hE.2.2.1 dg (kk ls H locs hl hP hD hS)
theorem s_slen {p : Program} {l : Launch} {e : Env} {R : Room} {s : State} {m : MethodId} {args : Array Value} {below : List Frame} {meth : Method} {c0 : Code} {X : MX} {adr : Nat → Nat} {cA : Nat → ClassId} {D : va_G} {rm : Room} {mi : MI} {C : MCall} {Rt : MPost} {Q : State → Prop} (K : mCtx p l R s m args c0 X adr cA D rm mi C) : k_slen X mi C Rt (mRW p l e R s m args below meth c0 X adr cA D mi Q) := by
  obtain ⟨hx, hb, hml, hown, hts, hK, hE, hCs, ⟨hSL, hSC⟩, hRf, hRl, hRc, hRsl0, hfr7, hR500⟩ := K
  have hfr : 1 ≤ R.frames := Nat.le_trans (by decide) hfr7
  have hR64 : 64 ≤ R.locals := Nat.le_trans (by decide) hR500
  have hRs : 6 + 1 ≤ R.frames := hfr7
  have hRsl : ∀ k, k ≤ 40 → 8 + (k + 11) + 400 ≤ R.locals := fun k hk => by omega
  intro pc L S h idx k dg lk ok hk2 hw kk ls H locs hl hP hD hS
  have hM := hSL k hk2 H
  refine va_calli (A1 := fun _ => False) (va_runV (nL := mi.2.2.1) (own := mi.1.cls) (C := RJ0) (As := []) (rest := S.map (mtr adr)) ⟨hx, hb, hml, hown, hts⟩ hM (cwV 0 hts (mwV mi lk ok) rfl rfl rfl ⟨rfl, ok.2.1⟩ ⟨hRs, hRsl _ (by decide)⟩) ⟨fun a U g mk q => ⟨q.1, q.2.1, mE_blind q.2.2⟩, mSrecv hE hS hk2, fun U hU hWa => ⟨rfl, hU, by rw [← hU]; exact mE_at hU hWa hE hS⟩⟩ rfl rfl hl.1 rfl (lv_room (by rw [mcat]; exact hw)) dg ⟨Nat.zero_le _, Nat.zero_le _⟩) hS (fun q _ h => h.elim) (fun q h => h.elim) (fun r u t H1 locs1 ht hvm hw1 hB hz1 hk1 hS1 => ?_)
  obtain ⟨e1, e2⟩ := hw1
  have e3 : H1 = H := by rw [← ht, hB, e2]
  subst e1; subst e3
  exact kk ls _ locs1 hl hP hD hS1
theorem s_schar {p : Program} {l : Launch} {e : Env} {R : Room} {s : State} {m : MethodId} {args : Array Value} {below : List Frame} {meth : Method} {c0 : Code} {X : MX} {adr : Nat → Nat} {cA : Nat → ClassId} {D : va_G} {rm : Room} {mi : MI} {C : MCall} {Rt : MPost} {Q : State → Prop} (K : mCtx p l R s m args c0 X adr cA D rm mi C) : k_schar X mi C Rt (mRW p l e R s m args below meth c0 X adr cA D mi Q) := by
  obtain ⟨hx, hb, hml, hown, hts, hK, hE, hCs, ⟨hSL, hSC⟩, hRf, hRl, hRc, hRsl0, hfr7, hR500⟩ := K
  have hfr : 1 ≤ R.frames := Nat.le_trans (by decide) hfr7
  have hR64 : 64 ≤ R.locals := Nat.le_trans (by decide) hR500
  have hRs : 6 + 1 ≤ R.frames := hfr7
  have hRsl : ∀ k, k ≤ 40 → 8 + (k + 11) + 400 ≤ R.locals := fun k hk => by omega
  intro pc L S h idx k j dg lk ok hk2 hj hw kk ls H locs hl hP hD hS
  have hM := hSC k hk2 H j hj
  refine va_calli (A1 := fun _ => False) (va_runV (nL := mi.2.2.1) (own := mi.1.cls) (C := RJ0) (As := [.int (nI j)]) (rest := S.map (mtr adr)) ⟨hx, hb, hml, hown, hts⟩ hM (cwV 1 hts (mwV mi lk ok) rfl rfl rfl ⟨rfl, ok.2.1⟩ ⟨hRs, hRsl _ (by decide)⟩) ⟨fun a U g mk q => ⟨q.1, q.2.1, mE_blind q.2.2⟩, mSrecv hE hS hk2, fun U hU hWa => ⟨rfl, hU, by rw [← hU]; exact mE_at hU hWa hE hS⟩⟩ rfl rfl hl.1 rfl (lv_room (by rw [mcat]; exact hw)) dg ⟨Nat.zero_le _, Nat.zero_le _⟩) hS (fun q _ h => h.elim) (fun q h => h.elim) (fun r u t H1 locs1 ht hvm hw1 hB hz1 hk1 hS1 => ?_)
  obtain ⟨e1, e2⟩ := hw1
  have e3 : H1 = H := by rw [← ht, hB, e2]
  subst e1; subst e3
  exact kk ls _ locs1 hl hP hD hS1
theorem s_weaken {p : Program} {l : Launch} {e : Env} {R : Room} {s : State} {m : MethodId} {args : Array Value} {below : List Frame} {meth : Method} {c0 : Code} {X : MX} {adr : Nat → Nat} {cA : Nat → ClassId} {D : va_G} {rm : Room} {mi : MI} {C : MCall} {Rt : MPost} {Q : State → Prop} (K : mCtx p l R s m args c0 X adr cA D rm mi C) : k_weaken X mi C Rt (mRW p l e R s m args below meth c0 X adr cA D mi Q) := by
  obtain ⟨hx, hb, hml, hown, hts, hK, hE, hCs, ⟨hSL, hSC⟩, hRf, hRl, hRc, hRsl0, hfr7, hR500⟩ := K
  have hfr : 1 ≤ R.frames := Nat.le_trans (by decide) hfr7
  have hR64 : 64 ≤ R.locals := Nat.le_trans (by decide) hR500
  have hRs : 6 + 1 ≤ R.frames := hfr7
  have hRsl : ∀ k, k ≤ 40 → 8 + (k + 11) + 400 ≤ R.locals := fun k hk => by omega
  intro pc L S h L1 hs kk ls H locs hl hP hD hS
  exact kk ls H locs (lv_less hl (fun q hq => mem_trLq hs hq)) hP hD hS
theorem sim {p : Program} {l : Launch} {e : Env} {R : Room} {s : State} {m : MethodId} {args : Array Value} {below : List Frame} {meth : Method} {c0 : Code} {X : MX} {adr : Nat → Nat} {cA : Nat → ClassId} {D : va_G} {rm : Room} {mi : MI} {C : MCall} {Rt : MPost} {Q : State → Prop} (K : mCtx p l R s m args c0 X adr cA D rm mi C) (hr_ireturn : k_ireturn X mi C Rt (mRW p l e R s m args below meth c0 X adr cA D mi Q)) (hr_lreturn : k_lreturn X mi C Rt (mRW p l e R s m args below meth c0 X adr cA D mi Q)) (hr_vreturn : k_vreturn X mi C Rt (mRW p l e R s m args below meth c0 X adr cA D mi Q)) {pc : Nat} {L : ML} {S : List Value} {h : MH} (hv : Ev X mi C Rt pc L S h) : mRW p l e R s m args below meth c0 X adr cA D mi Q pc L S h := hv _ ⟨s_iload_n (Rt := Rt) K, s_iload (Rt := Rt) K, s_lload_n (Rt := Rt) K, s_lload (Rt := Rt) K, s_aload_n (Rt := Rt) K, s_aload (Rt := Rt) K, s_istore_n (Rt := Rt) K, s_istore (Rt := Rt) K, s_lstore_n (Rt := Rt) K, s_lstore (Rt := Rt) K, s_astore_n (Rt := Rt) K, s_astore (Rt := Rt) K, s_iinc (Rt := Rt) K, s_iconst (Rt := Rt) K, s_bipush (Rt := Rt) K, s_sipush (Rt := Rt) K, s_lconst (Rt := Rt) K, s_ldc (Rt := Rt) K, s_ldc_w (Rt := Rt) K, s_ldc2_w (Rt := Rt) K, s_iadd (Rt := Rt) K, s_isub (Rt := Rt) K, s_imul (Rt := Rt) K, s_iand (Rt := Rt) K, s_ior (Rt := Rt) K, s_ixor (Rt := Rt) K, s_ishl (Rt := Rt) K, s_ishr (Rt := Rt) K, s_idiv (Rt := Rt) K, s_irem (Rt := Rt) K, s_ineg (Rt := Rt) K, s_ladd (Rt := Rt) K, s_lsub (Rt := Rt) K, s_lmul (Rt := Rt) K, s_land (Rt := Rt) K, s_lor (Rt := Rt) K, s_ldiv (Rt := Rt) K, s_lrem (Rt := Rt) K, s_i2l (Rt := Rt) K, s_l2i (Rt := Rt) K, s_i2b (Rt := Rt) K, s_i2s (Rt := Rt) K, s_iushr (Rt := Rt) K, s_lshl (Rt := Rt) K, s_lshr (Rt := Rt) K, s_lcmp (Rt := Rt) K, s_dup (Rt := Rt) K, s_pop (Rt := Rt) K, s_dup2 (Rt := Rt) K, s_dup2_2 (Rt := Rt) K, s_if_eq (Rt := Rt) K, s_icmp_eq (Rt := Rt) K, s_if_ne (Rt := Rt) K, s_icmp_ne (Rt := Rt) K, s_if_lt (Rt := Rt) K, s_icmp_lt (Rt := Rt) K, s_if_ge (Rt := Rt) K, s_icmp_ge (Rt := Rt) K, s_if_gt (Rt := Rt) K, s_icmp_gt (Rt := Rt) K, s_if_le (Rt := Rt) K, s_icmp_le (Rt := Rt) K, s_goto (Rt := Rt) K, s_tabOut (Rt := Rt) K, s_tabIn (Rt := Rt) K, s_iald (Rt := Rt) K, s_zald (Rt := Rt) K, s_bald (Rt := Rt) K, s_lald (Rt := Rt) K, s_aald4 (Rt := Rt) K, s_aald5 (Rt := Rt) K, s_iast (Rt := Rt) K, s_zast (Rt := Rt) K, s_bast (Rt := Rt) K, s_last (Rt := Rt) K, s_alen (Rt := Rt) K, s_getI (Rt := Rt) K, s_getJ (Rt := Rt) K, s_getR (Rt := Rt) K, s_getY (Rt := Rt) K, s_putI (Rt := Rt) K, s_putJ (Rt := Rt) K, s_putY (Rt := Rt) K, s_mmax (Rt := Rt) K, s_mmin (Rt := Rt) K, s_mmaxl (Rt := Rt) K, s_mabs (Rt := Rt) K, s_acpy (Rt := Rt) K, s_callVi (Rt := Rt) K, s_callVl (Rt := Rt) K, s_callVv (Rt := Rt) K, s_callSi (Rt := Rt) K, s_callSl (Rt := Rt) K, s_callSv (Rt := Rt) K, s_callNi (Rt := Rt) K, s_ldcS (Rt := Rt) K, s_slen (Rt := Rt) K, s_schar (Rt := Rt) K, hr_ireturn, hr_lreturn, hr_vreturn, s_weaken (Rt := Rt) K⟩
theorem lg_sl_tr (adr : Nat → Nat) (as : List Value) : (lg_sl (as.map (mtr adr))).length = (lg_sl as).length := by
  induction as with
  | nil => rfl
  | cons v t ih =>
    simp only [lg_sl, List.map_cons, List.flatMap_cons, List.length_append, mtr_cat] at ih ⊢
    rw [ih]
    split <;> rfl
theorem lv_args_tr (adr : Nat → Nat) (as : List Value) : ∀ i : Nat, lv_args i (as.map (mtr adr)) = trL adr (lv_args i as) := by
  induction as with
  | nil => intro i; rfl
  | cons v t ih =>
    intro i
    show (i, mtr adr v) :: lv_args (if (mtr adr v).category = 2 then i + 2 else i + 1) (t.map (mtr adr)) = (i, mtr adr v) :: trL adr (lv_args (if v.category = 2 then i + 2 else i + 1) t)
    rw [mtr_cat, ih]
/-- the room of a call that is at most d calls deep -/
def mrm (d : Nat) : Room := { frames := d + 7, cells := 0, slots := 0, locals := 64 * d + 500 }
set_option maxHeartbeats 4000000 in
theorem simC (l : Launch) (X : MX) (adr : Nat → Nat) (cA : Nat → ClassId) (D : va_G) (hStr : mStr l X adr) : ∀ d : Nat, mCs l X adr cA D (mrm d) (EvC X d) := by
  intro d
  induction d with
  | zero => intro i as h Po hC; exact hC.elim
  | succ d ih =>
    intro i as h Po hC ok sz
    refine Met.ofW (cc := i.2.1) (maxL := i.2.2.1) (ret := i.2.2.2) ok.2.1 rfl ?_
    intro p e s m args below meth c s₁ B hml hv
    obtain ⟨rfl, hsz, hP, hK, hD0, hE⟩ := hv
    have hr := B.returns
    have hts := atoms_spec (ws := mw i) B.pre
    have hown : s.vm.findClass i.1.cls = some m.cls := findClass_of_methodNamed B.named
    have hlocks := B.notSynchronized
    subst hsz
    have hD : va_D (mA adr X.1.length s.heap.size) (mws X adr cA h) := ⟨hD0.1, fun k q hk => by
      have hlt : k < X.1.length := by
        have := (List.getElem?_eq_some_iff.mp hk).1
        rwa [mws_len] at this
      have hq : X.1[k]? = some X.1[k] := List.getElem?_eq_getElem hlt
      rw [mws_get hq] at hk
      cases hk
      exact Or.inl ⟨k, hlt, rfl⟩⟩
    have hS : va_S (mA adr X.1.length s.heap.size) s.heap s.heap [] := va_S.rf
    have hlen : (lg_sl (as.map (mtr adr))).length ≤ i.2.2.1 := by rw [lg_sl_tr]; exact hC.1
    have hl := lv_entry (as.map (mtr adr)) (n := i.2.2.1) hlen
    rw [lg_entry_eq]
    rw [lv_args_tr] at hl
    have K : mCtx p l (mrm (d + 1)) s m (as.map (mtr adr)).toArray c X adr cA D (mrm d) i (EvC X d) := ⟨B.exec, B.bytes, hml, hown, fun w hw => hts w (List.mem_cons_of_mem _ hw), hK, hE, ih, hStr, (show d + 7 + 1 ≤ d + 1 + 7 by omega), (show 64 + (64 * d + 500) ≤ 64 * (d + 1) + 500 by omega), rfl, rfl, (show 7 ≤ d + 1 + 7 by omega), (show 500 ≤ 64 * (d + 1) + 500 by omega)⟩
    refine sim K ?_ ?_ ?_ hC.2 _ s.heap [] hl hP hD hS
    · intro pc L h1 x ty dg hret ht kr ls H locs hl1 hP1 hD1 hS1
      refine W.zret (ty := ty) B.exec B.bytes (hr.trans hret) ?_ (fun t ht1 hW1 => ?_) hS1.2.2 dg
      · rcases ht with e1 | ⟨e1, e2 | e2⟩ <;> subst e1
        · rfl
        · subst e2; rfl
        · subst e2; rfl
      · rw [hret]
        have hq : (va_Qi (fun (r : Int32) (u : MH) => Po (some (.int r)) u) (mB X adr cA D (mA adr X.1.length s.heap.size)) (mA adr X.1.length s.heap.size)) (as.map (mtr adr)).toArray s (.returned (some (.int x))) t := ⟨⟨x, h1, rfl, kr, by rw [ht1]; exact hP1, va_K.moved hW1.alike hK, hD1⟩, hS1.F ht1⟩
        rcases ht with e1 | ⟨e1, -⟩ <;> (subst e1; exact hq)
    · intro pc L h1 x dg hret kr ls H locs hl1 hP1 hD1 hS1
      refine W.lret B.exec B.bytes (hr.trans hret) (fun t ht1 hW1 => ?_) hS1.2.2 dg
      rw [hret]
      exact ⟨⟨x, h1, rfl, kr, by rw [ht1]; exact hP1, va_K.moved hW1.alike hK, hD1⟩, hS1.F ht1⟩
    · intro pc L h1 dg hret kr ls H locs hl1 hP1 hD1 hS1
      refine W.vret B.exec B.bytes (hr.trans hret) (fun t ht1 hW1 => ?_) hS1.2.2 dg
      rw [hret]
      exact ⟨⟨h1, rfl, kr, by rw [ht1]; exact hP1, va_K.moved hW1.alike hK, hD1⟩, hS1.F ht1⟩
