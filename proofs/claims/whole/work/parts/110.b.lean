/-! GROUP B: rows of numbers. -/
/-- the last place below m that is there (-1), the first of m places from b on (b + m) -/
def zba (f : Nat → Int) : Nat → Int
  | 0 => -1
  | i + 1 => if 0 ≤ f i then (i : Int) else zba f i
def zfw (f : Nat → Int) : Nat → Nat → Int
  | 0, b => (b : Int)
  | m + 1, b => if 0 ≤ f b then (b : Int) else zfw f m (b + 1)
theorem zba_sp (f : Nat → Int) (m : Nat) : (zba f m = -1 ∧ ∀ j, j < m → f j < 0) ∨ ∃ a : Nat, a < m ∧ zba f m = a ∧ 0 ≤ f a := by
  induction m with
  | zero => exact Or.inl ⟨rfl, fun j h => absurd h (Nat.not_lt_zero _)⟩
  | succ m ih =>
    by_cases h : 0 ≤ f m
    · exact Or.inr ⟨m, by omega, if_pos h, h⟩
    · have e : zba f (m + 1) = zba f m := if_neg h
      rcases ih with ⟨h1, h2⟩ | ⟨a, h1, h2, h3⟩
      · refine Or.inl ⟨by rw [e, h1], fun j hj => ?_⟩
        rcases Nat.lt_or_ge j m with q | q
        · exact h2 j q
        · rw [show j = m by omega]; omega
      · exact Or.inr ⟨a, by omega, by rw [e, h2], h3⟩
theorem zfw_sp (f : Nat → Int) (m b : Nat) : (zfw f m b = ((b + m : Nat) : Int) ∧ ∀ j, b ≤ j → j < b + m → f j < 0) ∨ ∃ a : Nat, b ≤ a ∧ a < b + m ∧ zfw f m b = a ∧ 0 ≤ f a := by
  induction m generalizing b with
  | zero => exact Or.inl ⟨rfl, fun j h h2 => by omega⟩
  | succ m ih =>
    by_cases h : 0 ≤ f b
    · exact Or.inr ⟨b, by omega, by omega, if_pos h, h⟩
    · have e : zfw f (m + 1) b = zfw f m (b + 1) := if_neg h
      rcases ih (b + 1) with ⟨h1, h2⟩ | ⟨a, h0, h1, h2, h3⟩
      · refine Or.inl ⟨by rw [e, h1]; omega, fun j hj h4 => ?_⟩
        rcases Nat.lt_or_ge b j with q | q
        · exact h2 j q (by omega)
        · rw [show j = b by omega]; omega
      · exact Or.inr ⟨a, by omega, by omega, by rw [e, h2], h3⟩
theorem zba_cg {f g : Nat → Int} {m : Nat} (h : ∀ k, k < m → f k = g k) : zba f m = zba g m := by
  induction m with
  | zero => rfl
  | succ m ih =>
    show (if 0 ≤ f m then (m : Int) else zba f m) = if 0 ≤ g m then (m : Int) else zba g m
    rw [h m (by omega), ih (fun k hk => h k (by omega))]
theorem zfw_cg {f g : Nat → Int} {m b : Nat} (h : ∀ k, k < b + m → f k = g k) : zfw f m b = zfw g m b := by
  induction m generalizing b with
  | zero => rfl
  | succ m ih =>
    show (if 0 ≤ f b then (b : Int) else zfw f m (b + 1)) = if 0 ≤ g b then (b : Int) else zfw g m (b + 1)
    rw [h b (by omega), ih (fun k hk => h k (by omega))]
/-- FILLED -/
def zfil (f : Nat → Int) (n i : Nat) : Int :=
  if zba f (i + 1) < 0 ∧ (n : Int) ≤ zfw f (n - i) i then -1 else if zba f (i + 1) < 0 then f (zfw f (n - i) i).toNat else if (n : Int) ≤ zfw f (n - i) i then f (zba f (i + 1)).toNat else (f (zba f (i + 1)).toNat + f (zfw f (n - i) i).toNat) / 2
theorem zfil_cg {f g : Nat → Int} {n i : Nat} (h : ∀ k, k < n → f k = g k) (hi : i < n) : zfil f n i = zfil g n i := by
  have e1 : zba f (i + 1) = zba g (i + 1) := zba_cg (fun k hk => h k (by omega))
  have e2 : zfw f (n - i) i = zfw g (n - i) i := zfw_cg (fun k hk => h k (by omega))
  unfold zfil
  rw [e1, e2]
  rcases zba_sp g (i + 1) with ⟨a1, -⟩ | ⟨a, a0, a1, -⟩ <;> rcases zfw_sp g (n - i) i with ⟨b1, -⟩ | ⟨b, b0, b00, b1, -⟩ <;> rw [a1, b1]
  · rw [if_pos ⟨by omega, by omega⟩, if_pos ⟨by omega, by omega⟩]
  · rw [if_neg (by omega), if_pos (by omega), if_neg (by omega), if_pos (by omega), Int.toNat_natCast, h b (by omega)]
  · rw [if_neg (by omega), if_neg (by omega), if_pos (by omega), if_neg (by omega), if_neg (by omega), if_pos (by omega), Int.toNat_natCast, h a (by omega)]
  · rw [if_neg (by omega), if_neg (by omega), if_neg (by omega), if_neg (by omega), if_neg (by omega), if_neg (by omega), Int.toNat_natCast, Int.toNat_natCast, h a (by omega), h b (by omega)]
/-- how many are there; whether one is too much; whether all are within -/
def zher (f : Nat → Int) : Nat → Int
  | 0 => 0
  | n + 1 => zher f n + (if 0 ≤ f n then 1 else 0)
theorem zher_bd (f : Nat → Int) (n : Nat) : 0 ≤ zher f n ∧ zher f n ≤ n := by
  induction n with
  | zero => exact ⟨Int.le_refl _, Int.le_refl _⟩
  | succ n ih =>
    show 0 ≤ zher f n + (if 0 ≤ f n then 1 else 0) ∧ zher f n + (if 0 ≤ f n then 1 else 0) ≤ ((n + 1 : Nat) : Int)
    split <;> omega
theorem zher_0 {f : Nat → Int} {n : Nat} : zher f n = 0 ↔ ∀ k, k < n → f k < 0 := by
  induction n with
  | zero => exact ⟨fun _ k h => absurd h (Nat.not_lt_zero _), fun _ => rfl⟩
  | succ n ih =>
    have hb := zher_bd f n
    show zher f n + (if 0 ≤ f n then 1 else 0) = 0 ↔ _
    constructor
    · intro h k hk
      by_cases q : 0 ≤ f n
      · rw [if_pos q] at h; omega
      · rw [if_neg q] at h
        rcases Nat.lt_or_ge k n with c | c
        · exact ih.mp (by omega) k c
        · rw [show k = n by omega]; omega
    · intro h
      rw [if_neg (by have := h n (by omega); omega), ih.mpr (fun k hk => h k (by omega))]
      rfl
def zmuch (f : Nat → Int) : Nat → Bool
  | 0 => false
  | n + 1 => zmuch f n || decide (1000000 < f n)
theorem zmuch_f {f : Nat → Int} {n : Nat} : zmuch f n = false ↔ ∀ k, k < n → f k ≤ 1000000 := by
  induction n with
  | zero => exact ⟨fun _ k h => absurd h (Nat.not_lt_zero _), fun _ => rfl⟩
  | succ n ih =>
    show (zmuch f n || decide (1000000 < f n)) = false ↔ _
    rw [Bool.or_eq_false_iff, ih, decide_eq_false_iff_not]
    constructor
    · intro h k hk
      rcases Nat.lt_or_ge k n with c | c
      · exact h.1 k c
      · rw [show k = n by omega]; omega
    · intro h
      exact ⟨fun k hk => h k (by omega), by have := h n (by omega); omega⟩
theorem zmuch_t {f : Nat → Int} {n k : Nat} (hk : k < n) (h : 1000000 < f k) : zmuch f n = true := by
  cases e : zmuch f n with
  | true => rfl
  | false => have := zmuch_f.mp e k hk; omega
def zwi (f : Nat → Int) (most : Int) : Nat → Bool
  | 0 => true
  | n + 1 => zwi f most n && decide (0 ≤ f n ∧ f n ≤ most)
theorem zwi_t {f : Nat → Int} {most : Int} {n : Nat} : zwi f most n = true ↔ ∀ k, k < n → 0 ≤ f k ∧ f k ≤ most := by
  induction n with
  | zero => exact ⟨fun _ k h => absurd h (Nat.not_lt_zero _), fun _ => rfl⟩
  | succ n ih =>
    show (zwi f most n && decide (0 ≤ f n ∧ f n ≤ most)) = true ↔ _
    rw [Bool.and_eq_true, ih, decide_eq_true_iff]
    constructor
    · intro h k hk
      rcases Nat.lt_or_ge k n with c | c
      · exact h.1 k c
      · rw [show k = n by omega]; exact h.2
    · intro h
      exact ⟨fun k hk => h k (by omega), h n (by omega)⟩
theorem zwi_f {f : Nat → Int} {most : Int} {n k : Nat} (hk : k < n) (h : ¬ (0 ≤ f k ∧ f k ≤ most)) : zwi f most n = false := by
  cases e : zwi f most n with
  | false => rfl
  | true => exact absurd (zwi_t.mp e k hk) h
/-- a class's row s, a reference's row r as they must be -/
def rwOK (H : ZH) (s : Nat) : Prop := (H.1 s 0 = 0 ∨ H.1 s 0 = 1) ∧ (0 ≤ H.1 s 1 ∧ H.1 s 1 ≤ 3) ∧ (0 ≤ H.1 s 2 ∧ H.1 s 2 ≤ 40)
def rmOK (H : ZH) : Prop := ∀ r, r < 4 → (-1 ≤ H.1 17 r ∧ H.1 17 r ≤ 3) ∧ (0 ≤ H.1 18 r ∧ H.1 18 r ≤ 40)
abbrev rvM (H : ZH) (r : Nat) : Nat → Int := fun k => H.2 19 (40 * r + k)
def zcut (v sort : Int) : Int := if sort = 0 then v.bmod 256 else if sort = 1 then v.bmod 65536 else if sort = 2 then v.bmod 4294967296 else v
theorem bmod_bmod_8 (a : Int) : (a.bmod 4294967296).bmod 256 = a.bmod 256 := Int.bmod_bmod_of_dvd (by decide)

theorem c_X5_cut {d : Nat} {H : ZH} (ok : okZ H) {s : Nat} (hs : isRw s) {v : Int} (v1 : -9223372036854775808 ≤ v) (v2 : v ≤ 9223372036854775807) (rw : rwOK H s) : EvC zX (d + 1) mX5_cut [.ref s, .long (zL (v))] (eh H) (zPl (fun (rz : Int) (Hz : ZH) => rz = (zcut v (H.1 s 1)) ∧ Hz = H)) := by
  show _ ∧ Ev zX mX5_cut (EvC zX d) (zPl (fun (rz : Int) (Hz : ZH) => rz = (zcut v (H.1 s 1)) ∧ Hz = H)) 0 [(0, .ref s), (1, .long (zL (v)))] [] (eh H)
  refine ⟨Nat.le_of_ble_eq_true rfl, ?_⟩
  obtain ⟨rwA, rwB, rwC⟩ := rw
  refine x_aload_n (pc := 0) dX5_cut_0 (List.Mem.head _) ?_
  have rd1 := ok.1 s 1
  refine z_getI (pc := 1) (k := 1) (v := H.1 s 1) dX5_cut_1 lf_X5_15 (sh_Rw0 hs) rfl rfl ?_
  rcases Int.decEq ((H.1 s 1)) (0) with hk2_0 | hk2_0
  rotate_left
  · skip
    refine z_tabIn (pc := 4) (0) (tgt := 32) dX5_cut_4 hk2_0 (by omega) (by omega) (by decide) (by decide) rfl (by decide) ?_
    refine x_lload_n (pc := 32) dX5_cut_32 (List.Mem.tail _ (List.Mem.head _)) ?_
    refine z_l2i (pc := 33) dX5_cut_33 ?_
    have rd3 := bm8 (v)
    refine z_i2b (pc := 34) dX5_cut_34 ?_
    refine z_i2l (pc := 35) dX5_cut_35 (by omega) (by omega) ?_
    refine z_lreturn (pc := 36) dX5_cut_36 rfl ok (by omega) (by omega) ?_
    exact ⟨by unfold zcut; rw [if_pos (by omega)], rfl⟩
  rcases Int.decEq ((H.1 s 1)) (1) with hk2_1 | hk2_1
  rotate_left
  · skip
    refine z_tabIn (pc := 4) (1) (tgt := 37) dX5_cut_4 hk2_1 (by omega) (by omega) (by decide) (by decide) rfl (by decide) ?_
    refine x_lload_n (pc := 37) dX5_cut_37 (List.Mem.tail _ (List.Mem.head _)) ?_
    refine z_l2i (pc := 38) dX5_cut_38 ?_
    have rd4 := bm16 (v)
    refine z_i2s (pc := 39) dX5_cut_39 ?_
    refine z_i2l (pc := 40) dX5_cut_40 (by omega) (by omega) ?_
    refine z_lreturn (pc := 41) dX5_cut_41 rfl ok (by omega) (by omega) ?_
    exact ⟨by unfold zcut; rw [if_neg (by omega), if_pos (by omega)], rfl⟩
  rcases Int.decEq ((H.1 s 1)) (2) with hk2_2 | hk2_2
  rotate_left
  · skip
    refine z_tabIn (pc := 4) (2) (tgt := 42) dX5_cut_4 hk2_2 (by omega) (by omega) (by decide) (by decide) rfl (by decide) ?_
    refine x_lload_n (pc := 42) dX5_cut_42 (List.Mem.tail _ (List.Mem.head _)) ?_
    have rd5 := bm32 (v)
    refine z_l2iw (pc := 43) dX5_cut_43 ?_
    refine z_i2l (pc := 44) dX5_cut_44 (by omega) (by omega) ?_
    refine z_lreturn (pc := 45) dX5_cut_45 rfl ok (by omega) (by omega) ?_
    exact ⟨by unfold zcut; rw [if_neg (by omega), if_neg (by omega), if_pos (by omega)], rfl⟩
  refine z_tabOut (pc := 4) (tgt := 46) dX5_cut_4 (by omega) (by omega) (by omega) (by decide) ?_
  refine x_lload_n (pc := 46) dX5_cut_46 (List.Mem.tail _ (List.Mem.head _)) ?_
  refine z_lreturn (pc := 47) dX5_cut_47 rfl ok (by omega) (by omega) ?_
  exact ⟨by unfold zcut; rw [if_neg (by omega), if_neg (by omega), if_neg (by omega)], rfl⟩

theorem c_X11_cut {d : Nat} {H : ZH} (ok : okZ H) {v so : Int} (v1 : -9223372036854775808 ≤ v) (v2 : v ≤ 9223372036854775807) (so1 : -2147483648 ≤ so) (so2 : so ≤ 2147483647) : EvC zX (d + 1) mX11_cut [.long (zL (v)), .int (zN (so))] (eh H) (zPl (fun (rz : Int) (Hz : ZH) => rz = (zcut v so) ∧ Hz = H)) := by
  show _ ∧ Ev zX mX11_cut (EvC zX d) (zPl (fun (rz : Int) (Hz : ZH) => rz = (zcut v so) ∧ Hz = H)) 0 [(0, .long (zL (v))), (2, .int (zN (so)))] [] (eh H)
  refine ⟨Nat.le_of_ble_eq_true rfl, ?_⟩
  refine x_iload_n (pc := 0) dX11_cut_0 (List.Mem.tail _ (List.Mem.head _)) ?_
  refine z_if_ne (pc := 1) (tgt := 11) dX11_cut_1 (by decide) (by omega) (by omega) (fun hb1 => ?_) (fun hb1 => ?_)
  · skip
    refine x_iload_n (pc := 11) dX11_cut_11 (List.Mem.tail _ (List.Mem.head _)) ?_
    refine z_iconst (pc := 12) dX11_cut_12 ?_
    refine z_icmp_ne (pc := 13) (tgt := 23) dX11_cut_13 (by decide) (by omega) (by omega) (by decide) (by decide) (fun hb2 => ?_) (fun hb2 => ?_)
    · skip
      refine x_iload_n (pc := 23) dX11_cut_23 (List.Mem.tail _ (List.Mem.head _)) ?_
      refine z_iconst (pc := 24) dX11_cut_24 ?_
      refine z_icmp_ne (pc := 25) (tgt := 34) dX11_cut_25 (by decide) (by omega) (by omega) (by decide) (by decide) (fun hb3 => ?_) (fun hb3 => ?_)
      · skip
        refine x_lload_n (pc := 34) dX11_cut_34 (List.Mem.head _) ?_
        refine z_lreturn (pc := 35) dX11_cut_35 rfl ok (by omega) (by omega) ?_
        refine ⟨?_, rfl⟩
        unfold zcut
        (repeat' split) <;> first | rfl | omega
      · skip
        refine x_lload_n (pc := 28) dX11_cut_28 (List.Mem.head _) ?_
        have rd4 := bm32 (v)
        refine z_l2iw (pc := 29) dX11_cut_29 ?_
        refine z_i2l (pc := 30) dX11_cut_30 (by omega) (by omega) ?_
        refine x_goto (pc := 31) (tgt := 35) dX11_cut_31 (by decide) ?_
        refine z_lreturn (pc := 35) dX11_cut_35 rfl ok (by omega) (by omega) ?_
        refine ⟨?_, rfl⟩
        unfold zcut
        (repeat' split) <;> first | rfl | omega
    · skip
      refine x_lload_n (pc := 16) dX11_cut_16 (List.Mem.head _) ?_
      refine z_l2i (pc := 17) dX11_cut_17 ?_
      have rd5 := bm16 (v)
      refine z_i2s (pc := 18) dX11_cut_18 ?_
      refine z_i2l (pc := 19) dX11_cut_19 (by omega) (by omega) ?_
      refine x_goto (pc := 20) (tgt := 35) dX11_cut_20 (by decide) ?_
      refine z_lreturn (pc := 35) dX11_cut_35 rfl ok (by omega) (by omega) ?_
      refine ⟨?_, rfl⟩
      unfold zcut
      (repeat' split) <;> first | rfl | omega
  · skip
    refine x_lload_n (pc := 4) dX11_cut_4 (List.Mem.head _) ?_
    refine z_l2i (pc := 5) dX11_cut_5 ?_
    have rd6 := bm8 (v)
    refine z_i2b (pc := 6) dX11_cut_6 ?_
    refine z_i2l (pc := 7) dX11_cut_7 (by omega) (by omega) ?_
    refine x_goto (pc := 8) (tgt := 35) dX11_cut_8 (by decide) ?_
    refine z_lreturn (pc := 35) dX11_cut_35 rfl ok (by omega) (by omega) ?_
    refine ⟨?_, rfl⟩
    unfold zcut
    (repeat' split) <;> first | rfl | omega

theorem c_X5_isWithin {d : Nat} {H : ZH} (ok : okZ H) {s : Nat} (hs : isRw s) {most : Int} (most1 : -9223372036854775808 ≤ most) (most2 : most ≤ 9223372036854775807) (rw : rwOK H s) : EvC zX (d + 1) mX5_isWithin [.ref s, .long (zL (most))] (eh H) (zPi (fun (rz : Int) (Hz : ZH) => rz = (if zwi (H.2 (s + 1)) most (H.1 s 2).toNat = true then 1 else 0) ∧ Hz = H)) := by
  show _ ∧ Ev zX mX5_isWithin (EvC zX d) (zPi (fun (rz : Int) (Hz : ZH) => rz = (if zwi (H.2 (s + 1)) most (H.1 s 2).toNat = true then 1 else 0) ∧ Hz = H)) 0 [(0, .ref s), (1, .long (zL (most)))] [] (eh H)
  refine ⟨Nat.le_of_ble_eq_true rfl, ?_⟩
  obtain ⟨rwA, rwB, rwC⟩ := rw
  refine z_iconst (pc := 0) dX5_isWithin_0 ?_
  refine x_istore_n (pc := 1) dX5_isWithin_1 (Nat.le_of_ble_eq_true rfl) ?_
  show Ev _ _ _ _ _ [(3, .int (zN (0))), (0, .ref s), (1, .long (zL (most)))] _ _
  have lp2 : ∀ (nF : Nat) (k : Nat), ((k : Int) ≤ H.1 s 2) → (∀ j, j < k → 0 ≤ H.2 (s + 1) j ∧ H.2 (s + 1) j ≤ most) → (H.1 s 2).toNat - k < nF → Ev zX mX5_isWithin (EvC zX d) (zPi (fun (rz : Int) (Hz : ZH) => rz = (if zwi (H.2 (s + 1)) most (H.1 s 2).toNat = true then 1 else 0) ∧ Hz = H)) 2 [(0, .ref s), (1, .long (zL (most))), (3, .int (zN ((k : Int))))] [] (eh H) := by
    intro nF
    induction nF with
    | zero => intro k hk ha hm; exact absurd hm (Nat.not_lt_zero _)
    | succ nF ih2 =>
      intro k hk ha hm
      refine x_iload_n (pc := 2) dX5_isWithin_2 (List.Mem.tail _ (List.Mem.tail _ (List.Mem.head _))) ?_
      refine x_aload_n (pc := 3) dX5_isWithin_3 (List.Mem.head _) ?_
      have rd1 := ok.1 s 2
      refine z_getI (pc := 4) (k := 2) (v := H.1 s 2) dX5_isWithin_4 lf_X5_19 (sh_Rw0 hs) rfl rfl ?_
      refine z_icmp_ge (pc := 7) (tgt := 40) dX5_isWithin_7 (by decide) (by omega) (by omega) (by omega) (by omega) (fun hb2 => ?_) (fun hb2 => ?_)
      · skip
        refine z_iconst (pc := 40) dX5_isWithin_40 ?_
        refine z_ireturn (pc := 41) dX5_isWithin_41 rfl (Or.inr ⟨rfl, by omega⟩) ok (by decide) (by decide) ?_
        exact ⟨by rw [if_pos (zwi_t.mpr (fun j hj => ha j (by omega)))], rfl⟩
      · skip
        refine x_aload_n (pc := 10) dX5_isWithin_10 (List.Mem.head _) ?_
        refine z_getR (pc := 11) (k := 3) (r := (s + 1)) dX5_isWithin_11 lf_X5_9 (sh_Rw0 hs) rfl (rf_Rw_3 hs) ?_
        refine x_iload_n (pc := 14) dX5_isWithin_14 (List.Mem.tail _ (List.Mem.tail _ (List.Mem.head _))) ?_
        have rd3 := ok.2 (s + 1) k
        refine z_lald (pc := 15) (j := k) (v := H.2 (s + 1) k) dX5_isWithin_15 (sh_Rw1 hs) rfl (by omega) (by decide) rfl ?_
        refine z_lconst (pc := 16) 0 dX5_isWithin_16 rfl ?_
        refine z_lcmp_lt (pc := 17) (tgt := 32) dX5_isWithin_17 dX5_isWithin_18 (by decide) (by omega) (by omega) (by decide) (by decide) (fun hb4 => ?_) (fun hb4 => ?_)
        · skip
          refine z_iconst (pc := 32) dX5_isWithin_32 ?_
          refine z_ireturn (pc := 33) dX5_isWithin_33 rfl (Or.inr ⟨rfl, by omega⟩) ok (by decide) (by decide) ?_
          exact ⟨by rw [zwi_f (k := k) (by omega) (by omega)]; rfl, rfl⟩
        · skip
          refine x_aload_n (pc := 21) dX5_isWithin_21 (List.Mem.head _) ?_
          refine z_getR (pc := 22) (k := 3) (r := (s + 1)) dX5_isWithin_22 lf_X5_9 (sh_Rw0 hs) rfl (rf_Rw_3 hs) ?_
          refine x_iload_n (pc := 25) dX5_isWithin_25 (List.Mem.tail _ (List.Mem.tail _ (List.Mem.head _))) ?_
          have rd5 := ok.2 (s + 1) k
          refine z_lald (pc := 26) (j := k) (v := H.2 (s + 1) k) dX5_isWithin_26 (sh_Rw1 hs) rfl (by omega) (by decide) rfl ?_
          refine x_lload_n (pc := 27) dX5_isWithin_27 (List.Mem.tail _ (List.Mem.head _)) ?_
          refine z_lcmp_le (pc := 28) (tgt := 34) dX5_isWithin_28 dX5_isWithin_29 (by decide) (by omega) (by omega) (by omega) (by omega) (fun hb6 => ?_) (fun hb6 => ?_)
          · skip
            refine z_iinc (pc := 34) dX5_isWithin_34 (List.Mem.tail _ (List.Mem.tail _ (List.Mem.head _))) (Nat.le_of_ble_eq_true rfl) ?_
            show Ev _ _ _ _ _ [(3, .int (zN ((k : Int) + 1))), (0, .ref s), (1, .long (zL (most)))] _ _
            refine x_goto (pc := 37) (tgt := 2) dX5_isWithin_37 (by decide) ?_
            refine x_weaken (L1 := [(0, .ref s), (1, .long (zL (most))), (3, .int (zN ((((k + 1) : Nat) : Int))))]) (List.forall_mem_cons.mpr ⟨(List.Mem.tail _ (List.Mem.head _)), (List.forall_mem_cons.mpr ⟨(List.Mem.tail _ (List.Mem.tail _ (List.Mem.head _))), (List.forall_mem_cons.mpr ⟨(mem_ci (by omega) (List.Mem.head _)), (fun _ h => absurd h List.not_mem_nil)⟩)⟩)⟩) ?_
            exact ih2 ((k + 1)) (by first | assumption | omega) (lt_s ha (by omega)) (by omega)
          · skip
            refine z_iconst (pc := 32) dX5_isWithin_32 ?_
            refine z_ireturn (pc := 33) dX5_isWithin_33 rfl (Or.inr ⟨rfl, by omega⟩) ok (by decide) (by decide) ?_
            exact ⟨by rw [zwi_f (k := k) (by omega) (by omega)]; rfl, rfl⟩
  refine x_weaken (L1 := [(0, .ref s), (1, .long (zL (most))), (3, .int (zN (((0 : Nat) : Int))))]) (List.forall_mem_cons.mpr ⟨(List.Mem.tail _ (List.Mem.head _)), (List.forall_mem_cons.mpr ⟨(List.Mem.tail _ (List.Mem.tail _ (List.Mem.head _))), (List.forall_mem_cons.mpr ⟨(mem_ci (by omega) (List.Mem.head _)), (fun _ h => absurd h List.not_mem_nil)⟩)⟩)⟩) ?_
  exact lp2 ((H.1 s 2).toNat - 0 + 1) (0) (by first | assumption | omega) (fun j h => absurd h (Nat.not_lt_zero _)) (Nat.lt_succ_self _)

theorem c_X5_isBeyondCounts {d : Nat} {H : ZH} (ok : okZ H) {s : Nat} (hs : isRw s) (rw : rwOK H s) : EvC zX (d + 1) mX5_isBeyondCounts [.ref s] (eh H) (zPi (fun (rz : Int) (Hz : ZH) => rz = (if zmuch (H.2 (s + 1)) (H.1 s 2).toNat = true then 1 else 0) ∧ Hz = H)) := by
  show _ ∧ Ev zX mX5_isBeyondCounts (EvC zX d) (zPi (fun (rz : Int) (Hz : ZH) => rz = (if zmuch (H.2 (s + 1)) (H.1 s 2).toNat = true then 1 else 0) ∧ Hz = H)) 0 [(0, .ref s)] [] (eh H)
  refine ⟨Nat.le_of_ble_eq_true rfl, ?_⟩
  obtain ⟨rwA, rwB, rwC⟩ := rw
  refine z_iconst (pc := 0) dX5_isBeyondCounts_0 ?_
  refine x_istore_n (pc := 1) dX5_isBeyondCounts_1 (Nat.le_of_ble_eq_true rfl) ?_
  show Ev _ _ _ _ _ [(1, .int (zN (0))), (0, .ref s)] _ _
  have lp2 : ∀ (nF : Nat) (k : Nat), ((k : Int) ≤ H.1 s 2) → (∀ j, j < k → H.2 (s + 1) j ≤ 1000000) → (H.1 s 2).toNat - k < nF → Ev zX mX5_isBeyondCounts (EvC zX d) (zPi (fun (rz : Int) (Hz : ZH) => rz = (if zmuch (H.2 (s + 1)) (H.1 s 2).toNat = true then 1 else 0) ∧ Hz = H)) 2 [(0, .ref s), (1, .int (zN ((k : Int))))] [] (eh H) := by
    intro nF
    induction nF with
    | zero => intro k hk ha hm; exact absurd hm (Nat.not_lt_zero _)
    | succ nF ih2 =>
      intro k hk ha hm
      refine x_iload_n (pc := 2) dX5_isBeyondCounts_2 (List.Mem.tail _ (List.Mem.head _)) ?_
      refine x_aload_n (pc := 3) dX5_isBeyondCounts_3 (List.Mem.head _) ?_
      have rd1 := ok.1 s 2
      refine z_getI (pc := 4) (k := 2) (v := H.1 s 2) dX5_isBeyondCounts_4 lf_X5_19 (sh_Rw0 hs) rfl rfl ?_
      refine z_icmp_ge (pc := 7) (tgt := 31) dX5_isBeyondCounts_7 (by decide) (by omega) (by omega) (by omega) (by omega) (fun hb2 => ?_) (fun hb2 => ?_)
      · skip
        refine z_iconst (pc := 31) dX5_isBeyondCounts_31 ?_
        refine z_ireturn (pc := 32) dX5_isBeyondCounts_32 rfl (Or.inr ⟨rfl, by omega⟩) ok (by decide) (by decide) ?_
        exact ⟨by rw [zmuch_f.mpr (fun j hj => ha j (by omega))]; rfl, rfl⟩
      · skip
        refine x_aload_n (pc := 10) dX5_isBeyondCounts_10 (List.Mem.head _) ?_
        refine z_getR (pc := 11) (k := 3) (r := (s + 1)) dX5_isBeyondCounts_11 lf_X5_9 (sh_Rw0 hs) rfl (rf_Rw_3 hs) ?_
        refine x_iload_n (pc := 14) dX5_isBeyondCounts_14 (List.Mem.tail _ (List.Mem.head _)) ?_
        have rd3 := ok.2 (s + 1) k
        refine z_lald (pc := 15) (j := k) (v := H.2 (s + 1) k) dX5_isBeyondCounts_15 (sh_Rw1 hs) rfl (by omega) (by decide) rfl ?_
        refine z_ldc2_w (pc := 16) 1000000 dX5_isBeyondCounts_16 cl_X5_22 (by decide) ?_
        refine z_lcmp_le (pc := 19) (tgt := 25) dX5_isBeyondCounts_19 dX5_isBeyondCounts_20 (by decide) (by omega) (by omega) (by decide) (by decide) (fun hb4 => ?_) (fun hb4 => ?_)
        · skip
          refine z_iinc (pc := 25) dX5_isBeyondCounts_25 (List.Mem.tail _ (List.Mem.head _)) (Nat.le_of_ble_eq_true rfl) ?_
          show Ev _ _ _ _ _ [(1, .int (zN ((k : Int) + 1))), (0, .ref s)] _ _
          refine x_goto (pc := 28) (tgt := 2) dX5_isBeyondCounts_28 (by decide) ?_
          refine x_weaken (L1 := [(0, .ref s), (1, .int (zN ((((k + 1) : Nat) : Int))))]) (List.forall_mem_cons.mpr ⟨(List.Mem.tail _ (List.Mem.head _)), (List.forall_mem_cons.mpr ⟨(mem_ci (by omega) (List.Mem.head _)), (fun _ h => absurd h List.not_mem_nil)⟩)⟩) ?_
          exact ih2 ((k + 1)) (by first | assumption | omega) (lt_s ha (by omega)) (by omega)
        · skip
          refine z_iconst (pc := 23) dX5_isBeyondCounts_23 ?_
          refine z_ireturn (pc := 24) dX5_isBeyondCounts_24 rfl (Or.inr ⟨rfl, by omega⟩) ok (by decide) (by decide) ?_
          exact ⟨by rw [zmuch_t (k := k) (by omega) (by omega)]; rfl, rfl⟩
  refine x_weaken (L1 := [(0, .ref s), (1, .int (zN (((0 : Nat) : Int))))]) (List.forall_mem_cons.mpr ⟨(List.Mem.tail _ (List.Mem.head _)), (List.forall_mem_cons.mpr ⟨(mem_ci (by omega) (List.Mem.head _)), (fun _ h => absurd h List.not_mem_nil)⟩)⟩) ?_
  exact lp2 ((H.1 s 2).toNat - 0 + 1) (0) (by first | assumption | omega) (fun j h => absurd h (Nat.not_lt_zero _)) (Nat.lt_succ_self _)

theorem c_X5_countAt {d : Nat} {H : ZH} (ok : okZ H) {s : Nat} (hs : isRw s) {i : Nat} (hi : (i : Int) < H.1 s 2) (rw : rwOK H s) (hb : ∀ k, k < (H.1 s 2).toNat → H.2 (s + 1) k ≤ 1000000) : EvC zX (d + 1) mX5_countAt [.ref s, .int (zN ((i : Int)))] (eh H) (zPi (fun (rz : Int) (Hz : ZH) => rz = (zfil (H.2 (s + 1)) (H.1 s 2).toNat i) ∧ Hz = H)) := by
  show _ ∧ Ev zX mX5_countAt (EvC zX d) (zPi (fun (rz : Int) (Hz : ZH) => rz = (zfil (H.2 (s + 1)) (H.1 s 2).toNat i) ∧ Hz = H)) 0 [(0, .ref s), (1, .int (zN ((i : Int))))] [] (eh H)
  refine ⟨Nat.le_of_ble_eq_true rfl, ?_⟩
  obtain ⟨rwA, rwB, rwC⟩ := rw
  refine x_iload_n (pc := 0) dX5_countAt_0 (List.Mem.tail _ (List.Mem.head _)) ?_
  refine x_istore_n (pc := 1) dX5_countAt_1 (Nat.le_of_ble_eq_true rfl) ?_
  show Ev _ _ _ _ _ [(2, .int (zN ((i : Int)))), (0, .ref s), (1, .int (zN ((i : Int))))] _ _
  have lp2 : ∀ (nF : Nat) (x : Int), (-1 ≤ x ∧ x ≤ (i : Int)) → (zba (H.2 (s + 1)) (i + 1) = zba (H.2 (s + 1)) (x + 1).toNat) → (x + 1).toNat < nF → Ev zX mX5_countAt (EvC zX d) (zPi (fun (rz : Int) (Hz : ZH) => rz = (zfil (H.2 (s + 1)) (H.1 s 2).toNat i) ∧ Hz = H)) 2 [(0, .ref s), (1, .int (zN ((i : Int)))), (2, .int (zN (x)))] [] (eh H) := by
    intro nF
    induction nF with
    | zero => intro x hx hz hm; exact absurd hm (Nat.not_lt_zero _)
    | succ nF ih2 =>
      intro x hx hz hm
      refine x_iload_n (pc := 2) dX5_countAt_2 (List.Mem.tail _ (List.Mem.tail _ (List.Mem.head _))) ?_
      refine z_if_lt (pc := 3) (tgt := 23) dX5_countAt_3 (by decide) (by omega) (by omega) (fun hb1 => ?_) (fun hb1 => ?_)
      · skip
        have hx0 : x = -1 := by omega
        have hA : zba (H.2 (s + 1)) (i + 1) = x := by rw [hz, hx0]; rfl
        refine x_iload_n (pc := 23) dX5_countAt_23 (List.Mem.tail _ (List.Mem.head _)) ?_
        refine x_istore_n (pc := 24) dX5_countAt_24 (Nat.le_of_ble_eq_true rfl) ?_
        show Ev _ _ _ _ _ [(3, .int (zN ((i : Int)))), (0, .ref s), (1, .int (zN ((i : Int)))), (2, .int (zN (x)))] _ _
        have lp25 : ∀ (nF : Nat) (k : Nat), (i ≤ k ∧ (k : Int) ≤ H.1 s 2) → (zfw (H.2 (s + 1)) ((H.1 s 2).toNat - i) i = zfw (H.2 (s + 1)) ((H.1 s 2).toNat - k) k) → (H.1 s 2).toNat - k < nF → Ev zX mX5_countAt (EvC zX d) (zPi (fun (rz : Int) (Hz : ZH) => rz = (zfil (H.2 (s + 1)) (H.1 s 2).toNat i) ∧ Hz = H)) 25 [(0, .ref s), (1, .int (zN ((i : Int)))), (2, .int (zN (x))), (3, .int (zN ((k : Int))))] [] (eh H) := by
          intro nF
          induction nF with
          | zero => intro k hk hy hm; exact absurd hm (Nat.not_lt_zero _)
          | succ nF ih25 =>
            intro k hk hy hm
            refine x_iload_n (pc := 25) dX5_countAt_25 (List.Mem.tail _ (List.Mem.tail _ (List.Mem.tail _ (List.Mem.head _)))) ?_
            refine x_aload_n (pc := 26) dX5_countAt_26 (List.Mem.head _) ?_
            have rd2 := ok.1 s 2
            refine z_getI (pc := 27) (k := 2) (v := H.1 s 2) dX5_countAt_27 lf_X5_19 (sh_Rw0 hs) rfl rfl ?_
            refine z_icmp_ge (pc := 30) (tgt := 50) dX5_countAt_30 (by decide) (by omega) (by omega) (by omega) (by omega) (fun hb3 => ?_) (fun hb3 => ?_)
            · skip
              have hB : zfw (H.2 (s + 1)) ((H.1 s 2).toNat - i) i = k := by rw [hy, show (H.1 s 2).toNat - k = 0 by omega]; rfl
              refine x_iload_n (pc := 50) dX5_countAt_50 (List.Mem.tail _ (List.Mem.tail _ (List.Mem.head _))) ?_
              refine z_if_ge (pc := 51) (tgt := 64) dX5_countAt_51 (by decide) (by omega) (by omega) (fun hb4 => ?_) (fun hb4 => ?_)
              · skip
                refine x_iload_n (pc := 64) dX5_countAt_64 (List.Mem.tail _ (List.Mem.tail _ (List.Mem.head _))) ?_
                refine z_if_ge (pc := 65) (tgt := 76) dX5_countAt_65 (by decide) (by omega) (by omega) (fun hb5 => ?_) (fun hb5 => ?_)
                · skip
                  refine x_iload_n (pc := 76) dX5_countAt_76 (List.Mem.tail _ (List.Mem.tail _ (List.Mem.tail _ (List.Mem.head _)))) ?_
                  refine x_aload_n (pc := 77) dX5_countAt_77 (List.Mem.head _) ?_
                  have rd6 := ok.1 s 2
                  refine z_getI (pc := 78) (k := 2) (v := H.1 s 2) dX5_countAt_78 lf_X5_19 (sh_Rw0 hs) rfl rfl ?_
                  refine z_icmp_lt (pc := 81) (tgt := 92) dX5_countAt_81 (by decide) (by omega) (by omega) (by omega) (by omega) (fun hb7 => ?_) (fun hb7 => ?_)
                  · skip
                    refine x_aload_n (pc := 92) dX5_countAt_92 (List.Mem.head _) ?_
                    refine z_getR (pc := 93) (k := 3) (r := (s + 1)) dX5_countAt_93 lf_X5_9 (sh_Rw0 hs) rfl (rf_Rw_3 hs) ?_
                    refine x_iload_n (pc := 96) dX5_countAt_96 (List.Mem.tail _ (List.Mem.tail _ (List.Mem.head _))) ?_
                    have rd8 := ok.2 (s + 1) x.toNat
                    refine z_lald (pc := 97) (j := x.toNat) (v := H.2 (s + 1) x.toNat) dX5_countAt_97 (sh_Rw1 hs) (by omega) (by omega) (by decide) rfl ?_
                    refine x_aload_n (pc := 98) dX5_countAt_98 (List.Mem.head _) ?_
                    refine z_getR (pc := 99) (k := 3) (r := (s + 1)) dX5_countAt_99 lf_X5_9 (sh_Rw0 hs) rfl (rf_Rw_3 hs) ?_
                    refine x_iload_n (pc := 102) dX5_countAt_102 (List.Mem.tail _ (List.Mem.tail _ (List.Mem.tail _ (List.Mem.head _)))) ?_
                    have rd9 := ok.2 (s + 1) k
                    refine z_lald (pc := 103) (j := k) (v := H.2 (s + 1) k) dX5_countAt_103 (sh_Rw1 hs) rfl (by omega) (by decide) rfl ?_
                    refine z_ladd (pc := 104) dX5_countAt_104 ?_
                    have hb1 := hb x.toNat (by omega)
                    have hb2 := hb k (by omega)
                    refine z_ldc2_w (pc := 105) 2 dX5_countAt_105 cl_X5_36 (by decide) ?_
                    refine z_ldivP (pc := 108) dX5_countAt_108 (by omega) (by omega) (by omega) (by omega) ?_
                    refine z_l2i (pc := 109) dX5_countAt_109 ?_
                    refine z_ireturn (pc := 110) dX5_countAt_110 rfl (Or.inl rfl) ok (by omega) (by omega) ?_
                    exact ⟨by unfold zfil; rw [hA, hB]; rw [if_neg (by omega), if_neg (by omega), if_neg (by omega)]; rfl, rfl⟩
                  · skip
                    refine x_aload_n (pc := 84) dX5_countAt_84 (List.Mem.head _) ?_
                    refine z_getR (pc := 85) (k := 3) (r := (s + 1)) dX5_countAt_85 lf_X5_9 (sh_Rw0 hs) rfl (rf_Rw_3 hs) ?_
                    refine x_iload_n (pc := 88) dX5_countAt_88 (List.Mem.tail _ (List.Mem.tail _ (List.Mem.head _))) ?_
                    have rd10 := ok.2 (s + 1) x.toNat
                    refine z_lald (pc := 89) (j := x.toNat) (v := H.2 (s + 1) x.toNat) dX5_countAt_89 (sh_Rw1 hs) (by omega) (by omega) (by decide) rfl ?_
                    have hb1 := hb x.toNat (by omega)
                    refine z_l2i (pc := 90) dX5_countAt_90 ?_
                    refine z_ireturn (pc := 91) dX5_countAt_91 rfl (Or.inl rfl) ok (by omega) (by omega) ?_
                    exact ⟨by unfold zfil; rw [hA, hB]; rw [if_neg (by omega), if_neg (by omega), if_pos (by omega)], rfl⟩
                · skip
                  refine x_aload_n (pc := 68) dX5_countAt_68 (List.Mem.head _) ?_
                  refine z_getR (pc := 69) (k := 3) (r := (s + 1)) dX5_countAt_69 lf_X5_9 (sh_Rw0 hs) rfl (rf_Rw_3 hs) ?_
                  refine x_iload_n (pc := 72) dX5_countAt_72 (List.Mem.tail _ (List.Mem.tail _ (List.Mem.tail _ (List.Mem.head _)))) ?_
                  have rd11 := ok.2 (s + 1) k
                  refine z_lald (pc := 73) (j := k) (v := H.2 (s + 1) k) dX5_countAt_73 (sh_Rw1 hs) rfl (by omega) (by decide) rfl ?_
                  have hb1 := hb k (by omega)
                  refine z_l2i (pc := 74) dX5_countAt_74 ?_
                  refine z_ireturn (pc := 75) dX5_countAt_75 rfl (Or.inl rfl) ok (by omega) (by omega) ?_
                  exact ⟨by unfold zfil; rw [hA, hB]; rw [if_neg (by omega), if_pos (by omega)]; rfl, rfl⟩
              · skip
                refine x_iload_n (pc := 54) dX5_countAt_54 (List.Mem.tail _ (List.Mem.tail _ (List.Mem.tail _ (List.Mem.head _)))) ?_
                refine x_aload_n (pc := 55) dX5_countAt_55 (List.Mem.head _) ?_
                have rd12 := ok.1 s 2
                refine z_getI (pc := 56) (k := 2) (v := H.1 s 2) dX5_countAt_56 lf_X5_19 (sh_Rw0 hs) rfl rfl ?_
                refine z_icmp_lt (pc := 59) (tgt := 64) dX5_countAt_59 (by decide) (by omega) (by omega) (by omega) (by omega) (fun hb13 => ?_) (fun hb13 => ?_)
                · skip
                  refine x_iload_n (pc := 64) dX5_countAt_64 (List.Mem.tail _ (List.Mem.tail _ (List.Mem.head _))) ?_
                  refine z_if_ge (pc := 65) (tgt := 76) dX5_countAt_65 (by decide) (by omega) (by omega) (fun hb14 => ?_) (fun hb14 => ?_)
                  · skip
                    refine x_iload_n (pc := 76) dX5_countAt_76 (List.Mem.tail _ (List.Mem.tail _ (List.Mem.tail _ (List.Mem.head _)))) ?_
                    refine x_aload_n (pc := 77) dX5_countAt_77 (List.Mem.head _) ?_
                    have rd15 := ok.1 s 2
                    refine z_getI (pc := 78) (k := 2) (v := H.1 s 2) dX5_countAt_78 lf_X5_19 (sh_Rw0 hs) rfl rfl ?_
                    refine z_icmp_lt (pc := 81) (tgt := 92) dX5_countAt_81 (by decide) (by omega) (by omega) (by omega) (by omega) (fun hb16 => ?_) (fun hb16 => ?_)
                    · skip
                      refine x_aload_n (pc := 92) dX5_countAt_92 (List.Mem.head _) ?_
                      refine z_getR (pc := 93) (k := 3) (r := (s + 1)) dX5_countAt_93 lf_X5_9 (sh_Rw0 hs) rfl (rf_Rw_3 hs) ?_
                      refine x_iload_n (pc := 96) dX5_countAt_96 (List.Mem.tail _ (List.Mem.tail _ (List.Mem.head _))) ?_
                      have rd17 := ok.2 (s + 1) x.toNat
                      refine z_lald (pc := 97) (j := x.toNat) (v := H.2 (s + 1) x.toNat) dX5_countAt_97 (sh_Rw1 hs) (by omega) (by omega) (by decide) rfl ?_
                      refine x_aload_n (pc := 98) dX5_countAt_98 (List.Mem.head _) ?_
                      refine z_getR (pc := 99) (k := 3) (r := (s + 1)) dX5_countAt_99 lf_X5_9 (sh_Rw0 hs) rfl (rf_Rw_3 hs) ?_
                      refine x_iload_n (pc := 102) dX5_countAt_102 (List.Mem.tail _ (List.Mem.tail _ (List.Mem.tail _ (List.Mem.head _)))) ?_
                      have rd18 := ok.2 (s + 1) k
                      refine z_lald (pc := 103) (j := k) (v := H.2 (s + 1) k) dX5_countAt_103 (sh_Rw1 hs) rfl (by omega) (by decide) rfl ?_
                      refine z_ladd (pc := 104) dX5_countAt_104 ?_
                      have hb1 := hb x.toNat (by omega)
                      have hb2 := hb k (by omega)
                      refine z_ldc2_w (pc := 105) 2 dX5_countAt_105 cl_X5_36 (by decide) ?_
                      refine z_ldivP (pc := 108) dX5_countAt_108 (by omega) (by omega) (by omega) (by omega) ?_
                      refine z_l2i (pc := 109) dX5_countAt_109 ?_
                      refine z_ireturn (pc := 110) dX5_countAt_110 rfl (Or.inl rfl) ok (by omega) (by omega) ?_
                      exact ⟨by unfold zfil; rw [hA, hB]; rw [if_neg (by omega), if_neg (by omega), if_neg (by omega)]; rfl, rfl⟩
                    · skip
                      refine x_aload_n (pc := 84) dX5_countAt_84 (List.Mem.head _) ?_
                      refine z_getR (pc := 85) (k := 3) (r := (s + 1)) dX5_countAt_85 lf_X5_9 (sh_Rw0 hs) rfl (rf_Rw_3 hs) ?_
                      refine x_iload_n (pc := 88) dX5_countAt_88 (List.Mem.tail _ (List.Mem.tail _ (List.Mem.head _))) ?_
                      have rd19 := ok.2 (s + 1) x.toNat
                      refine z_lald (pc := 89) (j := x.toNat) (v := H.2 (s + 1) x.toNat) dX5_countAt_89 (sh_Rw1 hs) (by omega) (by omega) (by decide) rfl ?_
                      have hb1 := hb x.toNat (by omega)
                      refine z_l2i (pc := 90) dX5_countAt_90 ?_
                      refine z_ireturn (pc := 91) dX5_countAt_91 rfl (Or.inl rfl) ok (by omega) (by omega) ?_
                      exact ⟨by unfold zfil; rw [hA, hB]; rw [if_neg (by omega), if_neg (by omega), if_pos (by omega)], rfl⟩
                  · skip
                    refine x_aload_n (pc := 68) dX5_countAt_68 (List.Mem.head _) ?_
                    refine z_getR (pc := 69) (k := 3) (r := (s + 1)) dX5_countAt_69 lf_X5_9 (sh_Rw0 hs) rfl (rf_Rw_3 hs) ?_
                    refine x_iload_n (pc := 72) dX5_countAt_72 (List.Mem.tail _ (List.Mem.tail _ (List.Mem.tail _ (List.Mem.head _)))) ?_
                    have rd20 := ok.2 (s + 1) k
                    refine z_lald (pc := 73) (j := k) (v := H.2 (s + 1) k) dX5_countAt_73 (sh_Rw1 hs) rfl (by omega) (by decide) rfl ?_
                    have hb1 := hb k (by omega)
                    refine z_l2i (pc := 74) dX5_countAt_74 ?_
                    refine z_ireturn (pc := 75) dX5_countAt_75 rfl (Or.inl rfl) ok (by omega) (by omega) ?_
                    exact ⟨by unfold zfil; rw [hA, hB]; rw [if_neg (by omega), if_pos (by omega)]; rfl, rfl⟩
                · skip
                  refine z_iconst (pc := 62) dX5_countAt_62 ?_
                  refine z_ireturn (pc := 63) dX5_countAt_63 rfl (Or.inl rfl) ok (by decide) (by decide) ?_
                  exact ⟨by unfold zfil; rw [hA, hB]; exact (if_pos (by omega)).symm, rfl⟩
            · skip
              refine x_aload_n (pc := 33) dX5_countAt_33 (List.Mem.head _) ?_
              refine z_getR (pc := 34) (k := 3) (r := (s + 1)) dX5_countAt_34 lf_X5_9 (sh_Rw0 hs) rfl (rf_Rw_3 hs) ?_
              refine x_iload_n (pc := 37) dX5_countAt_37 (List.Mem.tail _ (List.Mem.tail _ (List.Mem.tail _ (List.Mem.head _)))) ?_
              have rd21 := ok.2 (s + 1) k
              refine z_lald (pc := 38) (j := k) (v := H.2 (s + 1) k) dX5_countAt_38 (sh_Rw1 hs) rfl (by omega) (by decide) rfl ?_
              refine z_lconst (pc := 39) 0 dX5_countAt_39 rfl ?_
              refine z_lcmp_ge (pc := 40) (tgt := 50) dX5_countAt_40 dX5_countAt_41 (by decide) (by omega) (by omega) (by decide) (by decide) (fun hb22 => ?_) (fun hb22 => ?_)
              · skip
                have hB : zfw (H.2 (s + 1)) ((H.1 s 2).toNat - i) i = k := by rw [hy, show (H.1 s 2).toNat - k = ((H.1 s 2).toNat - (k + 1)) + 1 by omega]; exact if_pos (by omega)
                refine x_iload_n (pc := 50) dX5_countAt_50 (List.Mem.tail _ (List.Mem.tail _ (List.Mem.head _))) ?_
                refine z_if_ge (pc := 51) (tgt := 64) dX5_countAt_51 (by decide) (by omega) (by omega) (fun hb23 => ?_) (fun hb23 => ?_)
                · skip
                  refine x_iload_n (pc := 64) dX5_countAt_64 (List.Mem.tail _ (List.Mem.tail _ (List.Mem.head _))) ?_
                  refine z_if_ge (pc := 65) (tgt := 76) dX5_countAt_65 (by decide) (by omega) (by omega) (fun hb24 => ?_) (fun hb24 => ?_)
                  · skip
                    refine x_iload_n (pc := 76) dX5_countAt_76 (List.Mem.tail _ (List.Mem.tail _ (List.Mem.tail _ (List.Mem.head _)))) ?_
                    refine x_aload_n (pc := 77) dX5_countAt_77 (List.Mem.head _) ?_
                    have rd25 := ok.1 s 2
                    refine z_getI (pc := 78) (k := 2) (v := H.1 s 2) dX5_countAt_78 lf_X5_19 (sh_Rw0 hs) rfl rfl ?_
                    refine z_icmp_lt (pc := 81) (tgt := 92) dX5_countAt_81 (by decide) (by omega) (by omega) (by omega) (by omega) (fun hb26 => ?_) (fun hb26 => ?_)
                    · skip
                      refine x_aload_n (pc := 92) dX5_countAt_92 (List.Mem.head _) ?_
                      refine z_getR (pc := 93) (k := 3) (r := (s + 1)) dX5_countAt_93 lf_X5_9 (sh_Rw0 hs) rfl (rf_Rw_3 hs) ?_
                      refine x_iload_n (pc := 96) dX5_countAt_96 (List.Mem.tail _ (List.Mem.tail _ (List.Mem.head _))) ?_
                      have rd27 := ok.2 (s + 1) x.toNat
                      refine z_lald (pc := 97) (j := x.toNat) (v := H.2 (s + 1) x.toNat) dX5_countAt_97 (sh_Rw1 hs) (by omega) (by omega) (by decide) rfl ?_
                      refine x_aload_n (pc := 98) dX5_countAt_98 (List.Mem.head _) ?_
                      refine z_getR (pc := 99) (k := 3) (r := (s + 1)) dX5_countAt_99 lf_X5_9 (sh_Rw0 hs) rfl (rf_Rw_3 hs) ?_
                      refine x_iload_n (pc := 102) dX5_countAt_102 (List.Mem.tail _ (List.Mem.tail _ (List.Mem.tail _ (List.Mem.head _)))) ?_
                      have rd28 := ok.2 (s + 1) k
                      refine z_lald (pc := 103) (j := k) (v := H.2 (s + 1) k) dX5_countAt_103 (sh_Rw1 hs) rfl (by omega) (by decide) rfl ?_
                      refine z_ladd (pc := 104) dX5_countAt_104 ?_
                      have hb1 := hb x.toNat (by omega)
                      have hb2 := hb k (by omega)
                      refine z_ldc2_w (pc := 105) 2 dX5_countAt_105 cl_X5_36 (by decide) ?_
                      refine z_ldivP (pc := 108) dX5_countAt_108 (by omega) (by omega) (by omega) (by omega) ?_
                      refine z_l2i (pc := 109) dX5_countAt_109 ?_
                      refine z_ireturn (pc := 110) dX5_countAt_110 rfl (Or.inl rfl) ok (by omega) (by omega) ?_
                      exact ⟨by unfold zfil; rw [hA, hB]; rw [if_neg (by omega), if_neg (by omega), if_neg (by omega)]; rfl, rfl⟩
                    · skip
                      refine x_aload_n (pc := 84) dX5_countAt_84 (List.Mem.head _) ?_
                      refine z_getR (pc := 85) (k := 3) (r := (s + 1)) dX5_countAt_85 lf_X5_9 (sh_Rw0 hs) rfl (rf_Rw_3 hs) ?_
                      refine x_iload_n (pc := 88) dX5_countAt_88 (List.Mem.tail _ (List.Mem.tail _ (List.Mem.head _))) ?_
                      have rd29 := ok.2 (s + 1) x.toNat
                      refine z_lald (pc := 89) (j := x.toNat) (v := H.2 (s + 1) x.toNat) dX5_countAt_89 (sh_Rw1 hs) (by omega) (by omega) (by decide) rfl ?_
                      have hb1 := hb x.toNat (by omega)
                      refine z_l2i (pc := 90) dX5_countAt_90 ?_
                      refine z_ireturn (pc := 91) dX5_countAt_91 rfl (Or.inl rfl) ok (by omega) (by omega) ?_
                      exact ⟨by unfold zfil; rw [hA, hB]; rw [if_neg (by omega), if_neg (by omega), if_pos (by omega)], rfl⟩
                  · skip
                    refine x_aload_n (pc := 68) dX5_countAt_68 (List.Mem.head _) ?_
                    refine z_getR (pc := 69) (k := 3) (r := (s + 1)) dX5_countAt_69 lf_X5_9 (sh_Rw0 hs) rfl (rf_Rw_3 hs) ?_
                    refine x_iload_n (pc := 72) dX5_countAt_72 (List.Mem.tail _ (List.Mem.tail _ (List.Mem.tail _ (List.Mem.head _)))) ?_
                    have rd30 := ok.2 (s + 1) k
                    refine z_lald (pc := 73) (j := k) (v := H.2 (s + 1) k) dX5_countAt_73 (sh_Rw1 hs) rfl (by omega) (by decide) rfl ?_
                    have hb1 := hb k (by omega)
                    refine z_l2i (pc := 74) dX5_countAt_74 ?_
                    refine z_ireturn (pc := 75) dX5_countAt_75 rfl (Or.inl rfl) ok (by omega) (by omega) ?_
                    exact ⟨by unfold zfil; rw [hA, hB]; rw [if_neg (by omega), if_pos (by omega)]; rfl, rfl⟩
                · skip
                  refine x_iload_n (pc := 54) dX5_countAt_54 (List.Mem.tail _ (List.Mem.tail _ (List.Mem.tail _ (List.Mem.head _)))) ?_
                  refine x_aload_n (pc := 55) dX5_countAt_55 (List.Mem.head _) ?_
                  have rd31 := ok.1 s 2
                  refine z_getI (pc := 56) (k := 2) (v := H.1 s 2) dX5_countAt_56 lf_X5_19 (sh_Rw0 hs) rfl rfl ?_
                  refine z_icmp_lt (pc := 59) (tgt := 64) dX5_countAt_59 (by decide) (by omega) (by omega) (by omega) (by omega) (fun hb32 => ?_) (fun hb32 => ?_)
                  · skip
                    refine x_iload_n (pc := 64) dX5_countAt_64 (List.Mem.tail _ (List.Mem.tail _ (List.Mem.head _))) ?_
                    refine z_if_ge (pc := 65) (tgt := 76) dX5_countAt_65 (by decide) (by omega) (by omega) (fun hb33 => ?_) (fun hb33 => ?_)
                    · skip
                      refine x_iload_n (pc := 76) dX5_countAt_76 (List.Mem.tail _ (List.Mem.tail _ (List.Mem.tail _ (List.Mem.head _)))) ?_
                      refine x_aload_n (pc := 77) dX5_countAt_77 (List.Mem.head _) ?_
                      have rd34 := ok.1 s 2
                      refine z_getI (pc := 78) (k := 2) (v := H.1 s 2) dX5_countAt_78 lf_X5_19 (sh_Rw0 hs) rfl rfl ?_
                      refine z_icmp_lt (pc := 81) (tgt := 92) dX5_countAt_81 (by decide) (by omega) (by omega) (by omega) (by omega) (fun hb35 => ?_) (fun hb35 => ?_)
                      · skip
                        refine x_aload_n (pc := 92) dX5_countAt_92 (List.Mem.head _) ?_
                        refine z_getR (pc := 93) (k := 3) (r := (s + 1)) dX5_countAt_93 lf_X5_9 (sh_Rw0 hs) rfl (rf_Rw_3 hs) ?_
                        refine x_iload_n (pc := 96) dX5_countAt_96 (List.Mem.tail _ (List.Mem.tail _ (List.Mem.head _))) ?_
                        have rd36 := ok.2 (s + 1) x.toNat
                        refine z_lald (pc := 97) (j := x.toNat) (v := H.2 (s + 1) x.toNat) dX5_countAt_97 (sh_Rw1 hs) (by omega) (by omega) (by decide) rfl ?_
                        refine x_aload_n (pc := 98) dX5_countAt_98 (List.Mem.head _) ?_
                        refine z_getR (pc := 99) (k := 3) (r := (s + 1)) dX5_countAt_99 lf_X5_9 (sh_Rw0 hs) rfl (rf_Rw_3 hs) ?_
                        refine x_iload_n (pc := 102) dX5_countAt_102 (List.Mem.tail _ (List.Mem.tail _ (List.Mem.tail _ (List.Mem.head _)))) ?_
                        have rd37 := ok.2 (s + 1) k
                        refine z_lald (pc := 103) (j := k) (v := H.2 (s + 1) k) dX5_countAt_103 (sh_Rw1 hs) rfl (by omega) (by decide) rfl ?_
                        refine z_ladd (pc := 104) dX5_countAt_104 ?_
                        have hb1 := hb x.toNat (by omega)
                        have hb2 := hb k (by omega)
                        refine z_ldc2_w (pc := 105) 2 dX5_countAt_105 cl_X5_36 (by decide) ?_
                        refine z_ldivP (pc := 108) dX5_countAt_108 (by omega) (by omega) (by omega) (by omega) ?_
                        refine z_l2i (pc := 109) dX5_countAt_109 ?_
                        refine z_ireturn (pc := 110) dX5_countAt_110 rfl (Or.inl rfl) ok (by omega) (by omega) ?_
                        exact ⟨by unfold zfil; rw [hA, hB]; rw [if_neg (by omega), if_neg (by omega), if_neg (by omega)]; rfl, rfl⟩
                      · skip
                        refine x_aload_n (pc := 84) dX5_countAt_84 (List.Mem.head _) ?_
                        refine z_getR (pc := 85) (k := 3) (r := (s + 1)) dX5_countAt_85 lf_X5_9 (sh_Rw0 hs) rfl (rf_Rw_3 hs) ?_
                        refine x_iload_n (pc := 88) dX5_countAt_88 (List.Mem.tail _ (List.Mem.tail _ (List.Mem.head _))) ?_
                        have rd38 := ok.2 (s + 1) x.toNat
                        refine z_lald (pc := 89) (j := x.toNat) (v := H.2 (s + 1) x.toNat) dX5_countAt_89 (sh_Rw1 hs) (by omega) (by omega) (by decide) rfl ?_
                        have hb1 := hb x.toNat (by omega)
                        refine z_l2i (pc := 90) dX5_countAt_90 ?_
                        refine z_ireturn (pc := 91) dX5_countAt_91 rfl (Or.inl rfl) ok (by omega) (by omega) ?_
                        exact ⟨by unfold zfil; rw [hA, hB]; rw [if_neg (by omega), if_neg (by omega), if_pos (by omega)], rfl⟩
                    · skip
                      refine x_aload_n (pc := 68) dX5_countAt_68 (List.Mem.head _) ?_
                      refine z_getR (pc := 69) (k := 3) (r := (s + 1)) dX5_countAt_69 lf_X5_9 (sh_Rw0 hs) rfl (rf_Rw_3 hs) ?_
                      refine x_iload_n (pc := 72) dX5_countAt_72 (List.Mem.tail _ (List.Mem.tail _ (List.Mem.tail _ (List.Mem.head _)))) ?_
                      have rd39 := ok.2 (s + 1) k
                      refine z_lald (pc := 73) (j := k) (v := H.2 (s + 1) k) dX5_countAt_73 (sh_Rw1 hs) rfl (by omega) (by decide) rfl ?_
                      have hb1 := hb k (by omega)
                      refine z_l2i (pc := 74) dX5_countAt_74 ?_
                      refine z_ireturn (pc := 75) dX5_countAt_75 rfl (Or.inl rfl) ok (by omega) (by omega) ?_
                      exact ⟨by unfold zfil; rw [hA, hB]; rw [if_neg (by omega), if_pos (by omega)]; rfl, rfl⟩
                  · skip
                    refine z_iconst (pc := 62) dX5_countAt_62 ?_
                    refine z_ireturn (pc := 63) dX5_countAt_63 rfl (Or.inl rfl) ok (by decide) (by decide) ?_
                    exact ⟨by unfold zfil; rw [hA, hB]; exact (if_pos (by omega)).symm, rfl⟩
              · skip
                refine z_iinc (pc := 44) dX5_countAt_44 (List.Mem.tail _ (List.Mem.tail _ (List.Mem.tail _ (List.Mem.head _)))) (Nat.le_of_ble_eq_true rfl) ?_
                show Ev _ _ _ _ _ [(3, .int (zN ((k : Int) + 1))), (0, .ref s), (1, .int (zN ((i : Int)))), (2, .int (zN (x)))] _ _
                refine x_goto (pc := 47) (tgt := 25) dX5_countAt_47 (by decide) ?_
                refine x_weaken (L1 := [(0, .ref s), (1, .int (zN ((i : Int)))), (2, .int (zN (x))), (3, .int (zN ((((k + 1) : Nat) : Int))))]) (List.forall_mem_cons.mpr ⟨(List.Mem.tail _ (List.Mem.head _)), (List.forall_mem_cons.mpr ⟨(List.Mem.tail _ (List.Mem.tail _ (List.Mem.head _))), (List.forall_mem_cons.mpr ⟨(List.Mem.tail _ (List.Mem.tail _ (List.Mem.tail _ (List.Mem.head _)))), (List.forall_mem_cons.mpr ⟨(mem_ci (by omega) (List.Mem.head _)), (fun _ h => absurd h List.not_mem_nil)⟩)⟩)⟩)⟩) ?_
                exact ih25 ((k + 1)) (by omega) (by rw [hy, show (H.1 s 2).toNat - k = ((H.1 s 2).toNat - (k + 1)) + 1 by omega]; exact if_neg (by omega)) (by omega)
        refine x_weaken (L1 := [(0, .ref s), (1, .int (zN ((i : Int)))), (2, .int (zN (x))), (3, .int (zN (((i : Nat) : Int))))]) (List.forall_mem_cons.mpr ⟨(List.Mem.tail _ (List.Mem.head _)), (List.forall_mem_cons.mpr ⟨(List.Mem.tail _ (List.Mem.tail _ (List.Mem.head _))), (List.forall_mem_cons.mpr ⟨(List.Mem.tail _ (List.Mem.tail _ (List.Mem.tail _ (List.Mem.head _)))), (List.forall_mem_cons.mpr ⟨(mem_ci (by omega) (List.Mem.head _)), (fun _ h => absurd h List.not_mem_nil)⟩)⟩)⟩)⟩) ?_
        exact lp25 ((H.1 s 2).toNat - i + 1) (i) (by omega) (rfl) (Nat.lt_succ_self _)
      · skip
        refine x_aload_n (pc := 6) dX5_countAt_6 (List.Mem.head _) ?_
        refine z_getR (pc := 7) (k := 3) (r := (s + 1)) dX5_countAt_7 lf_X5_9 (sh_Rw0 hs) rfl (rf_Rw_3 hs) ?_
        refine x_iload_n (pc := 10) dX5_countAt_10 (List.Mem.tail _ (List.Mem.tail _ (List.Mem.head _))) ?_
        have rd40 := ok.2 (s + 1) x.toNat
        refine z_lald (pc := 11) (j := x.toNat) (v := H.2 (s + 1) x.toNat) dX5_countAt_11 (sh_Rw1 hs) (by omega) (by omega) (by decide) rfl ?_
        refine z_lconst (pc := 12) 0 dX5_countAt_12 rfl ?_
        refine z_lcmp_ge (pc := 13) (tgt := 23) dX5_countAt_13 dX5_countAt_14 (by decide) (by omega) (by omega) (by decide) (by decide) (fun hb41 => ?_) (fun hb41 => ?_)
        · skip
          have hA : zba (H.2 (s + 1)) (i + 1) = x := by rw [hz, show (x + 1).toNat = x.toNat + 1 by omega]; exact (if_pos (by omega)).trans (by omega)
          refine x_iload_n (pc := 23) dX5_countAt_23 (List.Mem.tail _ (List.Mem.head _)) ?_
          refine x_istore_n (pc := 24) dX5_countAt_24 (Nat.le_of_ble_eq_true rfl) ?_
          show Ev _ _ _ _ _ [(3, .int (zN ((i : Int)))), (0, .ref s), (1, .int (zN ((i : Int)))), (2, .int (zN (x)))] _ _
          have lp25 : ∀ (nF : Nat) (k : Nat), (i ≤ k ∧ (k : Int) ≤ H.1 s 2) → (zfw (H.2 (s + 1)) ((H.1 s 2).toNat - i) i = zfw (H.2 (s + 1)) ((H.1 s 2).toNat - k) k) → (H.1 s 2).toNat - k < nF → Ev zX mX5_countAt (EvC zX d) (zPi (fun (rz : Int) (Hz : ZH) => rz = (zfil (H.2 (s + 1)) (H.1 s 2).toNat i) ∧ Hz = H)) 25 [(0, .ref s), (1, .int (zN ((i : Int)))), (2, .int (zN (x))), (3, .int (zN ((k : Int))))] [] (eh H) := by
            intro nF
            induction nF with
            | zero => intro k hk hy hm; exact absurd hm (Nat.not_lt_zero _)
            | succ nF ih25 =>
              intro k hk hy hm
              refine x_iload_n (pc := 25) dX5_countAt_25 (List.Mem.tail _ (List.Mem.tail _ (List.Mem.tail _ (List.Mem.head _)))) ?_
              refine x_aload_n (pc := 26) dX5_countAt_26 (List.Mem.head _) ?_
              have rd42 := ok.1 s 2
              refine z_getI (pc := 27) (k := 2) (v := H.1 s 2) dX5_countAt_27 lf_X5_19 (sh_Rw0 hs) rfl rfl ?_
              refine z_icmp_ge (pc := 30) (tgt := 50) dX5_countAt_30 (by decide) (by omega) (by omega) (by omega) (by omega) (fun hb43 => ?_) (fun hb43 => ?_)
              · skip
                have hB : zfw (H.2 (s + 1)) ((H.1 s 2).toNat - i) i = k := by rw [hy, show (H.1 s 2).toNat - k = 0 by omega]; rfl
                refine x_iload_n (pc := 50) dX5_countAt_50 (List.Mem.tail _ (List.Mem.tail _ (List.Mem.head _))) ?_
                refine z_if_ge (pc := 51) (tgt := 64) dX5_countAt_51 (by decide) (by omega) (by omega) (fun hb44 => ?_) (fun hb44 => ?_)
                · skip
                  refine x_iload_n (pc := 64) dX5_countAt_64 (List.Mem.tail _ (List.Mem.tail _ (List.Mem.head _))) ?_
                  refine z_if_ge (pc := 65) (tgt := 76) dX5_countAt_65 (by decide) (by omega) (by omega) (fun hb45 => ?_) (fun hb45 => ?_)
                  · skip
                    refine x_iload_n (pc := 76) dX5_countAt_76 (List.Mem.tail _ (List.Mem.tail _ (List.Mem.tail _ (List.Mem.head _)))) ?_
                    refine x_aload_n (pc := 77) dX5_countAt_77 (List.Mem.head _) ?_
                    have rd46 := ok.1 s 2
                    refine z_getI (pc := 78) (k := 2) (v := H.1 s 2) dX5_countAt_78 lf_X5_19 (sh_Rw0 hs) rfl rfl ?_
                    refine z_icmp_lt (pc := 81) (tgt := 92) dX5_countAt_81 (by decide) (by omega) (by omega) (by omega) (by omega) (fun hb47 => ?_) (fun hb47 => ?_)
                    · skip
                      refine x_aload_n (pc := 92) dX5_countAt_92 (List.Mem.head _) ?_
                      refine z_getR (pc := 93) (k := 3) (r := (s + 1)) dX5_countAt_93 lf_X5_9 (sh_Rw0 hs) rfl (rf_Rw_3 hs) ?_
                      refine x_iload_n (pc := 96) dX5_countAt_96 (List.Mem.tail _ (List.Mem.tail _ (List.Mem.head _))) ?_
                      have rd48 := ok.2 (s + 1) x.toNat
                      refine z_lald (pc := 97) (j := x.toNat) (v := H.2 (s + 1) x.toNat) dX5_countAt_97 (sh_Rw1 hs) (by omega) (by omega) (by decide) rfl ?_
                      refine x_aload_n (pc := 98) dX5_countAt_98 (List.Mem.head _) ?_
                      refine z_getR (pc := 99) (k := 3) (r := (s + 1)) dX5_countAt_99 lf_X5_9 (sh_Rw0 hs) rfl (rf_Rw_3 hs) ?_
                      refine x_iload_n (pc := 102) dX5_countAt_102 (List.Mem.tail _ (List.Mem.tail _ (List.Mem.tail _ (List.Mem.head _)))) ?_
                      have rd49 := ok.2 (s + 1) k
                      refine z_lald (pc := 103) (j := k) (v := H.2 (s + 1) k) dX5_countAt_103 (sh_Rw1 hs) rfl (by omega) (by decide) rfl ?_
                      refine z_ladd (pc := 104) dX5_countAt_104 ?_
                      have hb1 := hb x.toNat (by omega)
                      have hb2 := hb k (by omega)
                      refine z_ldc2_w (pc := 105) 2 dX5_countAt_105 cl_X5_36 (by decide) ?_
                      refine z_ldivP (pc := 108) dX5_countAt_108 (by omega) (by omega) (by omega) (by omega) ?_
                      refine z_l2i (pc := 109) dX5_countAt_109 ?_
                      refine z_ireturn (pc := 110) dX5_countAt_110 rfl (Or.inl rfl) ok (by omega) (by omega) ?_
                      exact ⟨by unfold zfil; rw [hA, hB]; rw [if_neg (by omega), if_neg (by omega), if_neg (by omega)]; rfl, rfl⟩
                    · skip
                      refine x_aload_n (pc := 84) dX5_countAt_84 (List.Mem.head _) ?_
                      refine z_getR (pc := 85) (k := 3) (r := (s + 1)) dX5_countAt_85 lf_X5_9 (sh_Rw0 hs) rfl (rf_Rw_3 hs) ?_
                      refine x_iload_n (pc := 88) dX5_countAt_88 (List.Mem.tail _ (List.Mem.tail _ (List.Mem.head _))) ?_
                      have rd50 := ok.2 (s + 1) x.toNat
                      refine z_lald (pc := 89) (j := x.toNat) (v := H.2 (s + 1) x.toNat) dX5_countAt_89 (sh_Rw1 hs) (by omega) (by omega) (by decide) rfl ?_
                      have hb1 := hb x.toNat (by omega)
                      refine z_l2i (pc := 90) dX5_countAt_90 ?_
                      refine z_ireturn (pc := 91) dX5_countAt_91 rfl (Or.inl rfl) ok (by omega) (by omega) ?_
                      exact ⟨by unfold zfil; rw [hA, hB]; rw [if_neg (by omega), if_neg (by omega), if_pos (by omega)], rfl⟩
                  · skip
                    refine x_aload_n (pc := 68) dX5_countAt_68 (List.Mem.head _) ?_
                    refine z_getR (pc := 69) (k := 3) (r := (s + 1)) dX5_countAt_69 lf_X5_9 (sh_Rw0 hs) rfl (rf_Rw_3 hs) ?_
                    refine x_iload_n (pc := 72) dX5_countAt_72 (List.Mem.tail _ (List.Mem.tail _ (List.Mem.tail _ (List.Mem.head _)))) ?_
                    have rd51 := ok.2 (s + 1) k
                    refine z_lald (pc := 73) (j := k) (v := H.2 (s + 1) k) dX5_countAt_73 (sh_Rw1 hs) rfl (by omega) (by decide) rfl ?_
                    have hb1 := hb k (by omega)
                    refine z_l2i (pc := 74) dX5_countAt_74 ?_
                    refine z_ireturn (pc := 75) dX5_countAt_75 rfl (Or.inl rfl) ok (by omega) (by omega) ?_
                    exact ⟨by unfold zfil; rw [hA, hB]; rw [if_neg (by omega), if_pos (by omega)]; rfl, rfl⟩
                · skip
                  refine x_iload_n (pc := 54) dX5_countAt_54 (List.Mem.tail _ (List.Mem.tail _ (List.Mem.tail _ (List.Mem.head _)))) ?_
                  refine x_aload_n (pc := 55) dX5_countAt_55 (List.Mem.head _) ?_
                  have rd52 := ok.1 s 2
                  refine z_getI (pc := 56) (k := 2) (v := H.1 s 2) dX5_countAt_56 lf_X5_19 (sh_Rw0 hs) rfl rfl ?_
                  refine z_icmp_lt (pc := 59) (tgt := 64) dX5_countAt_59 (by decide) (by omega) (by omega) (by omega) (by omega) (fun hb53 => ?_) (fun hb53 => ?_)
                  · skip
                    refine x_iload_n (pc := 64) dX5_countAt_64 (List.Mem.tail _ (List.Mem.tail _ (List.Mem.head _))) ?_
                    refine z_if_ge (pc := 65) (tgt := 76) dX5_countAt_65 (by decide) (by omega) (by omega) (fun hb54 => ?_) (fun hb54 => ?_)
                    · skip
                      refine x_iload_n (pc := 76) dX5_countAt_76 (List.Mem.tail _ (List.Mem.tail _ (List.Mem.tail _ (List.Mem.head _)))) ?_
                      refine x_aload_n (pc := 77) dX5_countAt_77 (List.Mem.head _) ?_
                      have rd55 := ok.1 s 2
                      refine z_getI (pc := 78) (k := 2) (v := H.1 s 2) dX5_countAt_78 lf_X5_19 (sh_Rw0 hs) rfl rfl ?_
                      refine z_icmp_lt (pc := 81) (tgt := 92) dX5_countAt_81 (by decide) (by omega) (by omega) (by omega) (by omega) (fun hb56 => ?_) (fun hb56 => ?_)
                      · skip
                        refine x_aload_n (pc := 92) dX5_countAt_92 (List.Mem.head _) ?_
                        refine z_getR (pc := 93) (k := 3) (r := (s + 1)) dX5_countAt_93 lf_X5_9 (sh_Rw0 hs) rfl (rf_Rw_3 hs) ?_
                        refine x_iload_n (pc := 96) dX5_countAt_96 (List.Mem.tail _ (List.Mem.tail _ (List.Mem.head _))) ?_
                        have rd57 := ok.2 (s + 1) x.toNat
                        refine z_lald (pc := 97) (j := x.toNat) (v := H.2 (s + 1) x.toNat) dX5_countAt_97 (sh_Rw1 hs) (by omega) (by omega) (by decide) rfl ?_
                        refine x_aload_n (pc := 98) dX5_countAt_98 (List.Mem.head _) ?_
                        refine z_getR (pc := 99) (k := 3) (r := (s + 1)) dX5_countAt_99 lf_X5_9 (sh_Rw0 hs) rfl (rf_Rw_3 hs) ?_
                        refine x_iload_n (pc := 102) dX5_countAt_102 (List.Mem.tail _ (List.Mem.tail _ (List.Mem.tail _ (List.Mem.head _)))) ?_
                        have rd58 := ok.2 (s + 1) k
                        refine z_lald (pc := 103) (j := k) (v := H.2 (s + 1) k) dX5_countAt_103 (sh_Rw1 hs) rfl (by omega) (by decide) rfl ?_
                        refine z_ladd (pc := 104) dX5_countAt_104 ?_
                        have hb1 := hb x.toNat (by omega)
                        have hb2 := hb k (by omega)
                        refine z_ldc2_w (pc := 105) 2 dX5_countAt_105 cl_X5_36 (by decide) ?_
                        refine z_ldivP (pc := 108) dX5_countAt_108 (by omega) (by omega) (by omega) (by omega) ?_
                        refine z_l2i (pc := 109) dX5_countAt_109 ?_
                        refine z_ireturn (pc := 110) dX5_countAt_110 rfl (Or.inl rfl) ok (by omega) (by omega) ?_
                        exact ⟨by unfold zfil; rw [hA, hB]; rw [if_neg (by omega), if_neg (by omega), if_neg (by omega)]; rfl, rfl⟩
                      · skip
                        refine x_aload_n (pc := 84) dX5_countAt_84 (List.Mem.head _) ?_
                        refine z_getR (pc := 85) (k := 3) (r := (s + 1)) dX5_countAt_85 lf_X5_9 (sh_Rw0 hs) rfl (rf_Rw_3 hs) ?_
                        refine x_iload_n (pc := 88) dX5_countAt_88 (List.Mem.tail _ (List.Mem.tail _ (List.Mem.head _))) ?_
                        have rd59 := ok.2 (s + 1) x.toNat
                        refine z_lald (pc := 89) (j := x.toNat) (v := H.2 (s + 1) x.toNat) dX5_countAt_89 (sh_Rw1 hs) (by omega) (by omega) (by decide) rfl ?_
                        have hb1 := hb x.toNat (by omega)
                        refine z_l2i (pc := 90) dX5_countAt_90 ?_
                        refine z_ireturn (pc := 91) dX5_countAt_91 rfl (Or.inl rfl) ok (by omega) (by omega) ?_
                        exact ⟨by unfold zfil; rw [hA, hB]; rw [if_neg (by omega), if_neg (by omega), if_pos (by omega)], rfl⟩
                    · skip
                      refine x_aload_n (pc := 68) dX5_countAt_68 (List.Mem.head _) ?_
                      refine z_getR (pc := 69) (k := 3) (r := (s + 1)) dX5_countAt_69 lf_X5_9 (sh_Rw0 hs) rfl (rf_Rw_3 hs) ?_
                      refine x_iload_n (pc := 72) dX5_countAt_72 (List.Mem.tail _ (List.Mem.tail _ (List.Mem.tail _ (List.Mem.head _)))) ?_
                      have rd60 := ok.2 (s + 1) k
                      refine z_lald (pc := 73) (j := k) (v := H.2 (s + 1) k) dX5_countAt_73 (sh_Rw1 hs) rfl (by omega) (by decide) rfl ?_
                      have hb1 := hb k (by omega)
                      refine z_l2i (pc := 74) dX5_countAt_74 ?_
                      refine z_ireturn (pc := 75) dX5_countAt_75 rfl (Or.inl rfl) ok (by omega) (by omega) ?_
                      exact ⟨by unfold zfil; rw [hA, hB]; rw [if_neg (by omega), if_pos (by omega)]; rfl, rfl⟩
                  · skip
                    refine z_iconst (pc := 62) dX5_countAt_62 ?_
                    refine z_ireturn (pc := 63) dX5_countAt_63 rfl (Or.inl rfl) ok (by decide) (by decide) ?_
                    exact ⟨by unfold zfil; rw [hA, hB]; exact (if_pos (by omega)).symm, rfl⟩
              · skip
                refine x_aload_n (pc := 33) dX5_countAt_33 (List.Mem.head _) ?_
                refine z_getR (pc := 34) (k := 3) (r := (s + 1)) dX5_countAt_34 lf_X5_9 (sh_Rw0 hs) rfl (rf_Rw_3 hs) ?_
                refine x_iload_n (pc := 37) dX5_countAt_37 (List.Mem.tail _ (List.Mem.tail _ (List.Mem.tail _ (List.Mem.head _)))) ?_
                have rd61 := ok.2 (s + 1) k
                refine z_lald (pc := 38) (j := k) (v := H.2 (s + 1) k) dX5_countAt_38 (sh_Rw1 hs) rfl (by omega) (by decide) rfl ?_
                refine z_lconst (pc := 39) 0 dX5_countAt_39 rfl ?_
                refine z_lcmp_ge (pc := 40) (tgt := 50) dX5_countAt_40 dX5_countAt_41 (by decide) (by omega) (by omega) (by decide) (by decide) (fun hb62 => ?_) (fun hb62 => ?_)
                · skip
                  have hB : zfw (H.2 (s + 1)) ((H.1 s 2).toNat - i) i = k := by rw [hy, show (H.1 s 2).toNat - k = ((H.1 s 2).toNat - (k + 1)) + 1 by omega]; exact if_pos (by omega)
                  refine x_iload_n (pc := 50) dX5_countAt_50 (List.Mem.tail _ (List.Mem.tail _ (List.Mem.head _))) ?_
                  refine z_if_ge (pc := 51) (tgt := 64) dX5_countAt_51 (by decide) (by omega) (by omega) (fun hb63 => ?_) (fun hb63 => ?_)
                  · skip
                    refine x_iload_n (pc := 64) dX5_countAt_64 (List.Mem.tail _ (List.Mem.tail _ (List.Mem.head _))) ?_
                    refine z_if_ge (pc := 65) (tgt := 76) dX5_countAt_65 (by decide) (by omega) (by omega) (fun hb64 => ?_) (fun hb64 => ?_)
                    · skip
                      refine x_iload_n (pc := 76) dX5_countAt_76 (List.Mem.tail _ (List.Mem.tail _ (List.Mem.tail _ (List.Mem.head _)))) ?_
                      refine x_aload_n (pc := 77) dX5_countAt_77 (List.Mem.head _) ?_
                      have rd65 := ok.1 s 2
                      refine z_getI (pc := 78) (k := 2) (v := H.1 s 2) dX5_countAt_78 lf_X5_19 (sh_Rw0 hs) rfl rfl ?_
                      refine z_icmp_lt (pc := 81) (tgt := 92) dX5_countAt_81 (by decide) (by omega) (by omega) (by omega) (by omega) (fun hb66 => ?_) (fun hb66 => ?_)
                      · skip
                        refine x_aload_n (pc := 92) dX5_countAt_92 (List.Mem.head _) ?_
                        refine z_getR (pc := 93) (k := 3) (r := (s + 1)) dX5_countAt_93 lf_X5_9 (sh_Rw0 hs) rfl (rf_Rw_3 hs) ?_
                        refine x_iload_n (pc := 96) dX5_countAt_96 (List.Mem.tail _ (List.Mem.tail _ (List.Mem.head _))) ?_
                        have rd67 := ok.2 (s + 1) x.toNat
                        refine z_lald (pc := 97) (j := x.toNat) (v := H.2 (s + 1) x.toNat) dX5_countAt_97 (sh_Rw1 hs) (by omega) (by omega) (by decide) rfl ?_
                        refine x_aload_n (pc := 98) dX5_countAt_98 (List.Mem.head _) ?_
                        refine z_getR (pc := 99) (k := 3) (r := (s + 1)) dX5_countAt_99 lf_X5_9 (sh_Rw0 hs) rfl (rf_Rw_3 hs) ?_
                        refine x_iload_n (pc := 102) dX5_countAt_102 (List.Mem.tail _ (List.Mem.tail _ (List.Mem.tail _ (List.Mem.head _)))) ?_
                        have rd68 := ok.2 (s + 1) k
                        refine z_lald (pc := 103) (j := k) (v := H.2 (s + 1) k) dX5_countAt_103 (sh_Rw1 hs) rfl (by omega) (by decide) rfl ?_
                        refine z_ladd (pc := 104) dX5_countAt_104 ?_
                        have hb1 := hb x.toNat (by omega)
                        have hb2 := hb k (by omega)
                        refine z_ldc2_w (pc := 105) 2 dX5_countAt_105 cl_X5_36 (by decide) ?_
                        refine z_ldivP (pc := 108) dX5_countAt_108 (by omega) (by omega) (by omega) (by omega) ?_
                        refine z_l2i (pc := 109) dX5_countAt_109 ?_
                        refine z_ireturn (pc := 110) dX5_countAt_110 rfl (Or.inl rfl) ok (by omega) (by omega) ?_
                        exact ⟨by unfold zfil; rw [hA, hB]; rw [if_neg (by omega), if_neg (by omega), if_neg (by omega)]; rfl, rfl⟩
                      · skip
                        refine x_aload_n (pc := 84) dX5_countAt_84 (List.Mem.head _) ?_
                        refine z_getR (pc := 85) (k := 3) (r := (s + 1)) dX5_countAt_85 lf_X5_9 (sh_Rw0 hs) rfl (rf_Rw_3 hs) ?_
                        refine x_iload_n (pc := 88) dX5_countAt_88 (List.Mem.tail _ (List.Mem.tail _ (List.Mem.head _))) ?_
                        have rd69 := ok.2 (s + 1) x.toNat
                        refine z_lald (pc := 89) (j := x.toNat) (v := H.2 (s + 1) x.toNat) dX5_countAt_89 (sh_Rw1 hs) (by omega) (by omega) (by decide) rfl ?_
                        have hb1 := hb x.toNat (by omega)
                        refine z_l2i (pc := 90) dX5_countAt_90 ?_
                        refine z_ireturn (pc := 91) dX5_countAt_91 rfl (Or.inl rfl) ok (by omega) (by omega) ?_
                        exact ⟨by unfold zfil; rw [hA, hB]; rw [if_neg (by omega), if_neg (by omega), if_pos (by omega)], rfl⟩
                    · skip
                      refine x_aload_n (pc := 68) dX5_countAt_68 (List.Mem.head _) ?_
                      refine z_getR (pc := 69) (k := 3) (r := (s + 1)) dX5_countAt_69 lf_X5_9 (sh_Rw0 hs) rfl (rf_Rw_3 hs) ?_
                      refine x_iload_n (pc := 72) dX5_countAt_72 (List.Mem.tail _ (List.Mem.tail _ (List.Mem.tail _ (List.Mem.head _)))) ?_
                      have rd70 := ok.2 (s + 1) k
                      refine z_lald (pc := 73) (j := k) (v := H.2 (s + 1) k) dX5_countAt_73 (sh_Rw1 hs) rfl (by omega) (by decide) rfl ?_
                      have hb1 := hb k (by omega)
                      refine z_l2i (pc := 74) dX5_countAt_74 ?_
                      refine z_ireturn (pc := 75) dX5_countAt_75 rfl (Or.inl rfl) ok (by omega) (by omega) ?_
                      exact ⟨by unfold zfil; rw [hA, hB]; rw [if_neg (by omega), if_pos (by omega)]; rfl, rfl⟩
                  · skip
                    refine x_iload_n (pc := 54) dX5_countAt_54 (List.Mem.tail _ (List.Mem.tail _ (List.Mem.tail _ (List.Mem.head _)))) ?_
                    refine x_aload_n (pc := 55) dX5_countAt_55 (List.Mem.head _) ?_
                    have rd71 := ok.1 s 2
                    refine z_getI (pc := 56) (k := 2) (v := H.1 s 2) dX5_countAt_56 lf_X5_19 (sh_Rw0 hs) rfl rfl ?_
                    refine z_icmp_lt (pc := 59) (tgt := 64) dX5_countAt_59 (by decide) (by omega) (by omega) (by omega) (by omega) (fun hb72 => ?_) (fun hb72 => ?_)
                    · skip
                      refine x_iload_n (pc := 64) dX5_countAt_64 (List.Mem.tail _ (List.Mem.tail _ (List.Mem.head _))) ?_
                      refine z_if_ge (pc := 65) (tgt := 76) dX5_countAt_65 (by decide) (by omega) (by omega) (fun hb73 => ?_) (fun hb73 => ?_)
                      · skip
                        refine x_iload_n (pc := 76) dX5_countAt_76 (List.Mem.tail _ (List.Mem.tail _ (List.Mem.tail _ (List.Mem.head _)))) ?_
                        refine x_aload_n (pc := 77) dX5_countAt_77 (List.Mem.head _) ?_
                        have rd74 := ok.1 s 2
                        refine z_getI (pc := 78) (k := 2) (v := H.1 s 2) dX5_countAt_78 lf_X5_19 (sh_Rw0 hs) rfl rfl ?_
                        refine z_icmp_lt (pc := 81) (tgt := 92) dX5_countAt_81 (by decide) (by omega) (by omega) (by omega) (by omega) (fun hb75 => ?_) (fun hb75 => ?_)
                        · skip
                          refine x_aload_n (pc := 92) dX5_countAt_92 (List.Mem.head _) ?_
                          refine z_getR (pc := 93) (k := 3) (r := (s + 1)) dX5_countAt_93 lf_X5_9 (sh_Rw0 hs) rfl (rf_Rw_3 hs) ?_
                          refine x_iload_n (pc := 96) dX5_countAt_96 (List.Mem.tail _ (List.Mem.tail _ (List.Mem.head _))) ?_
                          have rd76 := ok.2 (s + 1) x.toNat
                          refine z_lald (pc := 97) (j := x.toNat) (v := H.2 (s + 1) x.toNat) dX5_countAt_97 (sh_Rw1 hs) (by omega) (by omega) (by decide) rfl ?_
                          refine x_aload_n (pc := 98) dX5_countAt_98 (List.Mem.head _) ?_
                          refine z_getR (pc := 99) (k := 3) (r := (s + 1)) dX5_countAt_99 lf_X5_9 (sh_Rw0 hs) rfl (rf_Rw_3 hs) ?_
                          refine x_iload_n (pc := 102) dX5_countAt_102 (List.Mem.tail _ (List.Mem.tail _ (List.Mem.tail _ (List.Mem.head _)))) ?_
                          have rd77 := ok.2 (s + 1) k
                          refine z_lald (pc := 103) (j := k) (v := H.2 (s + 1) k) dX5_countAt_103 (sh_Rw1 hs) rfl (by omega) (by decide) rfl ?_
                          refine z_ladd (pc := 104) dX5_countAt_104 ?_
                          have hb1 := hb x.toNat (by omega)
                          have hb2 := hb k (by omega)
                          refine z_ldc2_w (pc := 105) 2 dX5_countAt_105 cl_X5_36 (by decide) ?_
                          refine z_ldivP (pc := 108) dX5_countAt_108 (by omega) (by omega) (by omega) (by omega) ?_
                          refine z_l2i (pc := 109) dX5_countAt_109 ?_
                          refine z_ireturn (pc := 110) dX5_countAt_110 rfl (Or.inl rfl) ok (by omega) (by omega) ?_
                          exact ⟨by unfold zfil; rw [hA, hB]; rw [if_neg (by omega), if_neg (by omega), if_neg (by omega)]; rfl, rfl⟩
                        · skip
                          refine x_aload_n (pc := 84) dX5_countAt_84 (List.Mem.head _) ?_
                          refine z_getR (pc := 85) (k := 3) (r := (s + 1)) dX5_countAt_85 lf_X5_9 (sh_Rw0 hs) rfl (rf_Rw_3 hs) ?_
                          refine x_iload_n (pc := 88) dX5_countAt_88 (List.Mem.tail _ (List.Mem.tail _ (List.Mem.head _))) ?_
                          have rd78 := ok.2 (s + 1) x.toNat
                          refine z_lald (pc := 89) (j := x.toNat) (v := H.2 (s + 1) x.toNat) dX5_countAt_89 (sh_Rw1 hs) (by omega) (by omega) (by decide) rfl ?_
                          have hb1 := hb x.toNat (by omega)
                          refine z_l2i (pc := 90) dX5_countAt_90 ?_
                          refine z_ireturn (pc := 91) dX5_countAt_91 rfl (Or.inl rfl) ok (by omega) (by omega) ?_
                          exact ⟨by unfold zfil; rw [hA, hB]; rw [if_neg (by omega), if_neg (by omega), if_pos (by omega)], rfl⟩
                      · skip
                        refine x_aload_n (pc := 68) dX5_countAt_68 (List.Mem.head _) ?_
                        refine z_getR (pc := 69) (k := 3) (r := (s + 1)) dX5_countAt_69 lf_X5_9 (sh_Rw0 hs) rfl (rf_Rw_3 hs) ?_
                        refine x_iload_n (pc := 72) dX5_countAt_72 (List.Mem.tail _ (List.Mem.tail _ (List.Mem.tail _ (List.Mem.head _)))) ?_
                        have rd79 := ok.2 (s + 1) k
                        refine z_lald (pc := 73) (j := k) (v := H.2 (s + 1) k) dX5_countAt_73 (sh_Rw1 hs) rfl (by omega) (by decide) rfl ?_
                        have hb1 := hb k (by omega)
                        refine z_l2i (pc := 74) dX5_countAt_74 ?_
                        refine z_ireturn (pc := 75) dX5_countAt_75 rfl (Or.inl rfl) ok (by omega) (by omega) ?_
                        exact ⟨by unfold zfil; rw [hA, hB]; rw [if_neg (by omega), if_pos (by omega)]; rfl, rfl⟩
                    · skip
                      refine z_iconst (pc := 62) dX5_countAt_62 ?_
                      refine z_ireturn (pc := 63) dX5_countAt_63 rfl (Or.inl rfl) ok (by decide) (by decide) ?_
                      exact ⟨by unfold zfil; rw [hA, hB]; exact (if_pos (by omega)).symm, rfl⟩
                · skip
                  refine z_iinc (pc := 44) dX5_countAt_44 (List.Mem.tail _ (List.Mem.tail _ (List.Mem.tail _ (List.Mem.head _)))) (Nat.le_of_ble_eq_true rfl) ?_
                  show Ev _ _ _ _ _ [(3, .int (zN ((k : Int) + 1))), (0, .ref s), (1, .int (zN ((i : Int)))), (2, .int (zN (x)))] _ _
                  refine x_goto (pc := 47) (tgt := 25) dX5_countAt_47 (by decide) ?_
                  refine x_weaken (L1 := [(0, .ref s), (1, .int (zN ((i : Int)))), (2, .int (zN (x))), (3, .int (zN ((((k + 1) : Nat) : Int))))]) (List.forall_mem_cons.mpr ⟨(List.Mem.tail _ (List.Mem.head _)), (List.forall_mem_cons.mpr ⟨(List.Mem.tail _ (List.Mem.tail _ (List.Mem.head _))), (List.forall_mem_cons.mpr ⟨(List.Mem.tail _ (List.Mem.tail _ (List.Mem.tail _ (List.Mem.head _)))), (List.forall_mem_cons.mpr ⟨(mem_ci (by omega) (List.Mem.head _)), (fun _ h => absurd h List.not_mem_nil)⟩)⟩)⟩)⟩) ?_
                  exact ih25 ((k + 1)) (by omega) (by rw [hy, show (H.1 s 2).toNat - k = ((H.1 s 2).toNat - (k + 1)) + 1 by omega]; exact if_neg (by omega)) (by omega)
          refine x_weaken (L1 := [(0, .ref s), (1, .int (zN ((i : Int)))), (2, .int (zN (x))), (3, .int (zN (((i : Nat) : Int))))]) (List.forall_mem_cons.mpr ⟨(List.Mem.tail _ (List.Mem.head _)), (List.forall_mem_cons.mpr ⟨(List.Mem.tail _ (List.Mem.tail _ (List.Mem.head _))), (List.forall_mem_cons.mpr ⟨(List.Mem.tail _ (List.Mem.tail _ (List.Mem.tail _ (List.Mem.head _)))), (List.forall_mem_cons.mpr ⟨(mem_ci (by omega) (List.Mem.head _)), (fun _ h => absurd h List.not_mem_nil)⟩)⟩)⟩)⟩) ?_
          exact lp25 ((H.1 s 2).toNat - i + 1) (i) (by omega) (rfl) (Nat.lt_succ_self _)
        · skip
          refine z_iinc (pc := 17) dX5_countAt_17 (List.Mem.tail _ (List.Mem.tail _ (List.Mem.head _))) (Nat.le_of_ble_eq_true rfl) ?_
          show Ev _ _ _ _ _ [(2, .int (zN (x + (-1)))), (0, .ref s), (1, .int (zN ((i : Int))))] _ _
          refine x_goto (pc := 20) (tgt := 2) dX5_countAt_20 (by decide) ?_
          refine x_weaken (L1 := [(0, .ref s), (1, .int (zN ((i : Int)))), (2, .int (zN ((x + (-1)))))]) (List.forall_mem_cons.mpr ⟨(List.Mem.tail _ (List.Mem.head _)), (List.forall_mem_cons.mpr ⟨(List.Mem.tail _ (List.Mem.tail _ (List.Mem.head _))), (List.forall_mem_cons.mpr ⟨(mem_ci (by omega) (List.Mem.head _)), (fun _ h => absurd h List.not_mem_nil)⟩)⟩)⟩) ?_
          exact ih2 ((x + (-1))) (by omega) (by rw [hz, show (x + 1).toNat = x.toNat + 1 by omega, show (x + (-1) + 1).toNat = x.toNat by omega]; exact if_neg (by omega)) (by omega)
  refine x_weaken (L1 := [(0, .ref s), (1, .int (zN ((i : Int)))), (2, .int (zN ((i : Int))))]) (List.forall_mem_cons.mpr ⟨(List.Mem.tail _ (List.Mem.head _)), (List.forall_mem_cons.mpr ⟨(List.Mem.tail _ (List.Mem.tail _ (List.Mem.head _))), (List.forall_mem_cons.mpr ⟨(List.Mem.head _), (fun _ h => absurd h List.not_mem_nil)⟩)⟩)⟩) ?_
  exact lp2 (((i : Int) + 1).toNat + 1) ((i : Int)) (by omega) (rfl) (Nat.lt_succ_self _)

theorem c_X11_hereIn {d : Nat} {H : ZH} (ok : okZ H) {r : Nat} (hr : r < 4) (rm : rmOK H) : EvC zX (d + 1) mX11_hereIn [.ref 0, .int (zN ((r : Int)))] (eh H) (zPi (fun (rz : Int) (Hz : ZH) => rz = (zher (rvM H r) (H.1 18 r).toNat) ∧ Hz = H)) := by
  show _ ∧ Ev zX mX11_hereIn (EvC zX d) (zPi (fun (rz : Int) (Hz : ZH) => rz = (zher (rvM H r) (H.1 18 r).toNat) ∧ Hz = H)) 0 [(0, .ref 0), (1, .int (zN ((r : Int))))] [] (eh H)
  refine ⟨Nat.le_of_ble_eq_true rfl, ?_⟩
  obtain ⟨⟨rmA, rmB⟩, rmC, rmD⟩ := rm r hr
  refine z_iconst (pc := 0) dX11_hereIn_0 ?_
  refine x_istore_n (pc := 1) dX11_hereIn_1 (Nat.le_of_ble_eq_true rfl) ?_
  show Ev _ _ _ _ _ [(2, .int (zN (0))), (0, .ref 0), (1, .int (zN ((r : Int))))] _ _
  refine z_iconst (pc := 2) dX11_hereIn_2 ?_
  refine x_istore_n (pc := 3) dX11_hereIn_3 (Nat.le_of_ble_eq_true rfl) ?_
  show Ev _ _ _ _ _ [(3, .int (zN (0))), (2, .int (zN (0))), (0, .ref 0), (1, .int (zN ((r : Int))))] _ _
  have lp4 : ∀ (nF : Nat) (k : Nat), ((k : Int) ≤ H.1 18 r) → (H.1 18 r).toNat - k < nF → Ev zX mX11_hereIn (EvC zX d) (zPi (fun (rz : Int) (Hz : ZH) => rz = (zher (rvM H r) (H.1 18 r).toNat) ∧ Hz = H)) 4 [(0, .ref 0), (1, .int (zN ((r : Int)))), (2, .int (zN (zher (rvM H r) k))), (3, .int (zN ((k : Int))))] [] (eh H) := by
    intro nF
    induction nF with
    | zero => intro k hk hm; exact absurd hm (Nat.not_lt_zero _)
    | succ nF ih4 =>
      intro k hk hm
      have zb := zher_bd (rvM H r) k
      refine x_iload_n (pc := 4) dX11_hereIn_4 (List.Mem.tail _ (List.Mem.tail _ (List.Mem.tail _ (List.Mem.head _)))) ?_
      refine x_aload_n (pc := 5) dX11_hereIn_5 (List.Mem.head _) ?_
      refine z_getR (pc := 6) (k := 34) (r := 18) dX11_hereIn_6 lf_X11_76 sh_0 rfl rf_0_34 ?_
      refine x_iload_n (pc := 9) dX11_hereIn_9 (List.Mem.tail _ (List.Mem.head _)) ?_
      have rd1 := ok.1 18 r
      refine z_iald (pc := 10) (j := r) (v := H.1 18 r) dX11_hereIn_10 sh_18 rfl (by omega) (by decide) rfl ?_
      refine z_icmp_ge (pc := 11) (tgt := 44) dX11_hereIn_11 (by decide) (by omega) (by omega) (by omega) (by omega) (fun hb2 => ?_) (fun hb2 => ?_)
      · skip
        refine x_iload_n (pc := 44) dX11_hereIn_44 (List.Mem.tail _ (List.Mem.tail _ (List.Mem.head _))) ?_
        refine z_ireturn (pc := 45) dX11_hereIn_45 rfl (Or.inl rfl) ok (by omega) (by omega) ?_
        exact ⟨by rw [show k = (H.1 18 r).toNat by omega], rfl⟩
      · skip
        refine x_iload_n (pc := 14) dX11_hereIn_14 (List.Mem.tail _ (List.Mem.tail _ (List.Mem.head _))) ?_
        refine x_aload_n (pc := 15) dX11_hereIn_15 (List.Mem.head _) ?_
        refine z_getR (pc := 16) (k := 35) (r := 19) dX11_hereIn_16 lf_X11_79 sh_0 rfl rf_0_35 ?_
        refine z_bipush (pc := 19) dX11_hereIn_19 bp_40 ?_
        refine x_iload_n (pc := 21) dX11_hereIn_21 (List.Mem.tail _ (List.Mem.head _)) ?_
        refine z_imul (pc := 22) dX11_hereIn_22 ?_
        refine x_iload_n (pc := 23) dX11_hereIn_23 (List.Mem.tail _ (List.Mem.tail _ (List.Mem.tail _ (List.Mem.head _)))) ?_
        refine z_iadd (pc := 24) dX11_hereIn_24 ?_
        have rd3 := ok.2 19 ((40 * r) + k)
        refine z_lald (pc := 25) (j := ((40 * r) + k)) (v := H.2 19 ((40 * r) + k)) dX11_hereIn_25 sh_19 (by omega) (by omega) (by decide) rfl ?_
        refine z_lconst (pc := 26) 0 dX11_hereIn_26 rfl ?_
        refine z_lcmp_lt (pc := 27) (tgt := 35) dX11_hereIn_27 dX11_hereIn_28 (by decide) (by omega) (by omega) (by decide) (by decide) (fun hb4 => ?_) (fun hb4 => ?_)
        · skip
          refine z_iconst (pc := 35) dX11_hereIn_35 ?_
          refine z_iadd (pc := 36) dX11_hereIn_36 ?_
          refine x_istore_n (pc := 37) dX11_hereIn_37 (Nat.le_of_ble_eq_true rfl) ?_
          show Ev _ _ _ _ _ [(2, .int (zN ((zher (rvM H r) k + 0)))), (0, .ref 0), (1, .int (zN ((r : Int)))), (3, .int (zN ((k : Int))))] _ _
          refine z_iinc (pc := 38) dX11_hereIn_38 (List.Mem.tail _ (List.Mem.tail _ (List.Mem.tail _ (List.Mem.head _)))) (Nat.le_of_ble_eq_true rfl) ?_
          show Ev _ _ _ _ _ [(3, .int (zN ((k : Int) + 1))), (2, .int (zN ((zher (rvM H r) k + 0)))), (0, .ref 0), (1, .int (zN ((r : Int))))] _ _
          refine x_goto (pc := 41) (tgt := 4) dX11_hereIn_41 (by decide) ?_
          refine x_weaken (L1 := [(0, .ref 0), (1, .int (zN ((r : Int)))), (2, .int (zN (zher (rvM H r) (k + 1)))), (3, .int (zN ((((k + 1) : Nat) : Int))))]) (List.forall_mem_cons.mpr ⟨(List.Mem.tail _ (List.Mem.tail _ (List.Mem.head _))), (List.forall_mem_cons.mpr ⟨(List.Mem.tail _ (List.Mem.tail _ (List.Mem.tail _ (List.Mem.head _)))), (List.forall_mem_cons.mpr ⟨(mem_ci (by show zher (rvM H r) k + (if 0 ≤ H.2 19 (40 * r + k) then 1 else 0) = _; first | rw [if_pos (by omega)] | rw [if_neg (by omega)]) (List.Mem.tail _ (List.Mem.head _))), (List.forall_mem_cons.mpr ⟨(mem_ci (by omega) (List.Mem.head _)), (fun _ h => absurd h List.not_mem_nil)⟩)⟩)⟩)⟩) ?_
          exact ih4 ((k + 1)) (by first | assumption | omega) (by omega)
        · skip
          refine z_iconst (pc := 31) dX11_hereIn_31 ?_
          refine x_goto (pc := 32) (tgt := 36) dX11_hereIn_32 (by decide) ?_
          refine z_iadd (pc := 36) dX11_hereIn_36 ?_
          refine x_istore_n (pc := 37) dX11_hereIn_37 (Nat.le_of_ble_eq_true rfl) ?_
          show Ev _ _ _ _ _ [(2, .int (zN ((zher (rvM H r) k + 1)))), (0, .ref 0), (1, .int (zN ((r : Int)))), (3, .int (zN ((k : Int))))] _ _
          refine z_iinc (pc := 38) dX11_hereIn_38 (List.Mem.tail _ (List.Mem.tail _ (List.Mem.tail _ (List.Mem.head _)))) (Nat.le_of_ble_eq_true rfl) ?_
          show Ev _ _ _ _ _ [(3, .int (zN ((k : Int) + 1))), (2, .int (zN ((zher (rvM H r) k + 1)))), (0, .ref 0), (1, .int (zN ((r : Int))))] _ _
          refine x_goto (pc := 41) (tgt := 4) dX11_hereIn_41 (by decide) ?_
          refine x_weaken (L1 := [(0, .ref 0), (1, .int (zN ((r : Int)))), (2, .int (zN (zher (rvM H r) (k + 1)))), (3, .int (zN ((((k + 1) : Nat) : Int))))]) (List.forall_mem_cons.mpr ⟨(List.Mem.tail _ (List.Mem.tail _ (List.Mem.head _))), (List.forall_mem_cons.mpr ⟨(List.Mem.tail _ (List.Mem.tail _ (List.Mem.tail _ (List.Mem.head _)))), (List.forall_mem_cons.mpr ⟨(mem_ci (by show zher (rvM H r) k + (if 0 ≤ H.2 19 (40 * r + k) then 1 else 0) = _; first | rw [if_pos (by omega)] | rw [if_neg (by omega)]) (List.Mem.tail _ (List.Mem.head _))), (List.forall_mem_cons.mpr ⟨(mem_ci (by omega) (List.Mem.head _)), (fun _ h => absurd h List.not_mem_nil)⟩)⟩)⟩)⟩) ?_
          exact ih4 ((k + 1)) (by first | assumption | omega) (by omega)
  refine x_weaken (L1 := [(0, .ref 0), (1, .int (zN ((r : Int)))), (2, .int (zN (zher (rvM H r) 0))), (3, .int (zN (((0 : Nat) : Int))))]) (List.forall_mem_cons.mpr ⟨(List.Mem.tail _ (List.Mem.tail _ (List.Mem.head _))), (List.forall_mem_cons.mpr ⟨(List.Mem.tail _ (List.Mem.tail _ (List.Mem.tail _ (List.Mem.head _)))), (List.forall_mem_cons.mpr ⟨(mem_ci (rfl) (List.Mem.tail _ (List.Mem.head _))), (List.forall_mem_cons.mpr ⟨(mem_ci (by omega) (List.Mem.head _)), (fun _ h => absurd h List.not_mem_nil)⟩)⟩)⟩)⟩) ?_
  exact lp4 ((H.1 18 r).toNat - 0 + 1) (0) (by first | assumption | omega) (Nat.lt_succ_self _)

theorem c_X11_isTooMuch {d : Nat} {H : ZH} (ok : okZ H) {r : Nat} (hr : r < 4) (rm : rmOK H) : EvC zX (d + 1) mX11_isTooMuch [.ref 0, .int (zN ((r : Int)))] (eh H) (zPi (fun (rz : Int) (Hz : ZH) => rz = (if zmuch (rvM H r) (H.1 18 r).toNat = true then 1 else 0) ∧ Hz = H)) := by
  show _ ∧ Ev zX mX11_isTooMuch (EvC zX d) (zPi (fun (rz : Int) (Hz : ZH) => rz = (if zmuch (rvM H r) (H.1 18 r).toNat = true then 1 else 0) ∧ Hz = H)) 0 [(0, .ref 0), (1, .int (zN ((r : Int))))] [] (eh H)
  refine ⟨Nat.le_of_ble_eq_true rfl, ?_⟩
  obtain ⟨⟨rmA, rmB⟩, rmC, rmD⟩ := rm r hr
  refine z_iconst (pc := 0) dX11_isTooMuch_0 ?_
  refine x_istore_n (pc := 1) dX11_isTooMuch_1 (Nat.le_of_ble_eq_true rfl) ?_
  show Ev _ _ _ _ _ [(2, .int (zN (0))), (0, .ref 0), (1, .int (zN ((r : Int))))] _ _
  have lp2 : ∀ (nF : Nat) (k : Nat), ((k : Int) ≤ H.1 18 r) → (∀ j, j < k → rvM H r j ≤ 1000000) → (H.1 18 r).toNat - k < nF → Ev zX mX11_isTooMuch (EvC zX d) (zPi (fun (rz : Int) (Hz : ZH) => rz = (if zmuch (rvM H r) (H.1 18 r).toNat = true then 1 else 0) ∧ Hz = H)) 2 [(0, .ref 0), (1, .int (zN ((r : Int)))), (2, .int (zN ((k : Int))))] [] (eh H) := by
    intro nF
    induction nF with
    | zero => intro k hk ha hm; exact absurd hm (Nat.not_lt_zero _)
    | succ nF ih2 =>
      intro k hk ha hm
      refine x_iload_n (pc := 2) dX11_isTooMuch_2 (List.Mem.tail _ (List.Mem.tail _ (List.Mem.head _))) ?_
      refine x_aload_n (pc := 3) dX11_isTooMuch_3 (List.Mem.head _) ?_
      refine z_getR (pc := 4) (k := 34) (r := 18) dX11_isTooMuch_4 lf_X11_76 sh_0 rfl rf_0_34 ?_
      refine x_iload_n (pc := 7) dX11_isTooMuch_7 (List.Mem.tail _ (List.Mem.head _)) ?_
      have rd1 := ok.1 18 r
      refine z_iald (pc := 8) (j := r) (v := H.1 18 r) dX11_isTooMuch_8 sh_18 rfl (by omega) (by decide) rfl ?_
      refine z_icmp_ge (pc := 9) (tgt := 38) dX11_isTooMuch_9 (by decide) (by omega) (by omega) (by omega) (by omega) (fun hb2 => ?_) (fun hb2 => ?_)
      · skip
        refine z_iconst (pc := 38) dX11_isTooMuch_38 ?_
        refine z_ireturn (pc := 39) dX11_isTooMuch_39 rfl (Or.inr ⟨rfl, by omega⟩) ok (by decide) (by decide) ?_
        exact ⟨by rw [zmuch_f.mpr (fun j hj => ha j (by omega))]; rfl, rfl⟩
      · skip
        refine x_aload_n (pc := 12) dX11_isTooMuch_12 (List.Mem.head _) ?_
        refine z_getR (pc := 13) (k := 35) (r := 19) dX11_isTooMuch_13 lf_X11_79 sh_0 rfl rf_0_35 ?_
        refine z_bipush (pc := 16) dX11_isTooMuch_16 bp_40 ?_
        refine x_iload_n (pc := 18) dX11_isTooMuch_18 (List.Mem.tail _ (List.Mem.head _)) ?_
        refine z_imul (pc := 19) dX11_isTooMuch_19 ?_
        refine x_iload_n (pc := 20) dX11_isTooMuch_20 (List.Mem.tail _ (List.Mem.tail _ (List.Mem.head _))) ?_
        refine z_iadd (pc := 21) dX11_isTooMuch_21 ?_
        have rd3 := ok.2 19 ((40 * r) + k)
        refine z_lald (pc := 22) (j := ((40 * r) + k)) (v := H.2 19 ((40 * r) + k)) dX11_isTooMuch_22 sh_19 (by omega) (by omega) (by decide) rfl ?_
        refine z_ldc2_w (pc := 23) 1000000 dX11_isTooMuch_23 cl_X11_377 (by decide) ?_
        refine z_lcmp_le (pc := 26) (tgt := 32) dX11_isTooMuch_26 dX11_isTooMuch_27 (by decide) (by omega) (by omega) (by decide) (by decide) (fun hb4 => ?_) (fun hb4 => ?_)
        · skip
          refine z_iinc (pc := 32) dX11_isTooMuch_32 (List.Mem.tail _ (List.Mem.tail _ (List.Mem.head _))) (Nat.le_of_ble_eq_true rfl) ?_
          show Ev _ _ _ _ _ [(2, .int (zN ((k : Int) + 1))), (0, .ref 0), (1, .int (zN ((r : Int))))] _ _
          refine x_goto (pc := 35) (tgt := 2) dX11_isTooMuch_35 (by decide) ?_
          refine x_weaken (L1 := [(0, .ref 0), (1, .int (zN ((r : Int)))), (2, .int (zN ((((k + 1) : Nat) : Int))))]) (List.forall_mem_cons.mpr ⟨(List.Mem.tail _ (List.Mem.head _)), (List.forall_mem_cons.mpr ⟨(List.Mem.tail _ (List.Mem.tail _ (List.Mem.head _))), (List.forall_mem_cons.mpr ⟨(mem_ci (by omega) (List.Mem.head _)), (fun _ h => absurd h List.not_mem_nil)⟩)⟩)⟩) ?_
          exact ih2 ((k + 1)) (by first | assumption | omega) (lt_s ha (by omega)) (by omega)
        · skip
          refine z_iconst (pc := 30) dX11_isTooMuch_30 ?_
          refine z_ireturn (pc := 31) dX11_isTooMuch_31 rfl (Or.inr ⟨rfl, by omega⟩) ok (by decide) (by decide) ?_
          exact ⟨by rw [zmuch_t (f := rvM H r) (k := k) (by omega) (by omega)]; rfl, rfl⟩
  refine x_weaken (L1 := [(0, .ref 0), (1, .int (zN ((r : Int)))), (2, .int (zN (((0 : Nat) : Int))))]) (List.forall_mem_cons.mpr ⟨(List.Mem.tail _ (List.Mem.head _)), (List.forall_mem_cons.mpr ⟨(List.Mem.tail _ (List.Mem.tail _ (List.Mem.head _))), (List.forall_mem_cons.mpr ⟨(mem_ci (by omega) (List.Mem.head _)), (fun _ h => absurd h List.not_mem_nil)⟩)⟩)⟩) ?_
  exact lp2 ((H.1 18 r).toNat - 0 + 1) (0) (by first | assumption | omega) (fun j h => absurd h (Nat.not_lt_zero _)) (Nat.lt_succ_self _)

theorem c_X11_filledAt {d : Nat} {H : ZH} (ok : okZ H) {r : Nat} (hr : r < 4) {i : Nat} (hi : (i : Int) < H.1 18 r) (rm : rmOK H) (hb : ∀ k, k < (H.1 18 r).toNat → rvM H r k ≤ 1000000) (hh : zher (rvM H r) (H.1 18 r).toNat ≠ 0) : EvC zX (d + 1) mX11_filledAt [.ref 0, .int (zN ((r : Int))), .int (zN ((i : Int)))] (eh H) (zPi (fun (rz : Int) (Hz : ZH) => rz = (zfil (rvM H r) (H.1 18 r).toNat i) ∧ Hz = H)) := by
  show _ ∧ Ev zX mX11_filledAt (EvC zX d) (zPi (fun (rz : Int) (Hz : ZH) => rz = (zfil (rvM H r) (H.1 18 r).toNat i) ∧ Hz = H)) 0 [(0, .ref 0), (1, .int (zN ((r : Int)))), (2, .int (zN ((i : Int))))] [] (eh H)
  refine ⟨Nat.le_of_ble_eq_true rfl, ?_⟩
  obtain ⟨⟨rmA, rmB⟩, rmC, rmD⟩ := rm r hr
  have hsp1 := zba_sp (rvM H r) (i + 1)
  have hsp2 := zfw_sp (rvM H r) ((H.1 18 r).toNat - i) i
  have hno : ¬ (zba (rvM H r) (i + 1) < 0 ∧ ((H.1 18 r).toNat : Int) ≤ zfw (rvM H r) ((H.1 18 r).toNat - i) i) := by
    intro hq
    apply hh
    apply zher_0.mpr
    rcases hsp1 with ⟨-, q1⟩ | ⟨a, q0, q1, -⟩
    · rcases hsp2 with ⟨-, q2⟩ | ⟨b, q2, q3, q4, -⟩
      · intro k hk
        rcases Nat.lt_or_ge k (i + 1) with c | c
        · exact q1 k c
        · exact q2 k (by omega) (by omega)
      · omega
    · omega
  refine x_iload_n (pc := 0) dX11_filledAt_0 (List.Mem.tail _ (List.Mem.tail _ (List.Mem.head _))) ?_
  refine x_istore_n (pc := 1) dX11_filledAt_1 (Nat.le_of_ble_eq_true rfl) ?_
  show Ev _ _ _ _ _ [(3, .int (zN ((i : Int)))), (0, .ref 0), (1, .int (zN ((r : Int)))), (2, .int (zN ((i : Int))))] _ _
  refine x_iload_n (pc := 2) dX11_filledAt_2 (List.Mem.tail _ (List.Mem.tail _ (List.Mem.tail _ (List.Mem.head _)))) ?_
  refine x_istore (pc := 3) dX11_filledAt_3 (Nat.le_of_ble_eq_true rfl) ?_
  show Ev _ _ _ _ _ [(4, .int (zN ((i : Int)))), (3, .int (zN ((i : Int)))), (0, .ref 0), (1, .int (zN ((r : Int)))), (2, .int (zN ((i : Int))))] _ _
  have lp5 : ∀ (nF : Nat) (x : Int), (-1 ≤ x ∧ x ≤ (i : Int)) → (zba (rvM H r) (i + 1) = zba (rvM H r) (x + 1).toNat) → (x + 1).toNat < nF → Ev zX mX11_filledAt (EvC zX d) (zPi (fun (rz : Int) (Hz : ZH) => rz = (zfil (rvM H r) (H.1 18 r).toNat i) ∧ Hz = H)) 5 [(0, .ref 0), (1, .int (zN ((r : Int)))), (2, .int (zN ((i : Int)))), (3, .int (zN (x))), (4, .int (zN ((i : Int))))] [] (eh H) := by
    intro nF
    induction nF with
    | zero => intro x hx hz hm; exact absurd hm (Nat.not_lt_zero _)
    | succ nF ih5 =>
      intro x hx hz hm
      refine x_iload_n (pc := 5) dX11_filledAt_5 (List.Mem.tail _ (List.Mem.tail _ (List.Mem.tail _ (List.Mem.head _)))) ?_
      refine z_if_lt (pc := 6) (tgt := 31) dX11_filledAt_6 (by decide) (by omega) (by omega) (fun hb1 => ?_) (fun hb1 => ?_)
      · skip
        have hx0 : x = -1 := by omega
        have hA : zba (rvM H r) (i + 1) = x := by rw [hz, hx0]; rfl
        have lp31 : ∀ (nF : Nat) (k : Nat), (i ≤ k ∧ (k : Int) ≤ H.1 18 r) → (zfw (rvM H r) ((H.1 18 r).toNat - i) i = zfw (rvM H r) ((H.1 18 r).toNat - k) k) → (H.1 18 r).toNat - k < nF → Ev zX mX11_filledAt (EvC zX d) (zPi (fun (rz : Int) (Hz : ZH) => rz = (zfil (rvM H r) (H.1 18 r).toNat i) ∧ Hz = H)) 31 [(0, .ref 0), (1, .int (zN ((r : Int)))), (2, .int (zN ((i : Int)))), (3, .int (zN (x))), (4, .int (zN ((k : Int))))] [] (eh H) := by
          intro nF
          induction nF with
          | zero => intro k hk hy hm; exact absurd hm (Nat.not_lt_zero _)
          | succ nF ih31 =>
            intro k hk hy hm
            refine x_iload (pc := 31) dX11_filledAt_31 (List.Mem.tail _ (List.Mem.tail _ (List.Mem.tail _ (List.Mem.tail _ (List.Mem.head _))))) ?_
            refine x_aload_n (pc := 33) dX11_filledAt_33 (List.Mem.head _) ?_
            refine z_getR (pc := 34) (k := 34) (r := 18) dX11_filledAt_34 lf_X11_76 sh_0 rfl rf_0_34 ?_
            refine x_iload_n (pc := 37) dX11_filledAt_37 (List.Mem.tail _ (List.Mem.head _)) ?_
            have rd2 := ok.1 18 r
            refine z_iald (pc := 38) (j := r) (v := H.1 18 r) dX11_filledAt_38 sh_18 rfl (by omega) (by decide) rfl ?_
            refine z_icmp_ge (pc := 39) (tgt := 65) dX11_filledAt_39 (by decide) (by omega) (by omega) (by omega) (by omega) (fun hb3 => ?_) (fun hb3 => ?_)
            · skip
              have hB : zfw (rvM H r) ((H.1 18 r).toNat - i) i = k := by rw [hy, show (H.1 18 r).toNat - k = 0 by omega]; rfl
              rw [hA, hB] at hno
              refine x_iload_n (pc := 65) dX11_filledAt_65 (List.Mem.tail _ (List.Mem.tail _ (List.Mem.tail _ (List.Mem.head _)))) ?_
              refine z_if_lt (pc := 66) (tgt := 83) dX11_filledAt_66 (by decide) (by omega) (by omega) (fun hb4 => ?_) (fun hb4 => ?_)
              · skip
                refine x_aload_n (pc := 83) dX11_filledAt_83 (List.Mem.head _) ?_
                refine z_getR (pc := 84) (k := 35) (r := 19) dX11_filledAt_84 lf_X11_79 sh_0 rfl rf_0_35 ?_
                refine z_bipush (pc := 87) dX11_filledAt_87 bp_40 ?_
                refine x_iload_n (pc := 89) dX11_filledAt_89 (List.Mem.tail _ (List.Mem.head _)) ?_
                refine z_imul (pc := 90) dX11_filledAt_90 ?_
                refine x_iload (pc := 91) dX11_filledAt_91 (List.Mem.tail _ (List.Mem.tail _ (List.Mem.tail _ (List.Mem.tail _ (List.Mem.head _))))) ?_
                refine z_iadd (pc := 93) dX11_filledAt_93 ?_
                have rd5 := ok.2 19 ((40 * r) + k)
                refine z_lald (pc := 94) (j := ((40 * r) + k)) (v := H.2 19 ((40 * r) + k)) dX11_filledAt_94 sh_19 (by omega) (by omega) (by decide) rfl ?_
                refine x_lstore (pc := 95) dX11_filledAt_95 (Nat.le_of_ble_eq_true rfl) ?_
                show Ev _ _ _ _ _ [(5, .long (zL ((H.2 19 ((40 * r) + k))))), (0, .ref 0), (1, .int (zN ((r : Int)))), (2, .int (zN ((i : Int)))), (3, .int (zN (x))), (4, .int (zN ((k : Int))))] _ _
                refine x_iload (pc := 97) dX11_filledAt_97 (List.Mem.tail _ (List.Mem.tail _ (List.Mem.tail _ (List.Mem.tail _ (List.Mem.tail _ (List.Mem.head _)))))) ?_
                refine x_aload_n (pc := 99) dX11_filledAt_99 (List.Mem.tail _ (List.Mem.head _)) ?_
                refine z_getR (pc := 100) (k := 34) (r := 18) dX11_filledAt_100 lf_X11_76 sh_0 rfl rf_0_34 ?_
                refine x_iload_n (pc := 103) dX11_filledAt_103 (List.Mem.tail _ (List.Mem.tail _ (List.Mem.head _))) ?_
                have rd6 := ok.1 18 r
                refine z_iald (pc := 104) (j := r) (v := H.1 18 r) dX11_filledAt_104 sh_18 rfl (by omega) (by decide) rfl ?_
                refine z_icmp_ge (pc := 105) (tgt := 123) dX11_filledAt_105 (by decide) (by omega) (by omega) (by omega) (by omega) (fun hb7 => ?_) (fun hb7 => ?_)
                · skip
                  refine x_lload (pc := 123) dX11_filledAt_123 (List.Mem.head _) ?_
                  refine x_lstore (pc := 125) dX11_filledAt_125 (Nat.le_of_ble_eq_true rfl) ?_
                  show Ev _ _ _ _ _ [(7, .long (zL ((H.2 19 ((40 * r) + k))))), (5, .long (zL ((H.2 19 ((40 * r) + k))))), (0, .ref 0), (1, .int (zN ((r : Int)))), (2, .int (zN ((i : Int)))), (3, .int (zN (x))), (4, .int (zN ((k : Int))))] _ _
                  refine x_lload (pc := 127) dX11_filledAt_127 (List.Mem.tail _ (List.Mem.head _)) ?_
                  refine x_lload (pc := 129) dX11_filledAt_129 (List.Mem.head _) ?_
                  refine z_ladd (pc := 131) dX11_filledAt_131 ?_
                  refine z_ldc2_w (pc := 132) 2 dX11_filledAt_132 cl_X11_363 (by decide) ?_
                  refine z_ldivP (pc := 135) dX11_filledAt_135 (by omega) (by omega) (by omega) (by omega) ?_
                  refine z_l2i (pc := 136) dX11_filledAt_136 ?_
                  refine z_ireturn (pc := 137) dX11_filledAt_137 rfl (Or.inl rfl) ok (by omega) (by omega) ?_
                  refine ⟨?_, rfl⟩
                  unfold zfil
                  rw [hA, hB, if_neg (by omega)]
                  first | (rw [if_pos (by omega)]; show _ = H.2 19 (40 * r + k); omega) | (rw [if_neg (by omega), if_pos (by omega)]; show _ = H.2 19 (40 * r + x.toNat); omega) | (rw [if_neg (by omega), if_neg (by omega)]; rfl)
                · skip
                  have hb2 : H.2 19 (40 * r + k) ≤ 1000000 := hb k (by omega)
                  have hp2 : 0 ≤ H.2 19 (40 * r + k) := by
                    rcases hsp2 with ⟨q1, -⟩ | ⟨a, q0, q00, q1, q2⟩
                    · omega
                    · rw [hB] at q1
                      rw [show k = a by omega]
                      exact q2
                  refine x_aload_n (pc := 108) dX11_filledAt_108 (List.Mem.tail _ (List.Mem.head _)) ?_
                  refine z_getR (pc := 109) (k := 35) (r := 19) dX11_filledAt_109 lf_X11_79 sh_0 rfl rf_0_35 ?_
                  refine z_bipush (pc := 112) dX11_filledAt_112 bp_40 ?_
                  refine x_iload_n (pc := 114) dX11_filledAt_114 (List.Mem.tail _ (List.Mem.tail _ (List.Mem.head _))) ?_
                  refine z_imul (pc := 115) dX11_filledAt_115 ?_
                  refine x_iload (pc := 116) dX11_filledAt_116 (List.Mem.tail _ (List.Mem.tail _ (List.Mem.tail _ (List.Mem.tail _ (List.Mem.tail _ (List.Mem.head _)))))) ?_
                  refine z_iadd (pc := 118) dX11_filledAt_118 ?_
                  have rd8 := ok.2 19 ((40 * r) + k)
                  refine z_lald (pc := 119) (j := ((40 * r) + k)) (v := H.2 19 ((40 * r) + k)) dX11_filledAt_119 sh_19 (by omega) (by omega) (by decide) rfl ?_
                  refine x_goto (pc := 120) (tgt := 125) dX11_filledAt_120 (by decide) ?_
                  refine x_lstore (pc := 125) dX11_filledAt_125 (Nat.le_of_ble_eq_true rfl) ?_
                  show Ev _ _ _ _ _ [(7, .long (zL ((H.2 19 ((40 * r) + k))))), (5, .long (zL ((H.2 19 ((40 * r) + k))))), (0, .ref 0), (1, .int (zN ((r : Int)))), (2, .int (zN ((i : Int)))), (3, .int (zN (x))), (4, .int (zN ((k : Int))))] _ _
                  refine x_lload (pc := 127) dX11_filledAt_127 (List.Mem.tail _ (List.Mem.head _)) ?_
                  refine x_lload (pc := 129) dX11_filledAt_129 (List.Mem.head _) ?_
                  refine z_ladd (pc := 131) dX11_filledAt_131 ?_
                  refine z_ldc2_w (pc := 132) 2 dX11_filledAt_132 cl_X11_363 (by decide) ?_
                  refine z_ldivP (pc := 135) dX11_filledAt_135 (by omega) (by omega) (by omega) (by omega) ?_
                  refine z_l2i (pc := 136) dX11_filledAt_136 ?_
                  refine z_ireturn (pc := 137) dX11_filledAt_137 rfl (Or.inl rfl) ok (by omega) (by omega) ?_
                  refine ⟨?_, rfl⟩
                  unfold zfil
                  rw [hA, hB, if_neg (by omega)]
                  first | (rw [if_pos (by omega)]; show _ = H.2 19 (40 * r + k); omega) | (rw [if_neg (by omega), if_pos (by omega)]; show _ = H.2 19 (40 * r + x.toNat); omega) | (rw [if_neg (by omega), if_neg (by omega)]; rfl)
              · skip
                have hb1 : H.2 19 (40 * r + x.toNat) ≤ 1000000 := hb x.toNat (by omega)
                have hp1 : 0 ≤ H.2 19 (40 * r + x.toNat) := by
                  rcases hsp1 with ⟨q1, -⟩ | ⟨a, q0, q1, q2⟩
                  · omega
                  · rw [hA] at q1
                    rw [show x.toNat = a by omega]
                    exact q2
                refine x_aload_n (pc := 69) dX11_filledAt_69 (List.Mem.head _) ?_
                refine z_getR (pc := 70) (k := 35) (r := 19) dX11_filledAt_70 lf_X11_79 sh_0 rfl rf_0_35 ?_
                refine z_bipush (pc := 73) dX11_filledAt_73 bp_40 ?_
                refine x_iload_n (pc := 75) dX11_filledAt_75 (List.Mem.tail _ (List.Mem.head _)) ?_
                refine z_imul (pc := 76) dX11_filledAt_76 ?_
                refine x_iload_n (pc := 77) dX11_filledAt_77 (List.Mem.tail _ (List.Mem.tail _ (List.Mem.tail _ (List.Mem.head _)))) ?_
                refine z_iadd (pc := 78) dX11_filledAt_78 ?_
                have rd9 := ok.2 19 (40 * r + x.toNat)
                refine z_lald (pc := 79) (j := 40 * r + x.toNat) (v := H.2 19 (40 * r + x.toNat)) dX11_filledAt_79 sh_19 (by omega) (by omega) (by decide) rfl ?_
                refine x_goto (pc := 80) (tgt := 95) dX11_filledAt_80 (by decide) ?_
                refine x_lstore (pc := 95) dX11_filledAt_95 (Nat.le_of_ble_eq_true rfl) ?_
                show Ev _ _ _ _ _ [(5, .long (zL ((H.2 19 (40 * r + x.toNat))))), (0, .ref 0), (1, .int (zN ((r : Int)))), (2, .int (zN ((i : Int)))), (3, .int (zN (x))), (4, .int (zN ((k : Int))))] _ _
                refine x_iload (pc := 97) dX11_filledAt_97 (List.Mem.tail _ (List.Mem.tail _ (List.Mem.tail _ (List.Mem.tail _ (List.Mem.tail _ (List.Mem.head _)))))) ?_
                refine x_aload_n (pc := 99) dX11_filledAt_99 (List.Mem.tail _ (List.Mem.head _)) ?_
                refine z_getR (pc := 100) (k := 34) (r := 18) dX11_filledAt_100 lf_X11_76 sh_0 rfl rf_0_34 ?_
                refine x_iload_n (pc := 103) dX11_filledAt_103 (List.Mem.tail _ (List.Mem.tail _ (List.Mem.head _))) ?_
                have rd10 := ok.1 18 r
                refine z_iald (pc := 104) (j := r) (v := H.1 18 r) dX11_filledAt_104 sh_18 rfl (by omega) (by decide) rfl ?_
                refine z_icmp_ge (pc := 105) (tgt := 123) dX11_filledAt_105 (by decide) (by omega) (by omega) (by omega) (by omega) (fun hb11 => ?_) (fun hb11 => ?_)
                · skip
                  refine x_lload (pc := 123) dX11_filledAt_123 (List.Mem.head _) ?_
                  refine x_lstore (pc := 125) dX11_filledAt_125 (Nat.le_of_ble_eq_true rfl) ?_
                  show Ev _ _ _ _ _ [(7, .long (zL ((H.2 19 (40 * r + x.toNat))))), (5, .long (zL ((H.2 19 (40 * r + x.toNat))))), (0, .ref 0), (1, .int (zN ((r : Int)))), (2, .int (zN ((i : Int)))), (3, .int (zN (x))), (4, .int (zN ((k : Int))))] _ _
                  refine x_lload (pc := 127) dX11_filledAt_127 (List.Mem.tail _ (List.Mem.head _)) ?_
                  refine x_lload (pc := 129) dX11_filledAt_129 (List.Mem.head _) ?_
                  refine z_ladd (pc := 131) dX11_filledAt_131 ?_
                  refine z_ldc2_w (pc := 132) 2 dX11_filledAt_132 cl_X11_363 (by decide) ?_
                  refine z_ldivP (pc := 135) dX11_filledAt_135 (by omega) (by omega) (by omega) (by omega) ?_
                  refine z_l2i (pc := 136) dX11_filledAt_136 ?_
                  refine z_ireturn (pc := 137) dX11_filledAt_137 rfl (Or.inl rfl) ok (by omega) (by omega) ?_
                  refine ⟨?_, rfl⟩
                  unfold zfil
                  rw [hA, hB, if_neg (by omega)]
                  first | (rw [if_pos (by omega)]; show _ = H.2 19 (40 * r + k); omega) | (rw [if_neg (by omega), if_pos (by omega)]; show _ = H.2 19 (40 * r + x.toNat); omega) | (rw [if_neg (by omega), if_neg (by omega)]; rfl)
                · skip
                  have hb2 : H.2 19 (40 * r + k) ≤ 1000000 := hb k (by omega)
                  have hp2 : 0 ≤ H.2 19 (40 * r + k) := by
                    rcases hsp2 with ⟨q1, -⟩ | ⟨a, q0, q00, q1, q2⟩
                    · omega
                    · rw [hB] at q1
                      rw [show k = a by omega]
                      exact q2
                  refine x_aload_n (pc := 108) dX11_filledAt_108 (List.Mem.tail _ (List.Mem.head _)) ?_
                  refine z_getR (pc := 109) (k := 35) (r := 19) dX11_filledAt_109 lf_X11_79 sh_0 rfl rf_0_35 ?_
                  refine z_bipush (pc := 112) dX11_filledAt_112 bp_40 ?_
                  refine x_iload_n (pc := 114) dX11_filledAt_114 (List.Mem.tail _ (List.Mem.tail _ (List.Mem.head _))) ?_
                  refine z_imul (pc := 115) dX11_filledAt_115 ?_
                  refine x_iload (pc := 116) dX11_filledAt_116 (List.Mem.tail _ (List.Mem.tail _ (List.Mem.tail _ (List.Mem.tail _ (List.Mem.tail _ (List.Mem.head _)))))) ?_
                  refine z_iadd (pc := 118) dX11_filledAt_118 ?_
                  have rd12 := ok.2 19 ((40 * r) + k)
                  refine z_lald (pc := 119) (j := ((40 * r) + k)) (v := H.2 19 ((40 * r) + k)) dX11_filledAt_119 sh_19 (by omega) (by omega) (by decide) rfl ?_
                  refine x_goto (pc := 120) (tgt := 125) dX11_filledAt_120 (by decide) ?_
                  refine x_lstore (pc := 125) dX11_filledAt_125 (Nat.le_of_ble_eq_true rfl) ?_
                  show Ev _ _ _ _ _ [(7, .long (zL ((H.2 19 ((40 * r) + k))))), (5, .long (zL ((H.2 19 (40 * r + x.toNat))))), (0, .ref 0), (1, .int (zN ((r : Int)))), (2, .int (zN ((i : Int)))), (3, .int (zN (x))), (4, .int (zN ((k : Int))))] _ _
                  refine x_lload (pc := 127) dX11_filledAt_127 (List.Mem.tail _ (List.Mem.head _)) ?_
                  refine x_lload (pc := 129) dX11_filledAt_129 (List.Mem.head _) ?_
                  refine z_ladd (pc := 131) dX11_filledAt_131 ?_
                  refine z_ldc2_w (pc := 132) 2 dX11_filledAt_132 cl_X11_363 (by decide) ?_
                  refine z_ldivP (pc := 135) dX11_filledAt_135 (by omega) (by omega) (by omega) (by omega) ?_
                  refine z_l2i (pc := 136) dX11_filledAt_136 ?_
                  refine z_ireturn (pc := 137) dX11_filledAt_137 rfl (Or.inl rfl) ok (by omega) (by omega) ?_
                  refine ⟨?_, rfl⟩
                  unfold zfil
                  rw [hA, hB, if_neg (by omega)]
                  first | (rw [if_pos (by omega)]; show _ = H.2 19 (40 * r + k); omega) | (rw [if_neg (by omega), if_pos (by omega)]; show _ = H.2 19 (40 * r + x.toNat); omega) | (rw [if_neg (by omega), if_neg (by omega)]; rfl)
            · skip
              refine x_aload_n (pc := 42) dX11_filledAt_42 (List.Mem.head _) ?_
              refine z_getR (pc := 43) (k := 35) (r := 19) dX11_filledAt_43 lf_X11_79 sh_0 rfl rf_0_35 ?_
              refine z_bipush (pc := 46) dX11_filledAt_46 bp_40 ?_
              refine x_iload_n (pc := 48) dX11_filledAt_48 (List.Mem.tail _ (List.Mem.head _)) ?_
              refine z_imul (pc := 49) dX11_filledAt_49 ?_
              refine x_iload (pc := 50) dX11_filledAt_50 (List.Mem.tail _ (List.Mem.tail _ (List.Mem.tail _ (List.Mem.tail _ (List.Mem.head _))))) ?_
              refine z_iadd (pc := 52) dX11_filledAt_52 ?_
              have rd13 := ok.2 19 ((40 * r) + k)
              refine z_lald (pc := 53) (j := ((40 * r) + k)) (v := H.2 19 ((40 * r) + k)) dX11_filledAt_53 sh_19 (by omega) (by omega) (by decide) rfl ?_
              refine z_lconst (pc := 54) 0 dX11_filledAt_54 rfl ?_
              refine z_lcmp_ge (pc := 55) (tgt := 65) dX11_filledAt_55 dX11_filledAt_56 (by decide) (by omega) (by omega) (by decide) (by decide) (fun hb14 => ?_) (fun hb14 => ?_)
              · skip
                have hB : zfw (rvM H r) ((H.1 18 r).toNat - i) i = k := by rw [hy, show (H.1 18 r).toNat - k = ((H.1 18 r).toNat - (k + 1)) + 1 by omega]; exact if_pos (show 0 ≤ H.2 19 (40 * r + k) by omega)
                rw [hA, hB] at hno
                refine x_iload_n (pc := 65) dX11_filledAt_65 (List.Mem.tail _ (List.Mem.tail _ (List.Mem.tail _ (List.Mem.head _)))) ?_
                refine z_if_lt (pc := 66) (tgt := 83) dX11_filledAt_66 (by decide) (by omega) (by omega) (fun hb15 => ?_) (fun hb15 => ?_)
                · skip
                  refine x_aload_n (pc := 83) dX11_filledAt_83 (List.Mem.head _) ?_
                  refine z_getR (pc := 84) (k := 35) (r := 19) dX11_filledAt_84 lf_X11_79 sh_0 rfl rf_0_35 ?_
                  refine z_bipush (pc := 87) dX11_filledAt_87 bp_40 ?_
                  refine x_iload_n (pc := 89) dX11_filledAt_89 (List.Mem.tail _ (List.Mem.head _)) ?_
                  refine z_imul (pc := 90) dX11_filledAt_90 ?_
                  refine x_iload (pc := 91) dX11_filledAt_91 (List.Mem.tail _ (List.Mem.tail _ (List.Mem.tail _ (List.Mem.tail _ (List.Mem.head _))))) ?_
                  refine z_iadd (pc := 93) dX11_filledAt_93 ?_
                  have rd16 := ok.2 19 ((40 * r) + k)
                  refine z_lald (pc := 94) (j := ((40 * r) + k)) (v := H.2 19 ((40 * r) + k)) dX11_filledAt_94 sh_19 (by omega) (by omega) (by decide) rfl ?_
                  refine x_lstore (pc := 95) dX11_filledAt_95 (Nat.le_of_ble_eq_true rfl) ?_
                  show Ev _ _ _ _ _ [(5, .long (zL ((H.2 19 ((40 * r) + k))))), (0, .ref 0), (1, .int (zN ((r : Int)))), (2, .int (zN ((i : Int)))), (3, .int (zN (x))), (4, .int (zN ((k : Int))))] _ _
                  refine x_iload (pc := 97) dX11_filledAt_97 (List.Mem.tail _ (List.Mem.tail _ (List.Mem.tail _ (List.Mem.tail _ (List.Mem.tail _ (List.Mem.head _)))))) ?_
                  refine x_aload_n (pc := 99) dX11_filledAt_99 (List.Mem.tail _ (List.Mem.head _)) ?_
                  refine z_getR (pc := 100) (k := 34) (r := 18) dX11_filledAt_100 lf_X11_76 sh_0 rfl rf_0_34 ?_
                  refine x_iload_n (pc := 103) dX11_filledAt_103 (List.Mem.tail _ (List.Mem.tail _ (List.Mem.head _))) ?_
                  have rd17 := ok.1 18 r
                  refine z_iald (pc := 104) (j := r) (v := H.1 18 r) dX11_filledAt_104 sh_18 rfl (by omega) (by decide) rfl ?_
                  refine z_icmp_ge (pc := 105) (tgt := 123) dX11_filledAt_105 (by decide) (by omega) (by omega) (by omega) (by omega) (fun hb18 => ?_) (fun hb18 => ?_)
                  · skip
                    refine x_lload (pc := 123) dX11_filledAt_123 (List.Mem.head _) ?_
                    refine x_lstore (pc := 125) dX11_filledAt_125 (Nat.le_of_ble_eq_true rfl) ?_
                    show Ev _ _ _ _ _ [(7, .long (zL ((H.2 19 ((40 * r) + k))))), (5, .long (zL ((H.2 19 ((40 * r) + k))))), (0, .ref 0), (1, .int (zN ((r : Int)))), (2, .int (zN ((i : Int)))), (3, .int (zN (x))), (4, .int (zN ((k : Int))))] _ _
                    refine x_lload (pc := 127) dX11_filledAt_127 (List.Mem.tail _ (List.Mem.head _)) ?_
                    refine x_lload (pc := 129) dX11_filledAt_129 (List.Mem.head _) ?_
                    refine z_ladd (pc := 131) dX11_filledAt_131 ?_
                    refine z_ldc2_w (pc := 132) 2 dX11_filledAt_132 cl_X11_363 (by decide) ?_
                    refine z_ldivP (pc := 135) dX11_filledAt_135 (by omega) (by omega) (by omega) (by omega) ?_
                    refine z_l2i (pc := 136) dX11_filledAt_136 ?_
                    refine z_ireturn (pc := 137) dX11_filledAt_137 rfl (Or.inl rfl) ok (by omega) (by omega) ?_
                    refine ⟨?_, rfl⟩
                    unfold zfil
                    rw [hA, hB, if_neg (by omega)]
                    first | (rw [if_pos (by omega)]; show _ = H.2 19 (40 * r + k); omega) | (rw [if_neg (by omega), if_pos (by omega)]; show _ = H.2 19 (40 * r + x.toNat); omega) | (rw [if_neg (by omega), if_neg (by omega)]; rfl)
                  · skip
                    have hb2 : H.2 19 (40 * r + k) ≤ 1000000 := hb k (by omega)
                    have hp2 : 0 ≤ H.2 19 (40 * r + k) := by
                      rcases hsp2 with ⟨q1, -⟩ | ⟨a, q0, q00, q1, q2⟩
                      · omega
                      · rw [hB] at q1
                        rw [show k = a by omega]
                        exact q2
                    refine x_aload_n (pc := 108) dX11_filledAt_108 (List.Mem.tail _ (List.Mem.head _)) ?_
                    refine z_getR (pc := 109) (k := 35) (r := 19) dX11_filledAt_109 lf_X11_79 sh_0 rfl rf_0_35 ?_
                    refine z_bipush (pc := 112) dX11_filledAt_112 bp_40 ?_
                    refine x_iload_n (pc := 114) dX11_filledAt_114 (List.Mem.tail _ (List.Mem.tail _ (List.Mem.head _))) ?_
                    refine z_imul (pc := 115) dX11_filledAt_115 ?_
                    refine x_iload (pc := 116) dX11_filledAt_116 (List.Mem.tail _ (List.Mem.tail _ (List.Mem.tail _ (List.Mem.tail _ (List.Mem.tail _ (List.Mem.head _)))))) ?_
                    refine z_iadd (pc := 118) dX11_filledAt_118 ?_
                    have rd19 := ok.2 19 ((40 * r) + k)
                    refine z_lald (pc := 119) (j := ((40 * r) + k)) (v := H.2 19 ((40 * r) + k)) dX11_filledAt_119 sh_19 (by omega) (by omega) (by decide) rfl ?_
                    refine x_goto (pc := 120) (tgt := 125) dX11_filledAt_120 (by decide) ?_
                    refine x_lstore (pc := 125) dX11_filledAt_125 (Nat.le_of_ble_eq_true rfl) ?_
                    show Ev _ _ _ _ _ [(7, .long (zL ((H.2 19 ((40 * r) + k))))), (5, .long (zL ((H.2 19 ((40 * r) + k))))), (0, .ref 0), (1, .int (zN ((r : Int)))), (2, .int (zN ((i : Int)))), (3, .int (zN (x))), (4, .int (zN ((k : Int))))] _ _
                    refine x_lload (pc := 127) dX11_filledAt_127 (List.Mem.tail _ (List.Mem.head _)) ?_
                    refine x_lload (pc := 129) dX11_filledAt_129 (List.Mem.head _) ?_
                    refine z_ladd (pc := 131) dX11_filledAt_131 ?_
                    refine z_ldc2_w (pc := 132) 2 dX11_filledAt_132 cl_X11_363 (by decide) ?_
                    refine z_ldivP (pc := 135) dX11_filledAt_135 (by omega) (by omega) (by omega) (by omega) ?_
                    refine z_l2i (pc := 136) dX11_filledAt_136 ?_
                    refine z_ireturn (pc := 137) dX11_filledAt_137 rfl (Or.inl rfl) ok (by omega) (by omega) ?_
                    refine ⟨?_, rfl⟩
                    unfold zfil
                    rw [hA, hB, if_neg (by omega)]
                    first | (rw [if_pos (by omega)]; show _ = H.2 19 (40 * r + k); omega) | (rw [if_neg (by omega), if_pos (by omega)]; show _ = H.2 19 (40 * r + x.toNat); omega) | (rw [if_neg (by omega), if_neg (by omega)]; rfl)
                · skip
                  have hb1 : H.2 19 (40 * r + x.toNat) ≤ 1000000 := hb x.toNat (by omega)
                  have hp1 : 0 ≤ H.2 19 (40 * r + x.toNat) := by
                    rcases hsp1 with ⟨q1, -⟩ | ⟨a, q0, q1, q2⟩
                    · omega
                    · rw [hA] at q1
                      rw [show x.toNat = a by omega]
                      exact q2
                  refine x_aload_n (pc := 69) dX11_filledAt_69 (List.Mem.head _) ?_
                  refine z_getR (pc := 70) (k := 35) (r := 19) dX11_filledAt_70 lf_X11_79 sh_0 rfl rf_0_35 ?_
                  refine z_bipush (pc := 73) dX11_filledAt_73 bp_40 ?_
                  refine x_iload_n (pc := 75) dX11_filledAt_75 (List.Mem.tail _ (List.Mem.head _)) ?_
                  refine z_imul (pc := 76) dX11_filledAt_76 ?_
                  refine x_iload_n (pc := 77) dX11_filledAt_77 (List.Mem.tail _ (List.Mem.tail _ (List.Mem.tail _ (List.Mem.head _)))) ?_
                  refine z_iadd (pc := 78) dX11_filledAt_78 ?_
                  have rd20 := ok.2 19 (40 * r + x.toNat)
                  refine z_lald (pc := 79) (j := 40 * r + x.toNat) (v := H.2 19 (40 * r + x.toNat)) dX11_filledAt_79 sh_19 (by omega) (by omega) (by decide) rfl ?_
                  refine x_goto (pc := 80) (tgt := 95) dX11_filledAt_80 (by decide) ?_
                  refine x_lstore (pc := 95) dX11_filledAt_95 (Nat.le_of_ble_eq_true rfl) ?_
                  show Ev _ _ _ _ _ [(5, .long (zL ((H.2 19 (40 * r + x.toNat))))), (0, .ref 0), (1, .int (zN ((r : Int)))), (2, .int (zN ((i : Int)))), (3, .int (zN (x))), (4, .int (zN ((k : Int))))] _ _
                  refine x_iload (pc := 97) dX11_filledAt_97 (List.Mem.tail _ (List.Mem.tail _ (List.Mem.tail _ (List.Mem.tail _ (List.Mem.tail _ (List.Mem.head _)))))) ?_
                  refine x_aload_n (pc := 99) dX11_filledAt_99 (List.Mem.tail _ (List.Mem.head _)) ?_
                  refine z_getR (pc := 100) (k := 34) (r := 18) dX11_filledAt_100 lf_X11_76 sh_0 rfl rf_0_34 ?_
                  refine x_iload_n (pc := 103) dX11_filledAt_103 (List.Mem.tail _ (List.Mem.tail _ (List.Mem.head _))) ?_
                  have rd21 := ok.1 18 r
                  refine z_iald (pc := 104) (j := r) (v := H.1 18 r) dX11_filledAt_104 sh_18 rfl (by omega) (by decide) rfl ?_
                  refine z_icmp_ge (pc := 105) (tgt := 123) dX11_filledAt_105 (by decide) (by omega) (by omega) (by omega) (by omega) (fun hb22 => ?_) (fun hb22 => ?_)
                  · skip
                    refine x_lload (pc := 123) dX11_filledAt_123 (List.Mem.head _) ?_
                    refine x_lstore (pc := 125) dX11_filledAt_125 (Nat.le_of_ble_eq_true rfl) ?_
                    show Ev _ _ _ _ _ [(7, .long (zL ((H.2 19 (40 * r + x.toNat))))), (5, .long (zL ((H.2 19 (40 * r + x.toNat))))), (0, .ref 0), (1, .int (zN ((r : Int)))), (2, .int (zN ((i : Int)))), (3, .int (zN (x))), (4, .int (zN ((k : Int))))] _ _
                    refine x_lload (pc := 127) dX11_filledAt_127 (List.Mem.tail _ (List.Mem.head _)) ?_
                    refine x_lload (pc := 129) dX11_filledAt_129 (List.Mem.head _) ?_
                    refine z_ladd (pc := 131) dX11_filledAt_131 ?_
                    refine z_ldc2_w (pc := 132) 2 dX11_filledAt_132 cl_X11_363 (by decide) ?_
                    refine z_ldivP (pc := 135) dX11_filledAt_135 (by omega) (by omega) (by omega) (by omega) ?_
                    refine z_l2i (pc := 136) dX11_filledAt_136 ?_
                    refine z_ireturn (pc := 137) dX11_filledAt_137 rfl (Or.inl rfl) ok (by omega) (by omega) ?_
                    refine ⟨?_, rfl⟩
                    unfold zfil
                    rw [hA, hB, if_neg (by omega)]
                    first | (rw [if_pos (by omega)]; show _ = H.2 19 (40 * r + k); omega) | (rw [if_neg (by omega), if_pos (by omega)]; show _ = H.2 19 (40 * r + x.toNat); omega) | (rw [if_neg (by omega), if_neg (by omega)]; rfl)
                  · skip
                    have hb2 : H.2 19 (40 * r + k) ≤ 1000000 := hb k (by omega)
                    have hp2 : 0 ≤ H.2 19 (40 * r + k) := by
                      rcases hsp2 with ⟨q1, -⟩ | ⟨a, q0, q00, q1, q2⟩
                      · omega
                      · rw [hB] at q1
                        rw [show k = a by omega]
                        exact q2
                    refine x_aload_n (pc := 108) dX11_filledAt_108 (List.Mem.tail _ (List.Mem.head _)) ?_
                    refine z_getR (pc := 109) (k := 35) (r := 19) dX11_filledAt_109 lf_X11_79 sh_0 rfl rf_0_35 ?_
                    refine z_bipush (pc := 112) dX11_filledAt_112 bp_40 ?_
                    refine x_iload_n (pc := 114) dX11_filledAt_114 (List.Mem.tail _ (List.Mem.tail _ (List.Mem.head _))) ?_
                    refine z_imul (pc := 115) dX11_filledAt_115 ?_
                    refine x_iload (pc := 116) dX11_filledAt_116 (List.Mem.tail _ (List.Mem.tail _ (List.Mem.tail _ (List.Mem.tail _ (List.Mem.tail _ (List.Mem.head _)))))) ?_
                    refine z_iadd (pc := 118) dX11_filledAt_118 ?_
                    have rd23 := ok.2 19 ((40 * r) + k)
                    refine z_lald (pc := 119) (j := ((40 * r) + k)) (v := H.2 19 ((40 * r) + k)) dX11_filledAt_119 sh_19 (by omega) (by omega) (by decide) rfl ?_
                    refine x_goto (pc := 120) (tgt := 125) dX11_filledAt_120 (by decide) ?_
                    refine x_lstore (pc := 125) dX11_filledAt_125 (Nat.le_of_ble_eq_true rfl) ?_
                    show Ev _ _ _ _ _ [(7, .long (zL ((H.2 19 ((40 * r) + k))))), (5, .long (zL ((H.2 19 (40 * r + x.toNat))))), (0, .ref 0), (1, .int (zN ((r : Int)))), (2, .int (zN ((i : Int)))), (3, .int (zN (x))), (4, .int (zN ((k : Int))))] _ _
                    refine x_lload (pc := 127) dX11_filledAt_127 (List.Mem.tail _ (List.Mem.head _)) ?_
                    refine x_lload (pc := 129) dX11_filledAt_129 (List.Mem.head _) ?_
                    refine z_ladd (pc := 131) dX11_filledAt_131 ?_
                    refine z_ldc2_w (pc := 132) 2 dX11_filledAt_132 cl_X11_363 (by decide) ?_
                    refine z_ldivP (pc := 135) dX11_filledAt_135 (by omega) (by omega) (by omega) (by omega) ?_
                    refine z_l2i (pc := 136) dX11_filledAt_136 ?_
                    refine z_ireturn (pc := 137) dX11_filledAt_137 rfl (Or.inl rfl) ok (by omega) (by omega) ?_
                    refine ⟨?_, rfl⟩
                    unfold zfil
                    rw [hA, hB, if_neg (by omega)]
                    first | (rw [if_pos (by omega)]; show _ = H.2 19 (40 * r + k); omega) | (rw [if_neg (by omega), if_pos (by omega)]; show _ = H.2 19 (40 * r + x.toNat); omega) | (rw [if_neg (by omega), if_neg (by omega)]; rfl)
              · skip
                refine z_iinc (pc := 59) dX11_filledAt_59 (List.Mem.tail _ (List.Mem.tail _ (List.Mem.tail _ (List.Mem.tail _ (List.Mem.head _))))) (Nat.le_of_ble_eq_true rfl) ?_
                show Ev _ _ _ _ _ [(4, .int (zN ((k : Int) + 1))), (0, .ref 0), (1, .int (zN ((r : Int)))), (2, .int (zN ((i : Int)))), (3, .int (zN (x)))] _ _
                refine x_goto (pc := 62) (tgt := 31) dX11_filledAt_62 (by decide) ?_
                refine x_weaken (L1 := [(0, .ref 0), (1, .int (zN ((r : Int)))), (2, .int (zN ((i : Int)))), (3, .int (zN (x))), (4, .int (zN ((((k + 1) : Nat) : Int))))]) (List.forall_mem_cons.mpr ⟨(List.Mem.tail _ (List.Mem.head _)), (List.forall_mem_cons.mpr ⟨(List.Mem.tail _ (List.Mem.tail _ (List.Mem.head _))), (List.forall_mem_cons.mpr ⟨(List.Mem.tail _ (List.Mem.tail _ (List.Mem.tail _ (List.Mem.head _)))), (List.forall_mem_cons.mpr ⟨(List.Mem.tail _ (List.Mem.tail _ (List.Mem.tail _ (List.Mem.tail _ (List.Mem.head _))))), (List.forall_mem_cons.mpr ⟨(mem_ci (by omega) (List.Mem.head _)), (fun _ h => absurd h List.not_mem_nil)⟩)⟩)⟩)⟩)⟩) ?_
                exact ih31 ((k + 1)) (by omega) (by rw [hy, show (H.1 18 r).toNat - k = ((H.1 18 r).toNat - (k + 1)) + 1 by omega]; exact if_neg (show ¬ 0 ≤ H.2 19 (40 * r + k) by omega)) (by omega)
        refine x_weaken (L1 := [(0, .ref 0), (1, .int (zN ((r : Int)))), (2, .int (zN ((i : Int)))), (3, .int (zN (x))), (4, .int (zN (((i : Nat) : Int))))]) (List.forall_mem_cons.mpr ⟨(List.Mem.head _), (List.forall_mem_cons.mpr ⟨(List.Mem.tail _ (List.Mem.head _)), (List.forall_mem_cons.mpr ⟨(List.Mem.tail _ (List.Mem.tail _ (List.Mem.head _))), (List.forall_mem_cons.mpr ⟨(List.Mem.tail _ (List.Mem.tail _ (List.Mem.tail _ (List.Mem.head _)))), (List.forall_mem_cons.mpr ⟨(mem_ci (by omega) (List.Mem.tail _ (List.Mem.tail _ (List.Mem.tail _ (List.Mem.tail _ (List.Mem.head _)))))), (fun _ h => absurd h List.not_mem_nil)⟩)⟩)⟩)⟩)⟩) ?_
        exact lp31 ((H.1 18 r).toNat - i + 1) (i) (by omega) (rfl) (Nat.lt_succ_self _)
      · skip
        refine x_aload_n (pc := 9) dX11_filledAt_9 (List.Mem.head _) ?_
        refine z_getR (pc := 10) (k := 35) (r := 19) dX11_filledAt_10 lf_X11_79 sh_0 rfl rf_0_35 ?_
        refine z_bipush (pc := 13) dX11_filledAt_13 bp_40 ?_
        refine x_iload_n (pc := 15) dX11_filledAt_15 (List.Mem.tail _ (List.Mem.head _)) ?_
        refine z_imul (pc := 16) dX11_filledAt_16 ?_
        refine x_iload_n (pc := 17) dX11_filledAt_17 (List.Mem.tail _ (List.Mem.tail _ (List.Mem.tail _ (List.Mem.head _)))) ?_
        refine z_iadd (pc := 18) dX11_filledAt_18 ?_
        have rd24 := ok.2 19 (40 * r + x.toNat)
        refine z_lald (pc := 19) (j := 40 * r + x.toNat) (v := H.2 19 (40 * r + x.toNat)) dX11_filledAt_19 sh_19 (by omega) (by omega) (by decide) rfl ?_
        refine z_lconst (pc := 20) 0 dX11_filledAt_20 rfl ?_
        refine z_lcmp_ge (pc := 21) (tgt := 31) dX11_filledAt_21 dX11_filledAt_22 (by decide) (by omega) (by omega) (by decide) (by decide) (fun hb25 => ?_) (fun hb25 => ?_)
        · skip
          have hA : zba (rvM H r) (i + 1) = x := by rw [hz, show (x + 1).toNat = x.toNat + 1 by omega]; exact (if_pos (show 0 ≤ H.2 19 (40 * r + x.toNat) by omega)).trans (by omega)
          have lp31 : ∀ (nF : Nat) (k : Nat), (i ≤ k ∧ (k : Int) ≤ H.1 18 r) → (zfw (rvM H r) ((H.1 18 r).toNat - i) i = zfw (rvM H r) ((H.1 18 r).toNat - k) k) → (H.1 18 r).toNat - k < nF → Ev zX mX11_filledAt (EvC zX d) (zPi (fun (rz : Int) (Hz : ZH) => rz = (zfil (rvM H r) (H.1 18 r).toNat i) ∧ Hz = H)) 31 [(0, .ref 0), (1, .int (zN ((r : Int)))), (2, .int (zN ((i : Int)))), (3, .int (zN (x))), (4, .int (zN ((k : Int))))] [] (eh H) := by
            intro nF
            induction nF with
            | zero => intro k hk hy hm; exact absurd hm (Nat.not_lt_zero _)
            | succ nF ih31 =>
              intro k hk hy hm
              refine x_iload (pc := 31) dX11_filledAt_31 (List.Mem.tail _ (List.Mem.tail _ (List.Mem.tail _ (List.Mem.tail _ (List.Mem.head _))))) ?_
              refine x_aload_n (pc := 33) dX11_filledAt_33 (List.Mem.head _) ?_
              refine z_getR (pc := 34) (k := 34) (r := 18) dX11_filledAt_34 lf_X11_76 sh_0 rfl rf_0_34 ?_
              refine x_iload_n (pc := 37) dX11_filledAt_37 (List.Mem.tail _ (List.Mem.head _)) ?_
              have rd26 := ok.1 18 r
              refine z_iald (pc := 38) (j := r) (v := H.1 18 r) dX11_filledAt_38 sh_18 rfl (by omega) (by decide) rfl ?_
              refine z_icmp_ge (pc := 39) (tgt := 65) dX11_filledAt_39 (by decide) (by omega) (by omega) (by omega) (by omega) (fun hb27 => ?_) (fun hb27 => ?_)
              · skip
                have hB : zfw (rvM H r) ((H.1 18 r).toNat - i) i = k := by rw [hy, show (H.1 18 r).toNat - k = 0 by omega]; rfl
                rw [hA, hB] at hno
                refine x_iload_n (pc := 65) dX11_filledAt_65 (List.Mem.tail _ (List.Mem.tail _ (List.Mem.tail _ (List.Mem.head _)))) ?_
                refine z_if_lt (pc := 66) (tgt := 83) dX11_filledAt_66 (by decide) (by omega) (by omega) (fun hb28 => ?_) (fun hb28 => ?_)
                · skip
                  refine x_aload_n (pc := 83) dX11_filledAt_83 (List.Mem.head _) ?_
                  refine z_getR (pc := 84) (k := 35) (r := 19) dX11_filledAt_84 lf_X11_79 sh_0 rfl rf_0_35 ?_
                  refine z_bipush (pc := 87) dX11_filledAt_87 bp_40 ?_
                  refine x_iload_n (pc := 89) dX11_filledAt_89 (List.Mem.tail _ (List.Mem.head _)) ?_
                  refine z_imul (pc := 90) dX11_filledAt_90 ?_
                  refine x_iload (pc := 91) dX11_filledAt_91 (List.Mem.tail _ (List.Mem.tail _ (List.Mem.tail _ (List.Mem.tail _ (List.Mem.head _))))) ?_
                  refine z_iadd (pc := 93) dX11_filledAt_93 ?_
                  have rd29 := ok.2 19 ((40 * r) + k)
                  refine z_lald (pc := 94) (j := ((40 * r) + k)) (v := H.2 19 ((40 * r) + k)) dX11_filledAt_94 sh_19 (by omega) (by omega) (by decide) rfl ?_
                  refine x_lstore (pc := 95) dX11_filledAt_95 (Nat.le_of_ble_eq_true rfl) ?_
                  show Ev _ _ _ _ _ [(5, .long (zL ((H.2 19 ((40 * r) + k))))), (0, .ref 0), (1, .int (zN ((r : Int)))), (2, .int (zN ((i : Int)))), (3, .int (zN (x))), (4, .int (zN ((k : Int))))] _ _
                  refine x_iload (pc := 97) dX11_filledAt_97 (List.Mem.tail _ (List.Mem.tail _ (List.Mem.tail _ (List.Mem.tail _ (List.Mem.tail _ (List.Mem.head _)))))) ?_
                  refine x_aload_n (pc := 99) dX11_filledAt_99 (List.Mem.tail _ (List.Mem.head _)) ?_
                  refine z_getR (pc := 100) (k := 34) (r := 18) dX11_filledAt_100 lf_X11_76 sh_0 rfl rf_0_34 ?_
                  refine x_iload_n (pc := 103) dX11_filledAt_103 (List.Mem.tail _ (List.Mem.tail _ (List.Mem.head _))) ?_
                  have rd30 := ok.1 18 r
                  refine z_iald (pc := 104) (j := r) (v := H.1 18 r) dX11_filledAt_104 sh_18 rfl (by omega) (by decide) rfl ?_
                  refine z_icmp_ge (pc := 105) (tgt := 123) dX11_filledAt_105 (by decide) (by omega) (by omega) (by omega) (by omega) (fun hb31 => ?_) (fun hb31 => ?_)
                  · skip
                    refine x_lload (pc := 123) dX11_filledAt_123 (List.Mem.head _) ?_
                    refine x_lstore (pc := 125) dX11_filledAt_125 (Nat.le_of_ble_eq_true rfl) ?_
                    show Ev _ _ _ _ _ [(7, .long (zL ((H.2 19 ((40 * r) + k))))), (5, .long (zL ((H.2 19 ((40 * r) + k))))), (0, .ref 0), (1, .int (zN ((r : Int)))), (2, .int (zN ((i : Int)))), (3, .int (zN (x))), (4, .int (zN ((k : Int))))] _ _
                    refine x_lload (pc := 127) dX11_filledAt_127 (List.Mem.tail _ (List.Mem.head _)) ?_
                    refine x_lload (pc := 129) dX11_filledAt_129 (List.Mem.head _) ?_
                    refine z_ladd (pc := 131) dX11_filledAt_131 ?_
                    refine z_ldc2_w (pc := 132) 2 dX11_filledAt_132 cl_X11_363 (by decide) ?_
                    refine z_ldivP (pc := 135) dX11_filledAt_135 (by omega) (by omega) (by omega) (by omega) ?_
                    refine z_l2i (pc := 136) dX11_filledAt_136 ?_
                    refine z_ireturn (pc := 137) dX11_filledAt_137 rfl (Or.inl rfl) ok (by omega) (by omega) ?_
                    refine ⟨?_, rfl⟩
                    unfold zfil
                    rw [hA, hB, if_neg (by omega)]
                    first | (rw [if_pos (by omega)]; show _ = H.2 19 (40 * r + k); omega) | (rw [if_neg (by omega), if_pos (by omega)]; show _ = H.2 19 (40 * r + x.toNat); omega) | (rw [if_neg (by omega), if_neg (by omega)]; rfl)
                  · skip
                    have hb2 : H.2 19 (40 * r + k) ≤ 1000000 := hb k (by omega)
                    have hp2 : 0 ≤ H.2 19 (40 * r + k) := by
                      rcases hsp2 with ⟨q1, -⟩ | ⟨a, q0, q00, q1, q2⟩
                      · omega
                      · rw [hB] at q1
                        rw [show k = a by omega]
                        exact q2
                    refine x_aload_n (pc := 108) dX11_filledAt_108 (List.Mem.tail _ (List.Mem.head _)) ?_
                    refine z_getR (pc := 109) (k := 35) (r := 19) dX11_filledAt_109 lf_X11_79 sh_0 rfl rf_0_35 ?_
                    refine z_bipush (pc := 112) dX11_filledAt_112 bp_40 ?_
                    refine x_iload_n (pc := 114) dX11_filledAt_114 (List.Mem.tail _ (List.Mem.tail _ (List.Mem.head _))) ?_
                    refine z_imul (pc := 115) dX11_filledAt_115 ?_
                    refine x_iload (pc := 116) dX11_filledAt_116 (List.Mem.tail _ (List.Mem.tail _ (List.Mem.tail _ (List.Mem.tail _ (List.Mem.tail _ (List.Mem.head _)))))) ?_
                    refine z_iadd (pc := 118) dX11_filledAt_118 ?_
                    have rd32 := ok.2 19 ((40 * r) + k)
                    refine z_lald (pc := 119) (j := ((40 * r) + k)) (v := H.2 19 ((40 * r) + k)) dX11_filledAt_119 sh_19 (by omega) (by omega) (by decide) rfl ?_
                    refine x_goto (pc := 120) (tgt := 125) dX11_filledAt_120 (by decide) ?_
                    refine x_lstore (pc := 125) dX11_filledAt_125 (Nat.le_of_ble_eq_true rfl) ?_
                    show Ev _ _ _ _ _ [(7, .long (zL ((H.2 19 ((40 * r) + k))))), (5, .long (zL ((H.2 19 ((40 * r) + k))))), (0, .ref 0), (1, .int (zN ((r : Int)))), (2, .int (zN ((i : Int)))), (3, .int (zN (x))), (4, .int (zN ((k : Int))))] _ _
                    refine x_lload (pc := 127) dX11_filledAt_127 (List.Mem.tail _ (List.Mem.head _)) ?_
                    refine x_lload (pc := 129) dX11_filledAt_129 (List.Mem.head _) ?_
                    refine z_ladd (pc := 131) dX11_filledAt_131 ?_
                    refine z_ldc2_w (pc := 132) 2 dX11_filledAt_132 cl_X11_363 (by decide) ?_
                    refine z_ldivP (pc := 135) dX11_filledAt_135 (by omega) (by omega) (by omega) (by omega) ?_
                    refine z_l2i (pc := 136) dX11_filledAt_136 ?_
                    refine z_ireturn (pc := 137) dX11_filledAt_137 rfl (Or.inl rfl) ok (by omega) (by omega) ?_
                    refine ⟨?_, rfl⟩
                    unfold zfil
                    rw [hA, hB, if_neg (by omega)]
                    first | (rw [if_pos (by omega)]; show _ = H.2 19 (40 * r + k); omega) | (rw [if_neg (by omega), if_pos (by omega)]; show _ = H.2 19 (40 * r + x.toNat); omega) | (rw [if_neg (by omega), if_neg (by omega)]; rfl)
                · skip
                  have hb1 : H.2 19 (40 * r + x.toNat) ≤ 1000000 := hb x.toNat (by omega)
                  have hp1 : 0 ≤ H.2 19 (40 * r + x.toNat) := by
                    rcases hsp1 with ⟨q1, -⟩ | ⟨a, q0, q1, q2⟩
                    · omega
                    · rw [hA] at q1
                      rw [show x.toNat = a by omega]
                      exact q2
                  refine x_aload_n (pc := 69) dX11_filledAt_69 (List.Mem.head _) ?_
                  refine z_getR (pc := 70) (k := 35) (r := 19) dX11_filledAt_70 lf_X11_79 sh_0 rfl rf_0_35 ?_
                  refine z_bipush (pc := 73) dX11_filledAt_73 bp_40 ?_
                  refine x_iload_n (pc := 75) dX11_filledAt_75 (List.Mem.tail _ (List.Mem.head _)) ?_
                  refine z_imul (pc := 76) dX11_filledAt_76 ?_
                  refine x_iload_n (pc := 77) dX11_filledAt_77 (List.Mem.tail _ (List.Mem.tail _ (List.Mem.tail _ (List.Mem.head _)))) ?_
                  refine z_iadd (pc := 78) dX11_filledAt_78 ?_
                  have rd33 := ok.2 19 (40 * r + x.toNat)
                  refine z_lald (pc := 79) (j := 40 * r + x.toNat) (v := H.2 19 (40 * r + x.toNat)) dX11_filledAt_79 sh_19 (by omega) (by omega) (by decide) rfl ?_
                  refine x_goto (pc := 80) (tgt := 95) dX11_filledAt_80 (by decide) ?_
                  refine x_lstore (pc := 95) dX11_filledAt_95 (Nat.le_of_ble_eq_true rfl) ?_
                  show Ev _ _ _ _ _ [(5, .long (zL ((H.2 19 (40 * r + x.toNat))))), (0, .ref 0), (1, .int (zN ((r : Int)))), (2, .int (zN ((i : Int)))), (3, .int (zN (x))), (4, .int (zN ((k : Int))))] _ _
                  refine x_iload (pc := 97) dX11_filledAt_97 (List.Mem.tail _ (List.Mem.tail _ (List.Mem.tail _ (List.Mem.tail _ (List.Mem.tail _ (List.Mem.head _)))))) ?_
                  refine x_aload_n (pc := 99) dX11_filledAt_99 (List.Mem.tail _ (List.Mem.head _)) ?_
                  refine z_getR (pc := 100) (k := 34) (r := 18) dX11_filledAt_100 lf_X11_76 sh_0 rfl rf_0_34 ?_
                  refine x_iload_n (pc := 103) dX11_filledAt_103 (List.Mem.tail _ (List.Mem.tail _ (List.Mem.head _))) ?_
                  have rd34 := ok.1 18 r
                  refine z_iald (pc := 104) (j := r) (v := H.1 18 r) dX11_filledAt_104 sh_18 rfl (by omega) (by decide) rfl ?_
                  refine z_icmp_ge (pc := 105) (tgt := 123) dX11_filledAt_105 (by decide) (by omega) (by omega) (by omega) (by omega) (fun hb35 => ?_) (fun hb35 => ?_)
                  · skip
                    refine x_lload (pc := 123) dX11_filledAt_123 (List.Mem.head _) ?_
                    refine x_lstore (pc := 125) dX11_filledAt_125 (Nat.le_of_ble_eq_true rfl) ?_
                    show Ev _ _ _ _ _ [(7, .long (zL ((H.2 19 (40 * r + x.toNat))))), (5, .long (zL ((H.2 19 (40 * r + x.toNat))))), (0, .ref 0), (1, .int (zN ((r : Int)))), (2, .int (zN ((i : Int)))), (3, .int (zN (x))), (4, .int (zN ((k : Int))))] _ _
                    refine x_lload (pc := 127) dX11_filledAt_127 (List.Mem.tail _ (List.Mem.head _)) ?_
                    refine x_lload (pc := 129) dX11_filledAt_129 (List.Mem.head _) ?_
                    refine z_ladd (pc := 131) dX11_filledAt_131 ?_
                    refine z_ldc2_w (pc := 132) 2 dX11_filledAt_132 cl_X11_363 (by decide) ?_
                    refine z_ldivP (pc := 135) dX11_filledAt_135 (by omega) (by omega) (by omega) (by omega) ?_
                    refine z_l2i (pc := 136) dX11_filledAt_136 ?_
                    refine z_ireturn (pc := 137) dX11_filledAt_137 rfl (Or.inl rfl) ok (by omega) (by omega) ?_
                    refine ⟨?_, rfl⟩
                    unfold zfil
                    rw [hA, hB, if_neg (by omega)]
                    first | (rw [if_pos (by omega)]; show _ = H.2 19 (40 * r + k); omega) | (rw [if_neg (by omega), if_pos (by omega)]; show _ = H.2 19 (40 * r + x.toNat); omega) | (rw [if_neg (by omega), if_neg (by omega)]; rfl)
                  · skip
                    have hb2 : H.2 19 (40 * r + k) ≤ 1000000 := hb k (by omega)
                    have hp2 : 0 ≤ H.2 19 (40 * r + k) := by
                      rcases hsp2 with ⟨q1, -⟩ | ⟨a, q0, q00, q1, q2⟩
                      · omega
                      · rw [hB] at q1
                        rw [show k = a by omega]
                        exact q2
                    refine x_aload_n (pc := 108) dX11_filledAt_108 (List.Mem.tail _ (List.Mem.head _)) ?_
                    refine z_getR (pc := 109) (k := 35) (r := 19) dX11_filledAt_109 lf_X11_79 sh_0 rfl rf_0_35 ?_
                    refine z_bipush (pc := 112) dX11_filledAt_112 bp_40 ?_
                    refine x_iload_n (pc := 114) dX11_filledAt_114 (List.Mem.tail _ (List.Mem.tail _ (List.Mem.head _))) ?_
                    refine z_imul (pc := 115) dX11_filledAt_115 ?_
                    refine x_iload (pc := 116) dX11_filledAt_116 (List.Mem.tail _ (List.Mem.tail _ (List.Mem.tail _ (List.Mem.tail _ (List.Mem.tail _ (List.Mem.head _)))))) ?_
                    refine z_iadd (pc := 118) dX11_filledAt_118 ?_
                    have rd36 := ok.2 19 ((40 * r) + k)
                    refine z_lald (pc := 119) (j := ((40 * r) + k)) (v := H.2 19 ((40 * r) + k)) dX11_filledAt_119 sh_19 (by omega) (by omega) (by decide) rfl ?_
                    refine x_goto (pc := 120) (tgt := 125) dX11_filledAt_120 (by decide) ?_
                    refine x_lstore (pc := 125) dX11_filledAt_125 (Nat.le_of_ble_eq_true rfl) ?_
                    show Ev _ _ _ _ _ [(7, .long (zL ((H.2 19 ((40 * r) + k))))), (5, .long (zL ((H.2 19 (40 * r + x.toNat))))), (0, .ref 0), (1, .int (zN ((r : Int)))), (2, .int (zN ((i : Int)))), (3, .int (zN (x))), (4, .int (zN ((k : Int))))] _ _
                    refine x_lload (pc := 127) dX11_filledAt_127 (List.Mem.tail _ (List.Mem.head _)) ?_
                    refine x_lload (pc := 129) dX11_filledAt_129 (List.Mem.head _) ?_
                    refine z_ladd (pc := 131) dX11_filledAt_131 ?_
                    refine z_ldc2_w (pc := 132) 2 dX11_filledAt_132 cl_X11_363 (by decide) ?_
                    refine z_ldivP (pc := 135) dX11_filledAt_135 (by omega) (by omega) (by omega) (by omega) ?_
                    refine z_l2i (pc := 136) dX11_filledAt_136 ?_
                    refine z_ireturn (pc := 137) dX11_filledAt_137 rfl (Or.inl rfl) ok (by omega) (by omega) ?_
                    refine ⟨?_, rfl⟩
                    unfold zfil
                    rw [hA, hB, if_neg (by omega)]
                    first | (rw [if_pos (by omega)]; show _ = H.2 19 (40 * r + k); omega) | (rw [if_neg (by omega), if_pos (by omega)]; show _ = H.2 19 (40 * r + x.toNat); omega) | (rw [if_neg (by omega), if_neg (by omega)]; rfl)
              · skip
                refine x_aload_n (pc := 42) dX11_filledAt_42 (List.Mem.head _) ?_
                refine z_getR (pc := 43) (k := 35) (r := 19) dX11_filledAt_43 lf_X11_79 sh_0 rfl rf_0_35 ?_
                refine z_bipush (pc := 46) dX11_filledAt_46 bp_40 ?_
                refine x_iload_n (pc := 48) dX11_filledAt_48 (List.Mem.tail _ (List.Mem.head _)) ?_
                refine z_imul (pc := 49) dX11_filledAt_49 ?_
                refine x_iload (pc := 50) dX11_filledAt_50 (List.Mem.tail _ (List.Mem.tail _ (List.Mem.tail _ (List.Mem.tail _ (List.Mem.head _))))) ?_
                refine z_iadd (pc := 52) dX11_filledAt_52 ?_
                have rd37 := ok.2 19 ((40 * r) + k)
                refine z_lald (pc := 53) (j := ((40 * r) + k)) (v := H.2 19 ((40 * r) + k)) dX11_filledAt_53 sh_19 (by omega) (by omega) (by decide) rfl ?_
                refine z_lconst (pc := 54) 0 dX11_filledAt_54 rfl ?_
                refine z_lcmp_ge (pc := 55) (tgt := 65) dX11_filledAt_55 dX11_filledAt_56 (by decide) (by omega) (by omega) (by decide) (by decide) (fun hb38 => ?_) (fun hb38 => ?_)
                · skip
                  have hB : zfw (rvM H r) ((H.1 18 r).toNat - i) i = k := by rw [hy, show (H.1 18 r).toNat - k = ((H.1 18 r).toNat - (k + 1)) + 1 by omega]; exact if_pos (show 0 ≤ H.2 19 (40 * r + k) by omega)
                  rw [hA, hB] at hno
                  refine x_iload_n (pc := 65) dX11_filledAt_65 (List.Mem.tail _ (List.Mem.tail _ (List.Mem.tail _ (List.Mem.head _)))) ?_
                  refine z_if_lt (pc := 66) (tgt := 83) dX11_filledAt_66 (by decide) (by omega) (by omega) (fun hb39 => ?_) (fun hb39 => ?_)
                  · skip
                    refine x_aload_n (pc := 83) dX11_filledAt_83 (List.Mem.head _) ?_
                    refine z_getR (pc := 84) (k := 35) (r := 19) dX11_filledAt_84 lf_X11_79 sh_0 rfl rf_0_35 ?_
                    refine z_bipush (pc := 87) dX11_filledAt_87 bp_40 ?_
                    refine x_iload_n (pc := 89) dX11_filledAt_89 (List.Mem.tail _ (List.Mem.head _)) ?_
                    refine z_imul (pc := 90) dX11_filledAt_90 ?_
                    refine x_iload (pc := 91) dX11_filledAt_91 (List.Mem.tail _ (List.Mem.tail _ (List.Mem.tail _ (List.Mem.tail _ (List.Mem.head _))))) ?_
                    refine z_iadd (pc := 93) dX11_filledAt_93 ?_
                    have rd40 := ok.2 19 ((40 * r) + k)
                    refine z_lald (pc := 94) (j := ((40 * r) + k)) (v := H.2 19 ((40 * r) + k)) dX11_filledAt_94 sh_19 (by omega) (by omega) (by decide) rfl ?_
                    refine x_lstore (pc := 95) dX11_filledAt_95 (Nat.le_of_ble_eq_true rfl) ?_
                    show Ev _ _ _ _ _ [(5, .long (zL ((H.2 19 ((40 * r) + k))))), (0, .ref 0), (1, .int (zN ((r : Int)))), (2, .int (zN ((i : Int)))), (3, .int (zN (x))), (4, .int (zN ((k : Int))))] _ _
                    refine x_iload (pc := 97) dX11_filledAt_97 (List.Mem.tail _ (List.Mem.tail _ (List.Mem.tail _ (List.Mem.tail _ (List.Mem.tail _ (List.Mem.head _)))))) ?_
                    refine x_aload_n (pc := 99) dX11_filledAt_99 (List.Mem.tail _ (List.Mem.head _)) ?_
                    refine z_getR (pc := 100) (k := 34) (r := 18) dX11_filledAt_100 lf_X11_76 sh_0 rfl rf_0_34 ?_
                    refine x_iload_n (pc := 103) dX11_filledAt_103 (List.Mem.tail _ (List.Mem.tail _ (List.Mem.head _))) ?_
                    have rd41 := ok.1 18 r
                    refine z_iald (pc := 104) (j := r) (v := H.1 18 r) dX11_filledAt_104 sh_18 rfl (by omega) (by decide) rfl ?_
                    refine z_icmp_ge (pc := 105) (tgt := 123) dX11_filledAt_105 (by decide) (by omega) (by omega) (by omega) (by omega) (fun hb42 => ?_) (fun hb42 => ?_)
                    · skip
                      refine x_lload (pc := 123) dX11_filledAt_123 (List.Mem.head _) ?_
                      refine x_lstore (pc := 125) dX11_filledAt_125 (Nat.le_of_ble_eq_true rfl) ?_
                      show Ev _ _ _ _ _ [(7, .long (zL ((H.2 19 ((40 * r) + k))))), (5, .long (zL ((H.2 19 ((40 * r) + k))))), (0, .ref 0), (1, .int (zN ((r : Int)))), (2, .int (zN ((i : Int)))), (3, .int (zN (x))), (4, .int (zN ((k : Int))))] _ _
                      refine x_lload (pc := 127) dX11_filledAt_127 (List.Mem.tail _ (List.Mem.head _)) ?_
                      refine x_lload (pc := 129) dX11_filledAt_129 (List.Mem.head _) ?_
                      refine z_ladd (pc := 131) dX11_filledAt_131 ?_
                      refine z_ldc2_w (pc := 132) 2 dX11_filledAt_132 cl_X11_363 (by decide) ?_
                      refine z_ldivP (pc := 135) dX11_filledAt_135 (by omega) (by omega) (by omega) (by omega) ?_
                      refine z_l2i (pc := 136) dX11_filledAt_136 ?_
                      refine z_ireturn (pc := 137) dX11_filledAt_137 rfl (Or.inl rfl) ok (by omega) (by omega) ?_
                      refine ⟨?_, rfl⟩
                      unfold zfil
                      rw [hA, hB, if_neg (by omega)]
                      first | (rw [if_pos (by omega)]; show _ = H.2 19 (40 * r + k); omega) | (rw [if_neg (by omega), if_pos (by omega)]; show _ = H.2 19 (40 * r + x.toNat); omega) | (rw [if_neg (by omega), if_neg (by omega)]; rfl)
                    · skip
                      have hb2 : H.2 19 (40 * r + k) ≤ 1000000 := hb k (by omega)
                      have hp2 : 0 ≤ H.2 19 (40 * r + k) := by
                        rcases hsp2 with ⟨q1, -⟩ | ⟨a, q0, q00, q1, q2⟩
                        · omega
                        · rw [hB] at q1
                          rw [show k = a by omega]
                          exact q2
                      refine x_aload_n (pc := 108) dX11_filledAt_108 (List.Mem.tail _ (List.Mem.head _)) ?_
                      refine z_getR (pc := 109) (k := 35) (r := 19) dX11_filledAt_109 lf_X11_79 sh_0 rfl rf_0_35 ?_
                      refine z_bipush (pc := 112) dX11_filledAt_112 bp_40 ?_
                      refine x_iload_n (pc := 114) dX11_filledAt_114 (List.Mem.tail _ (List.Mem.tail _ (List.Mem.head _))) ?_
                      refine z_imul (pc := 115) dX11_filledAt_115 ?_
                      refine x_iload (pc := 116) dX11_filledAt_116 (List.Mem.tail _ (List.Mem.tail _ (List.Mem.tail _ (List.Mem.tail _ (List.Mem.tail _ (List.Mem.head _)))))) ?_
                      refine z_iadd (pc := 118) dX11_filledAt_118 ?_
                      have rd43 := ok.2 19 ((40 * r) + k)
                      refine z_lald (pc := 119) (j := ((40 * r) + k)) (v := H.2 19 ((40 * r) + k)) dX11_filledAt_119 sh_19 (by omega) (by omega) (by decide) rfl ?_
                      refine x_goto (pc := 120) (tgt := 125) dX11_filledAt_120 (by decide) ?_
                      refine x_lstore (pc := 125) dX11_filledAt_125 (Nat.le_of_ble_eq_true rfl) ?_
                      show Ev _ _ _ _ _ [(7, .long (zL ((H.2 19 ((40 * r) + k))))), (5, .long (zL ((H.2 19 ((40 * r) + k))))), (0, .ref 0), (1, .int (zN ((r : Int)))), (2, .int (zN ((i : Int)))), (3, .int (zN (x))), (4, .int (zN ((k : Int))))] _ _
                      refine x_lload (pc := 127) dX11_filledAt_127 (List.Mem.tail _ (List.Mem.head _)) ?_
                      refine x_lload (pc := 129) dX11_filledAt_129 (List.Mem.head _) ?_
                      refine z_ladd (pc := 131) dX11_filledAt_131 ?_
                      refine z_ldc2_w (pc := 132) 2 dX11_filledAt_132 cl_X11_363 (by decide) ?_
                      refine z_ldivP (pc := 135) dX11_filledAt_135 (by omega) (by omega) (by omega) (by omega) ?_
                      refine z_l2i (pc := 136) dX11_filledAt_136 ?_
                      refine z_ireturn (pc := 137) dX11_filledAt_137 rfl (Or.inl rfl) ok (by omega) (by omega) ?_
                      refine ⟨?_, rfl⟩
                      unfold zfil
                      rw [hA, hB, if_neg (by omega)]
                      first | (rw [if_pos (by omega)]; show _ = H.2 19 (40 * r + k); omega) | (rw [if_neg (by omega), if_pos (by omega)]; show _ = H.2 19 (40 * r + x.toNat); omega) | (rw [if_neg (by omega), if_neg (by omega)]; rfl)
                  · skip
                    have hb1 : H.2 19 (40 * r + x.toNat) ≤ 1000000 := hb x.toNat (by omega)
                    have hp1 : 0 ≤ H.2 19 (40 * r + x.toNat) := by
                      rcases hsp1 with ⟨q1, -⟩ | ⟨a, q0, q1, q2⟩
                      · omega
                      · rw [hA] at q1
                        rw [show x.toNat = a by omega]
                        exact q2
                    refine x_aload_n (pc := 69) dX11_filledAt_69 (List.Mem.head _) ?_
                    refine z_getR (pc := 70) (k := 35) (r := 19) dX11_filledAt_70 lf_X11_79 sh_0 rfl rf_0_35 ?_
                    refine z_bipush (pc := 73) dX11_filledAt_73 bp_40 ?_
                    refine x_iload_n (pc := 75) dX11_filledAt_75 (List.Mem.tail _ (List.Mem.head _)) ?_
                    refine z_imul (pc := 76) dX11_filledAt_76 ?_
                    refine x_iload_n (pc := 77) dX11_filledAt_77 (List.Mem.tail _ (List.Mem.tail _ (List.Mem.tail _ (List.Mem.head _)))) ?_
                    refine z_iadd (pc := 78) dX11_filledAt_78 ?_
                    have rd44 := ok.2 19 (40 * r + x.toNat)
                    refine z_lald (pc := 79) (j := 40 * r + x.toNat) (v := H.2 19 (40 * r + x.toNat)) dX11_filledAt_79 sh_19 (by omega) (by omega) (by decide) rfl ?_
                    refine x_goto (pc := 80) (tgt := 95) dX11_filledAt_80 (by decide) ?_
                    refine x_lstore (pc := 95) dX11_filledAt_95 (Nat.le_of_ble_eq_true rfl) ?_
                    show Ev _ _ _ _ _ [(5, .long (zL ((H.2 19 (40 * r + x.toNat))))), (0, .ref 0), (1, .int (zN ((r : Int)))), (2, .int (zN ((i : Int)))), (3, .int (zN (x))), (4, .int (zN ((k : Int))))] _ _
                    refine x_iload (pc := 97) dX11_filledAt_97 (List.Mem.tail _ (List.Mem.tail _ (List.Mem.tail _ (List.Mem.tail _ (List.Mem.tail _ (List.Mem.head _)))))) ?_
                    refine x_aload_n (pc := 99) dX11_filledAt_99 (List.Mem.tail _ (List.Mem.head _)) ?_
                    refine z_getR (pc := 100) (k := 34) (r := 18) dX11_filledAt_100 lf_X11_76 sh_0 rfl rf_0_34 ?_
                    refine x_iload_n (pc := 103) dX11_filledAt_103 (List.Mem.tail _ (List.Mem.tail _ (List.Mem.head _))) ?_
                    have rd45 := ok.1 18 r
                    refine z_iald (pc := 104) (j := r) (v := H.1 18 r) dX11_filledAt_104 sh_18 rfl (by omega) (by decide) rfl ?_
                    refine z_icmp_ge (pc := 105) (tgt := 123) dX11_filledAt_105 (by decide) (by omega) (by omega) (by omega) (by omega) (fun hb46 => ?_) (fun hb46 => ?_)
                    · skip
                      refine x_lload (pc := 123) dX11_filledAt_123 (List.Mem.head _) ?_
                      refine x_lstore (pc := 125) dX11_filledAt_125 (Nat.le_of_ble_eq_true rfl) ?_
                      show Ev _ _ _ _ _ [(7, .long (zL ((H.2 19 (40 * r + x.toNat))))), (5, .long (zL ((H.2 19 (40 * r + x.toNat))))), (0, .ref 0), (1, .int (zN ((r : Int)))), (2, .int (zN ((i : Int)))), (3, .int (zN (x))), (4, .int (zN ((k : Int))))] _ _
                      refine x_lload (pc := 127) dX11_filledAt_127 (List.Mem.tail _ (List.Mem.head _)) ?_
                      refine x_lload (pc := 129) dX11_filledAt_129 (List.Mem.head _) ?_
                      refine z_ladd (pc := 131) dX11_filledAt_131 ?_
                      refine z_ldc2_w (pc := 132) 2 dX11_filledAt_132 cl_X11_363 (by decide) ?_
                      refine z_ldivP (pc := 135) dX11_filledAt_135 (by omega) (by omega) (by omega) (by omega) ?_
                      refine z_l2i (pc := 136) dX11_filledAt_136 ?_
                      refine z_ireturn (pc := 137) dX11_filledAt_137 rfl (Or.inl rfl) ok (by omega) (by omega) ?_
                      refine ⟨?_, rfl⟩
                      unfold zfil
                      rw [hA, hB, if_neg (by omega)]
                      first | (rw [if_pos (by omega)]; show _ = H.2 19 (40 * r + k); omega) | (rw [if_neg (by omega), if_pos (by omega)]; show _ = H.2 19 (40 * r + x.toNat); omega) | (rw [if_neg (by omega), if_neg (by omega)]; rfl)
                    · skip
                      have hb2 : H.2 19 (40 * r + k) ≤ 1000000 := hb k (by omega)
                      have hp2 : 0 ≤ H.2 19 (40 * r + k) := by
                        rcases hsp2 with ⟨q1, -⟩ | ⟨a, q0, q00, q1, q2⟩
                        · omega
                        · rw [hB] at q1
                          rw [show k = a by omega]
                          exact q2
                      refine x_aload_n (pc := 108) dX11_filledAt_108 (List.Mem.tail _ (List.Mem.head _)) ?_
                      refine z_getR (pc := 109) (k := 35) (r := 19) dX11_filledAt_109 lf_X11_79 sh_0 rfl rf_0_35 ?_
                      refine z_bipush (pc := 112) dX11_filledAt_112 bp_40 ?_
                      refine x_iload_n (pc := 114) dX11_filledAt_114 (List.Mem.tail _ (List.Mem.tail _ (List.Mem.head _))) ?_
                      refine z_imul (pc := 115) dX11_filledAt_115 ?_
                      refine x_iload (pc := 116) dX11_filledAt_116 (List.Mem.tail _ (List.Mem.tail _ (List.Mem.tail _ (List.Mem.tail _ (List.Mem.tail _ (List.Mem.head _)))))) ?_
                      refine z_iadd (pc := 118) dX11_filledAt_118 ?_
                      have rd47 := ok.2 19 ((40 * r) + k)
                      refine z_lald (pc := 119) (j := ((40 * r) + k)) (v := H.2 19 ((40 * r) + k)) dX11_filledAt_119 sh_19 (by omega) (by omega) (by decide) rfl ?_
                      refine x_goto (pc := 120) (tgt := 125) dX11_filledAt_120 (by decide) ?_
                      refine x_lstore (pc := 125) dX11_filledAt_125 (Nat.le_of_ble_eq_true rfl) ?_
                      show Ev _ _ _ _ _ [(7, .long (zL ((H.2 19 ((40 * r) + k))))), (5, .long (zL ((H.2 19 (40 * r + x.toNat))))), (0, .ref 0), (1, .int (zN ((r : Int)))), (2, .int (zN ((i : Int)))), (3, .int (zN (x))), (4, .int (zN ((k : Int))))] _ _
                      refine x_lload (pc := 127) dX11_filledAt_127 (List.Mem.tail _ (List.Mem.head _)) ?_
                      refine x_lload (pc := 129) dX11_filledAt_129 (List.Mem.head _) ?_
                      refine z_ladd (pc := 131) dX11_filledAt_131 ?_
                      refine z_ldc2_w (pc := 132) 2 dX11_filledAt_132 cl_X11_363 (by decide) ?_
                      refine z_ldivP (pc := 135) dX11_filledAt_135 (by omega) (by omega) (by omega) (by omega) ?_
                      refine z_l2i (pc := 136) dX11_filledAt_136 ?_
                      refine z_ireturn (pc := 137) dX11_filledAt_137 rfl (Or.inl rfl) ok (by omega) (by omega) ?_
                      refine ⟨?_, rfl⟩
                      unfold zfil
                      rw [hA, hB, if_neg (by omega)]
                      first | (rw [if_pos (by omega)]; show _ = H.2 19 (40 * r + k); omega) | (rw [if_neg (by omega), if_pos (by omega)]; show _ = H.2 19 (40 * r + x.toNat); omega) | (rw [if_neg (by omega), if_neg (by omega)]; rfl)
                · skip
                  refine z_iinc (pc := 59) dX11_filledAt_59 (List.Mem.tail _ (List.Mem.tail _ (List.Mem.tail _ (List.Mem.tail _ (List.Mem.head _))))) (Nat.le_of_ble_eq_true rfl) ?_
                  show Ev _ _ _ _ _ [(4, .int (zN ((k : Int) + 1))), (0, .ref 0), (1, .int (zN ((r : Int)))), (2, .int (zN ((i : Int)))), (3, .int (zN (x)))] _ _
                  refine x_goto (pc := 62) (tgt := 31) dX11_filledAt_62 (by decide) ?_
                  refine x_weaken (L1 := [(0, .ref 0), (1, .int (zN ((r : Int)))), (2, .int (zN ((i : Int)))), (3, .int (zN (x))), (4, .int (zN ((((k + 1) : Nat) : Int))))]) (List.forall_mem_cons.mpr ⟨(List.Mem.tail _ (List.Mem.head _)), (List.forall_mem_cons.mpr ⟨(List.Mem.tail _ (List.Mem.tail _ (List.Mem.head _))), (List.forall_mem_cons.mpr ⟨(List.Mem.tail _ (List.Mem.tail _ (List.Mem.tail _ (List.Mem.head _)))), (List.forall_mem_cons.mpr ⟨(List.Mem.tail _ (List.Mem.tail _ (List.Mem.tail _ (List.Mem.tail _ (List.Mem.head _))))), (List.forall_mem_cons.mpr ⟨(mem_ci (by omega) (List.Mem.head _)), (fun _ h => absurd h List.not_mem_nil)⟩)⟩)⟩)⟩)⟩) ?_
                  exact ih31 ((k + 1)) (by omega) (by rw [hy, show (H.1 18 r).toNat - k = ((H.1 18 r).toNat - (k + 1)) + 1 by omega]; exact if_neg (show ¬ 0 ≤ H.2 19 (40 * r + k) by omega)) (by omega)
          refine x_weaken (L1 := [(0, .ref 0), (1, .int (zN ((r : Int)))), (2, .int (zN ((i : Int)))), (3, .int (zN (x))), (4, .int (zN (((i : Nat) : Int))))]) (List.forall_mem_cons.mpr ⟨(List.Mem.head _), (List.forall_mem_cons.mpr ⟨(List.Mem.tail _ (List.Mem.head _)), (List.forall_mem_cons.mpr ⟨(List.Mem.tail _ (List.Mem.tail _ (List.Mem.head _))), (List.forall_mem_cons.mpr ⟨(List.Mem.tail _ (List.Mem.tail _ (List.Mem.tail _ (List.Mem.head _)))), (List.forall_mem_cons.mpr ⟨(mem_ci (by omega) (List.Mem.tail _ (List.Mem.tail _ (List.Mem.tail _ (List.Mem.tail _ (List.Mem.head _)))))), (fun _ h => absurd h List.not_mem_nil)⟩)⟩)⟩)⟩)⟩) ?_
          exact lp31 ((H.1 18 r).toNat - i + 1) (i) (by omega) (rfl) (Nat.lt_succ_self _)
        · skip
          refine z_iinc (pc := 25) dX11_filledAt_25 (List.Mem.tail _ (List.Mem.tail _ (List.Mem.tail _ (List.Mem.head _)))) (Nat.le_of_ble_eq_true rfl) ?_
          show Ev _ _ _ _ _ [(3, .int (zN (x + (-1)))), (0, .ref 0), (1, .int (zN ((r : Int)))), (2, .int (zN ((i : Int)))), (4, .int (zN ((i : Int))))] _ _
          refine x_goto (pc := 28) (tgt := 5) dX11_filledAt_28 (by decide) ?_
          refine x_weaken (L1 := [(0, .ref 0), (1, .int (zN ((r : Int)))), (2, .int (zN ((i : Int)))), (3, .int (zN ((x + (-1))))), (4, .int (zN ((i : Int))))]) (List.forall_mem_cons.mpr ⟨(List.Mem.tail _ (List.Mem.head _)), (List.forall_mem_cons.mpr ⟨(List.Mem.tail _ (List.Mem.tail _ (List.Mem.head _))), (List.forall_mem_cons.mpr ⟨(List.Mem.tail _ (List.Mem.tail _ (List.Mem.tail _ (List.Mem.head _)))), (List.forall_mem_cons.mpr ⟨(mem_ci (by omega) (List.Mem.head _)), (List.forall_mem_cons.mpr ⟨(List.Mem.tail _ (List.Mem.tail _ (List.Mem.tail _ (List.Mem.tail _ (List.Mem.head _))))), (fun _ h => absurd h List.not_mem_nil)⟩)⟩)⟩)⟩)⟩) ?_
          exact ih5 ((x + (-1))) (by omega) (by rw [hz, show (x + 1).toNat = x.toNat + 1 by omega, show (x + (-1) + 1).toNat = x.toNat by omega]; exact if_neg (show ¬ 0 ≤ H.2 19 (40 * r + x.toNat) by omega)) (by omega)
  refine x_weaken (L1 := [(0, .ref 0), (1, .int (zN ((r : Int)))), (2, .int (zN ((i : Int)))), (3, .int (zN ((i : Int)))), (4, .int (zN ((i : Int))))]) (List.forall_mem_cons.mpr ⟨(List.Mem.tail _ (List.Mem.tail _ (List.Mem.head _))), (List.forall_mem_cons.mpr ⟨(List.Mem.tail _ (List.Mem.tail _ (List.Mem.tail _ (List.Mem.head _)))), (List.forall_mem_cons.mpr ⟨(List.Mem.tail _ (List.Mem.tail _ (List.Mem.tail _ (List.Mem.tail _ (List.Mem.head _))))), (List.forall_mem_cons.mpr ⟨(List.Mem.tail _ (List.Mem.head _)), (List.forall_mem_cons.mpr ⟨(List.Mem.head _), (fun _ h => absurd h List.not_mem_nil)⟩)⟩)⟩)⟩)⟩) ?_
  exact lp5 (((i : Int) + 1).toNat + 1) ((i : Int)) (by omega) (rfl) (Nat.lt_succ_self _)

theorem c_X11_isRow {d : Nat} {H : ZH} (ok : okZ H) {a : Int} (a1 : -2147483648 ≤ a) (a2 : a ≤ 2147483647) (rm : rmOK H) : EvC zX (d + 2) mX11_isRow [.ref 0, .int (zN (a))] (eh H) (zPi (fun (rz : Int) (Hz : ZH) => rz = (if (0 ≤ a ∧ a ≤ 3) ∧ H.1 17 a.toNat ≠ -1 ∧ zher (rvM H a.toNat) (H.1 18 a.toNat).toNat ≠ 0 ∧ zmuch (rvM H a.toNat) (H.1 18 a.toNat).toNat = false then 1 else 0) ∧ Hz = H)) := by
  show _ ∧ Ev zX mX11_isRow (EvC zX (d + 1)) (zPi (fun (rz : Int) (Hz : ZH) => rz = (if (0 ≤ a ∧ a ≤ 3) ∧ H.1 17 a.toNat ≠ -1 ∧ zher (rvM H a.toNat) (H.1 18 a.toNat).toNat ≠ 0 ∧ zmuch (rvM H a.toNat) (H.1 18 a.toNat).toNat = false then 1 else 0) ∧ Hz = H)) 0 [(0, .ref 0), (1, .int (zN (a)))] [] (eh H)
  refine ⟨Nat.le_of_ble_eq_true rfl, ?_⟩
  refine x_iload_n (pc := 0) dX11_isRow_0 (List.Mem.tail _ (List.Mem.head _)) ?_
  refine z_i2l (pc := 1) dX11_isRow_1 (by omega) (by omega) ?_
  refine z_lconst (pc := 2) 0 dX11_isRow_2 rfl ?_
  refine z_ldc2_w (pc := 3) 3 dX11_isRow_3 cl_X11_213 (by decide) ?_
  refine z_callSbp (pc := 6) (i := mX11_within) (S := []) [.long (zL (a)), .long (zL (0)), .long (zL (3))] dX11_isRow_6 ml_X11_152 ok_X11_within rfl (Or.inr rfl) (Nat.le_of_ble_eq_true rfl) (c_X11_within (d := d) (v := a) (lo := 0) (hi := 3) (v1 := (by omega)) (v2 := (by omega)) (lo1 := (by omega)) (lo2 := (by omega)) (hi1 := (by omega)) (hi2 := (by omega)) (ok := ok)) (fun hc3 ok2 => ?_) (fun hc3 ok2 => ?_)
  · skip
    have zb := zher_bd (rvM H a.toNat) (H.1 18 a.toNat).toNat
    obtain ⟨⟨rmA, rmB⟩, rmC, rmD⟩ := rm a.toNat (by omega)
    refine z_if_eq (pc := 9) (tgt := 42) dX11_isRow_9 (by decide) (by decide) (by decide) (fun h => absurd h (by decide)) (fun _ => ?_)
    refine x_aload_n (pc := 12) dX11_isRow_12 (List.Mem.head _) ?_
    refine z_getR (pc := 13) (k := 33) (r := 17) dX11_isRow_13 lf_X11_73 sh_0 rfl rf_0_33 ?_
    refine x_iload_n (pc := 16) dX11_isRow_16 (List.Mem.tail _ (List.Mem.head _)) ?_
    have rd5 := ok2.1 17 a.toNat
    refine z_iald (pc := 17) (j := a.toNat) (v := H.1 17 a.toNat) dX11_isRow_17 sh_17 (by omega) (by omega) (by decide) rfl ?_
    refine z_iconst (pc := 18) dX11_isRow_18 ?_
    refine z_icmp_eq (pc := 19) (tgt := 42) dX11_isRow_19 (by decide) (by omega) (by omega) (by decide) (by decide) (fun hb6 => ?_) (fun hb6 => ?_)
    · skip
      refine z_iconst (pc := 42) dX11_isRow_42 ?_
      refine z_ireturn (pc := 43) dX11_isRow_43 rfl (Or.inr ⟨rfl, by omega⟩) ok2 (by decide) (by decide) ?_
      refine ⟨?_, rfl⟩
      first | exact (if_pos ⟨by omega, by omega, by omega, by simpa using ‹¬ zmuch _ _ = true›⟩).symm | exact (if_neg (fun q => by first | omega | exact absurd q.2.2.2 (by simp [*]))).symm
    · skip
      refine x_aload_n (pc := 22) dX11_isRow_22 (List.Mem.head _) ?_
      refine x_iload_n (pc := 23) dX11_isRow_23 (List.Mem.tail _ (List.Mem.head _)) ?_
      refine z_callVip (pc := 24) (i := mX11_hereIn) (S := []) [.int (zN (a))] dX11_isRow_24 ml_X11_386 ok_X11_hereIn rfl sh_0 rfl (Or.inl rfl) (Nat.le_of_ble_eq_true rfl) (by have qz := c_X11_hereIn (d := d) (r := a.toNat) (hr := (by omega)) (ok := ok2) (rm := (by first | assumption | omega)); rw [show ((a.toNat : Nat) : Int) = a by omega] at qz; exact qz) (fun r7a r7b ok8 => ?_)
      refine z_if_le (pc := 27) (tgt := 42) dX11_isRow_27 (by decide) (by omega) (by omega) (fun hb9 => ?_) (fun hb9 => ?_)
      · skip
        refine z_iconst (pc := 42) dX11_isRow_42 ?_
        refine z_ireturn (pc := 43) dX11_isRow_43 rfl (Or.inr ⟨rfl, by omega⟩) ok8 (by decide) (by decide) ?_
        refine ⟨?_, rfl⟩
        first | exact (if_pos ⟨by omega, by omega, by omega, by simpa using ‹¬ zmuch _ _ = true›⟩).symm | exact (if_neg (fun q => by first | omega | exact absurd q.2.2.2 (by simp [*]))).symm
      · skip
        refine x_aload_n (pc := 30) dX11_isRow_30 (List.Mem.head _) ?_
        refine x_iload_n (pc := 31) dX11_isRow_31 (List.Mem.tail _ (List.Mem.head _)) ?_
        refine z_callVbp (pc := 32) (i := mX11_isTooMuch) (S := []) [.int (zN (a))] dX11_isRow_32 ml_X11_383 ok_X11_isTooMuch rfl sh_0 rfl (Or.inr rfl) (Nat.le_of_ble_eq_true rfl) (by have qz := c_X11_isTooMuch (d := d) (r := a.toNat) (hr := (by omega)) (ok := ok8) (rm := (by first | assumption | omega)); rw [show ((a.toNat : Nat) : Int) = a by omega] at qz; exact qz) (fun hc12 ok11 => ?_) (fun hc12 ok11 => ?_)
        · skip
          refine z_if_ne (pc := 35) (tgt := 42) dX11_isRow_35 (by decide) (by decide) (by decide) (fun _ => ?_) (fun h => absurd h (by decide))
          refine z_iconst (pc := 42) dX11_isRow_42 ?_
          refine z_ireturn (pc := 43) dX11_isRow_43 rfl (Or.inr ⟨rfl, by omega⟩) ok11 (by decide) (by decide) ?_
          refine ⟨?_, rfl⟩
          first | exact (if_pos ⟨by omega, by omega, by omega, by simpa using ‹¬ zmuch _ _ = true›⟩).symm | exact (if_neg (fun q => by first | omega | exact absurd q.2.2.2 (by simp [*]))).symm
        · skip
          refine z_if_ne (pc := 35) (tgt := 42) dX11_isRow_35 (by decide) (by decide) (by decide) (fun h => absurd h (by decide)) (fun _ => ?_)
          refine z_iconst (pc := 38) dX11_isRow_38 ?_
          refine x_goto (pc := 39) (tgt := 43) dX11_isRow_39 (by decide) ?_
          refine z_ireturn (pc := 43) dX11_isRow_43 rfl (Or.inr ⟨rfl, by omega⟩) ok11 (by decide) (by decide) ?_
          refine ⟨?_, rfl⟩
          first | exact (if_pos ⟨by omega, by omega, by omega, by simpa using ‹¬ zmuch _ _ = true›⟩).symm | exact (if_neg (fun q => by first | omega | exact absurd q.2.2.2 (by simp [*]))).symm
  · skip
    refine z_if_eq (pc := 9) (tgt := 42) dX11_isRow_9 (by decide) (by decide) (by decide) (fun _ => ?_) (fun h => absurd h (by decide))
    refine z_iconst (pc := 42) dX11_isRow_42 ?_
    refine z_ireturn (pc := 43) dX11_isRow_43 rfl (Or.inr ⟨rfl, by omega⟩) ok2 (by decide) (by decide) ?_
    refine ⟨?_, rfl⟩
    first | exact (if_pos ⟨by omega, by omega, by omega, by simpa using ‹¬ zmuch _ _ = true›⟩).symm | exact (if_neg (fun q => by first | omega | exact absurd q.2.2.2 (by simp [*]))).symm
