/-! GROUP G37: what lies behind THE LAW changes nothing. -/
def AgB (A B : Nat → Int) : Prop := ∀ j, j < 477 → j ≠ 34 → j ≠ 37 → B j = A j
theorem tsm_c4 {A B N : Nat → Int} (h : AgB A B) {fr to but dc bl : Int} : ∀ n, n ≤ 8 → tsm B N fr to but dc bl n = tsm A N fr to but dc bl n
  | 0, _ => rfl
  | n + 1, hn => by
    show (tsm B N fr to but dc bl n || decide (((fr ≤ B (2 + n) ∧ B (2 + n) ≤ to) ∧ B (2 + n) ≠ but) ∧ _)) = (tsm A N fr to but dc bl n || decide (((fr ≤ A (2 + n) ∧ A (2 + n) ≤ to) ∧ A (2 + n) ≠ but) ∧ _))
    rw [tsm_c4 h n (by omega), h (2 + n) (by omega) (by omega) (by omega)]
theorem thd_c4 {A B N : Nat → Int} (h : AgB A B) {c : Nat} (hc : c < 8) : ∀ n, n ≤ 8 → thd B N c n = thd A N c n
  | 0, _ => rfl
  | n + 1, hn => by
    show (thd B N c n || decide (B (2 + n) = B (2 + c) - 1 ∧ 0 < B (26 + n) ∧ _)) = (thd A N c n || decide (A (2 + n) = A (2 + c) - 1 ∧ 0 < A (26 + n) ∧ _))
    rw [thd_c4 h hc n (by omega), h (2 + n) (by omega) (by omega) (by omega), h (2 + c) (by omega) (by omega) (by omega), h (26 + n) (by omega) (by omega) (by omega)]
theorem tfr_c4 {A B N : Nat → Int} (h : AgB A B) (h8 : A 1 ≤ 8) {ln : Int} : ∀ n, n ≤ 8 → tfr B N ln n = tfr A N ln n
  | 0, _ => rfl
  | n + 1, hn => by
    show (tfr B N ln n && decide (¬ (B (2 + n) = ln ∧ _ ∧ _ ∧ _ ∧ thd B N n (B 1).toNat = false ∧ N n ≤ B 36 * N (8 + n)))) = (tfr A N ln n && decide (¬ (A (2 + n) = ln ∧ _ ∧ _ ∧ _ ∧ thd A N n (A 1).toNat = false ∧ N n ≤ A 36 * N (8 + n))))
    rw [tfr_c4 h h8 n (by omega), h (2 + n) (by omega) (by omega) (by omega), h 1 (by omega) (by omega) (by omega), h 36 (by omega) (by omega) (by omega), thd_c4 h (by omega) _ (by omega)]
theorem fct_c4 {A B N : Nat → Int} (h : AgB A B) (h8 : A 1 ≤ 8) {k v : Int} {c : Nat} (hc : c < 8) (hb : 5 ≤ k ∧ k ≤ 12 → B 34 / 2 ^ (k - 5).toNat % 2 = A 34 / 2 ^ (k - 5).toNat % 2) : fct B N k v c = fct A N k v c := by
  unfold fct
  rw [h (2 + c) (by omega) (by omega) (by omega), h (26 + c) (by omega) (by omega) (by omega), h 1 (by omega) (by omega) (by omega), tsm_c4 h _ (by omega), tsm_c4 h _ (by omega), tsm_c4 h _ (by omega)]
  by_cases q : 5 ≤ k ∧ k ≤ 12
  · rw [if_pos q, if_pos q, hb q]
  · rw [if_neg q, if_neg q]
theorem rrun_c4 {A B N : Nat → Int} (h : AgB A B) (h8 : A 1 ≤ 8) {c fr : Nat} (hc : c < 8) : ∀ n, fr + n ≤ 199 → (∀ m, m < n → 5 ≤ A (77 + 2 * (fr + m)) ∧ A (77 + 2 * (fr + m)) ≤ 12 → B 34 / 2 ^ (A (77 + 2 * (fr + m)) - 5).toNat % 2 = A 34 / 2 ^ (A (77 + 2 * (fr + m)) - 5).toNat % 2) → rrun B N c fr n = rrun A N c fr n
  | 0, _, _ => rfl
  | n + 1, hf, hb => by
    show rstep B N c (fr + n) (rrun B N c fr n) = rstep A N c (fr + n) (rrun A N c fr n)
    rw [rrun_c4 h h8 hc n (by omega) (fun m hm => hb m (by omega))]
    unfold rstep
    rw [h (77 + 2 * (fr + n)) (by omega) (by omega) (by omega), h (78 + 2 * (fr + n)) (by omega) (by omega) (by omega), fct_c4 h h8 hc (hb n (by omega))]
theorem tso_c4 {A B N : Nat → Int} (h : AgB A B) (h8 : A 1 ≤ 8) (wl : WFL A) (hl : AgL A B) {l c : Nat} (hl2 : (l : Int) < A 40) (hc : c < 8) : tso B N l c = tso A N l c := by
  have w := (wl.2 l hl2).2.1
  have w1 := wl.1
  unfold tso
  rw [h (53 + l) (by omega) (by omega) (by omega), h (65 + l) (by omega) (by omega) (by omega), rrun_c4 h h8 hc _ (by omega) (fun m hm => hl l _ hl2 (by omega) (by omega))]
theorem tsp_c4 {A B N : Nat → Int} (h : AgB A B) (h8 : A 1 ≤ 8) (wl : WFL A) (hl : AgL A B) {wo : Int} {c : Nat} (hc : c < 8) : ∀ m k : Nat, ((k + m : Nat) : Int) ≤ A 40 → tsp B N wo c m k = tsp A N wo c m k
  | 0, _, _ => rfl
  | m + 1, k, hk => by
    have w1 := wl.1
    show (if (k : Int) ≠ wo ∧ tso B N k c = true then B (41 + k) else tsp B N wo c m (k + 1)) = (if (k : Int) ≠ wo ∧ tso A N k c = true then A (41 + k) else tsp A N wo c m (k + 1))
    rw [tso_c4 h h8 wl hl (by omega) hc, h (41 + k) (by omega) (by omega) (by omega), tsp_c4 h h8 wl hl hc m (k + 1) (by omega)]
theorem shr_c4 {A B N : Nat → Int} (h : AgB A B) (h8 : A 1 ≤ 8) (wl : WFL A) (hl : AgL A B) {wo : Int} {c : Nat} (hc : c < 8) : shr B N wo c = shr A N wo c := by
  have w := wl.1
  unfold shr
  rw [h 35 (by omega) (by omega) (by omega), h 40 (by omega) (by omega) (by omega), tsp_c4 h h8 wl hl hc _ _ (by omega)]
theorem ask_c4 {A B N : Nat → Int} (h : AgB A B) {c : Nat} : ask B N c = ask A N c := by
  unfold ask
  rw [h 38 (by omega) (by omega) (by omega)]
theorem drw1_c4 {A B N : Nat → Int} (h : AgB A B) (h8 : A 1 ≤ 8) (wl : WFL A) (hl : AgL A B) {wo : Int} (hc : N 41 < 8) : drw1 B wo N = drw1 A wo N ∧ rnd B wo N = rnd A wo N := by
  have s := shr_c4 (N := N) (wo := wo) h h8 wl hl (c := (N 41).toNat) (by omega)
  refine ⟨?_, ?_⟩
  · funext j
    unfold drw1 drd
    rw [ask_c4 h, s]
  · unfold rnd
    rw [ask_c4 h, s]
theorem wlr_c4 {A B N : Nat → Int} (h : AgB A B) {n : Nat} (hn : n ≤ 8) : ∀ f c, c < 8 → wlr B N n f c = wlr A N n f c
  | 0, _, _ => rfl
  | f + 1, c, hc => by
    show mxf _ n = mxf _ n
    refine mxf_congr (fun d hd => ?_)
    show (if B (2 + d) = B (2 + c) ∧ _ then ctr N d (wlr B N n f d) else 0) = (if A (2 + d) = A (2 + c) ∧ _ then ctr N d (wlr A N n f d) else 0)
    rw [h (2 + d) (by omega) (by omega) (by omega), h (2 + c) (by omega) (by omega) (by omega), wlr_c4 h hn f d (by omega)]
theorem wl_c4 {A B N : Nat → Int} (h : AgB A B) (h8 : A 1 ≤ 8) {c : Nat} (hc : c < 8) : wl B N c = wl A N c := by
  unfold wl
  rw [h 1 (by omega) (by omega) (by omega)]
  exact wlr_c4 h (by omega) _ _ hc
theorem mvN_c4 {A B N : Nat → Int} (h : AgB A B) (h8 : A 1 ≤ 8) : mvN B N = mvN A N ∧ knF B N = knF A N := by
  refine ⟨funext (fun j => ?_), ?_⟩
  · unfold mvN
    rw [h 1 (by omega) (by omega) (by omega)]
    by_cases q1 : j < (A 1).toNat
    · rw [if_pos q1, if_pos q1, wl_c4 h h8 (by omega)]
    · rw [if_neg q1, if_neg q1]
      by_cases q2 : 8 ≤ j ∧ j < 8 + (A 1).toNat
      · rw [if_pos q2, if_pos q2]
      · rw [if_neg q2, if_neg q2]
        by_cases q3 : 24 ≤ j ∧ j < 32
        · rw [if_pos q3, if_pos q3, wl_c4 h h8 (by omega)]
        · rw [if_neg q3, if_neg q3]
  · unfold knF
    rw [h 1 (by omega) (by omega) (by omega)]
    refine lea_congr (fun d hd => ?_)
    show (_ && hitB B N d) = (_ && hitB A N d)
    unfold hitB
    rw [wl_c4 h h8 (by omega), h (2 + d) (by omega) (by omega) (by omega)]
theorem tickF_c4 {A B N : Nat → Int} (h : AgB A B) (h8 : A 1 ≤ 8) (hn : ned B = ned A) (he : entB B N = entB A N) : tickF B N = tickF A N := by
  have e1 : tk1 B N = tk1 A N := by
    funext j
    unfold tk1
    rw [he]
  unfold tickF
  rw [e1]
  obtain ⟨m1, m2⟩ := mvN_c4 (N := tk1 A N) h h8
  have e2 : tk2 B (tk1 A N) = tk2 A (tk1 A N) := by
    funext j
    unfold tk2
    rw [m1, m2, hn, h 0 (by omega) (by omega) (by omega)]
  rw [e2]
theorem entB_c4 {A B N : Nat → Int} (h : AgB A B) (h8 : A 1 ≤ 8) (e : (N 32 = 0 ∧ B 37 ≤ N 35) ↔ (N 32 = 0 ∧ A 37 ≤ N 35)) : entB B N = entB A N := by
  unfold entB
  rw [h 1 (by omega) (by omega) (by omega), tfr_c4 h h8 _ (by omega)]
  have z : decide (N 32 = 0 ∧ B 37 ≤ N 35) = decide (N 32 = 0 ∧ A 37 ≤ N 35) := by
    by_cases q : N 32 = 0 ∧ A 37 ≤ N 35
    · rw [decide_eq_true q, decide_eq_true (e.mpr q)]
    · rw [decide_eq_false q, decide_eq_false (fun y => q (e.mp y))]
  rw [z]
theorem bgn_c4 {A B : Nat → Int} (h : AgB A B) (ws1 : 0 ≤ A 1 ∧ A 1 ≤ 8) (h6 : B 34 / 2 ^ 6 % 2 = A 34 / 2 ^ 6 % 2) {o : Nat → Int} {wc sd : Int} : bgn B o wc sd = bgn A o wc sd := by
  funext j
  unfold bgn bg2
  rw [h 1 (by omega) (by omega) (by omega), h6]
  by_cases q : j < (A 1).toNat
  · rw [if_pos q, if_pos q, h (10 + j) (by omega) (by omega) (by omega)]
  · rw [if_neg q, if_neg q]
    by_cases q2 : 8 ≤ j ∧ j < 8 + (A 1).toNat
    · rw [if_pos q2, if_pos q2, h (18 + (j - 8)) (by omega) (by omega) (by omega)]
    · rw [if_neg q2, if_neg q2]
/-- the same sums, where the waits are the same -/
theorem tsf_c4 {A B : Nat → Int} {wo : Int} {g : (Nat → Int) → Int → Int} (h : AgB A B) (ws : WFS A) (wl : WFL A) (hl : AgL A B) (hn : ned B = ned A) (h37 : B 37 = A 37) (f : Nat) : ∀ N w, WFT A N → tsf B wo g f N w = tsf A wo g f N w := by
  have ws1 := ws.2.1
  induction f with
  | zero => exact fun _ _ _ => rfl
  | succ f ih =>
    intro N w hw
    have e1 := h 1 (by omega) (by omega) (by omega)
    show (if N 37 ≠ 0 then g N w else if N 41 < B 1 then (if rnd B wo N = true then tsf B wo g f (frc N true) (w / 100 * shr B N wo (N 41).toNat) + tsf B wo g f (frc N false) (w / 100 * (100 - shr B N wo (N 41).toNat)) else tsf B wo g f (drw1 B wo N) w) else tsf B wo g f (tickF B N) w) = (if N 37 ≠ 0 then g N w else if N 41 < A 1 then (if rnd A wo N = true then tsf A wo g f (frc N true) (w / 100 * shr A N wo (N 41).toNat) + tsf A wo g f (frc N false) (w / 100 * (100 - shr A N wo (N 41).toNat)) else tsf A wo g f (drw1 A wo N) w) else tsf A wo g f (tickF A N) w)
    rw [e1]
    by_cases q : N 37 = 0
    · rw [if_neg (show ¬ N 37 ≠ 0 from fun z => z q), if_neg (show ¬ N 37 ≠ 0 from fun z => z q)]
      by_cases hk : N 41 < A 1
      · rw [if_pos hk, if_pos hk]
        obtain ⟨d1, d2⟩ := drw1_c4 (N := N) (wo := wo) h ws1.2 wl hl (by omega)
        rw [d1, d2, shr_c4 (N := N) (wo := wo) h ws1.2 wl hl (by have := hw.2.2.1; omega)]
        by_cases hr : rnd A wo N = true
        · rw [if_pos hr, if_pos hr]
          have r0 := (rnd_t hr).1
          rw [ih _ _ (frc_s ws1.2 hw hk r0 true).1, ih _ _ (frc_s ws1.2 hw hk r0 false).1]
        · rw [if_neg hr, if_neg hr]
          exact ih _ _ (drw1_s ws1.2 hw hk).1
      · rw [if_neg hk, if_neg hk, tickF_c4 h ws1.2 hn (entB_c4 h ws1.2 (by rw [h37]))]
        rcases tick_s ws1 ws.1 hw q with ⟨t, _⟩ | ⟨t, _⟩
        · exact ih _ _ t
        · exact ih _ _ t
    · rw [if_pos q, if_pos q]
theorem TS_c4 {A B : Nat → Int} {wo wc : Int} {g : (Nat → Int) → Int → Int} (h : AgB A B) (ws : WFS A) (wl : WFL A) (hl : AgL A B) (hn : ned B = ned A) (h37 : B 37 = A 37) (h6 : B 34 / 2 ^ 6 % 2 = A 34 / 2 ^ 6 % 2) : TS B wo wc g = TS A wo wc g := by
  unfold TS
  rw [bgn_c4 h ws.2.1 h6, h 1 (by omega) (by omega) (by omega), tsf_c4 h ws wl hl hn h37 5000 _ _ (WFT_rn (bgn_rn ws) ws.2.1.1)]
theorem TS_ag {A B : Nat → Int} {wo wc : Int} {g : (Nat → Int) → Int → Int} (h : ∀ j, j < 477 → B j = A j) (ws : WFS A) (wl : WFL A) : TS B wo wc g = TS A wo wc g :=
  TS_c4 (fun j h1 _ _ => h j h1) ws wl (fun _ _ _ _ _ _ => by rw [h 34 (by omega)]) (by unfold ned; rw [h 34 (by omega)]) (h 37 (by omega)) (by rw [h 34 (by omega)])
theorem zo_ag {A B : Nat → Int} (h : ∀ j, 477 ≤ j → j < 558 → ¬ (538 ≤ j ∧ j < 550) → B j = A j) {N : Nat} (hN : N ≤ 12) : (∀ p b, p < 12 → mleft B p b 4 = mleft A p b 4) ∧ (∀ b, mcost B b 4 = mcost A b 4) ∧ ∀ k c, k ≤ N → zo B N k c = zo A N k c ∧ chD B N k c = chD A N k c := by
  have hc : ∀ b m, m ≤ 4 → mcost B b m = mcost A b m := by
    intro b m
    induction m with
    | zero => intro _; rfl
    | succ m ih =>
      intro hm
      show mcost B b m + (if (b : Int) / 2 ^ m % 2 = 0 then 0 else B (550 + m)) = mcost A b m + (if (b : Int) / 2 ^ m % 2 = 0 then 0 else A (550 + m))
      rw [ih (by omega), h (550 + m) (by omega) (by omega) (by omega)]
  have hl : ∀ p b, p < 12 → ∀ m, m ≤ 4 → mleft B p b m = mleft A p b m := by
    intro p b hp m
    induction m with
    | zero =>
      intro _
      show (B (514 + p) + B (526 + p)) * 10000 = (A (514 + p) + A (526 + p)) * 10000
      rw [h (514 + p) (by omega) (by omega) (by omega), h (526 + p) (by omega) (by omega) (by omega)]
    | succ m ih =>
      intro hm
      show (if (b : Int) / 2 ^ m % 2 = 0 then mleft B p b m else mleft B p b m * B (554 + m) / 100) = (if (b : Int) / 2 ^ m % 2 = 0 then mleft A p b m else mleft A p b m * A (554 + m) / 100)
      rw [ih (by omega), h (554 + m) (by omega) (by omega) (by omega)]
  refine ⟨fun p b hp => hl p b hp 4 (by omega), fun b => hc b 4 (by omega), fun k => ?_⟩
  induction k with
  | zero => intro c _; exact ⟨rfl, rfl⟩
  | succ k ih =>
    intro c hk
    have hz : zo B N k = zo A N k := funext (fun x => (ih x (by omega)).1)
    have hv : vv B (N - 1 - k) (zo B N k) c = vv A (N - 1 - k) (zo A N k) c := by
      funext b
      unfold vv zz
      rw [hl _ b (by omega) 4 (by omega), hc b 4 (by omega), hz]
    have ho : cOk B c = cOk A c := by
      funext b
      unfold cOk
      rw [hc b 4 (by omega)]
    have hs : sB B N k c = sB A N k c := by
      unfold sB
      rw [hv, ho]
    refine ⟨?_, ?_⟩
    · rw [zo_s, zo_s, hs, hv]
    · show sB B N k c * 16 ^ k + chD B N k (c - (mcost B (sB B N k c) 4).toNat) = sB A N k c * 16 ^ k + chD A N k (c - (mcost A (sB A N k c) 4).toNat)
      rw [hs, hc _ 4 (by omega), (ih _ (by omega)).2]
