/-! GROUP G30: what traits and waits change, and what not. -/
def AgA (A B : Nat → Int) : Prop := ∀ j, j ≠ 34 → j ≠ 37 → B j = A j
theorem tsm_cg {A B N : Nat → Int} (h : AgA A B) {fr to but dc bl : Int} : ∀ n, n ≤ 8 → tsm B N fr to but dc bl n = tsm A N fr to but dc bl n
  | 0, _ => rfl
  | n + 1, hn => by
    show (tsm B N fr to but dc bl n || decide (((fr ≤ B (2 + n) ∧ B (2 + n) ≤ to) ∧ B (2 + n) ≠ but) ∧ _)) = (tsm A N fr to but dc bl n || decide (((fr ≤ A (2 + n) ∧ A (2 + n) ≤ to) ∧ A (2 + n) ≠ but) ∧ _))
    rw [tsm_cg h n (by omega), h (2 + n) (by omega) (by omega)]
theorem thd_cg {A B N : Nat → Int} (h : AgA A B) {c : Nat} (hc : c < 8) : ∀ n, n ≤ 8 → thd B N c n = thd A N c n
  | 0, _ => rfl
  | n + 1, hn => by
    show (thd B N c n || decide (B (2 + n) = B (2 + c) - 1 ∧ 0 < B (26 + n) ∧ _)) = (thd A N c n || decide (A (2 + n) = A (2 + c) - 1 ∧ 0 < A (26 + n) ∧ _))
    rw [thd_cg h hc n (by omega), h (2 + n) (by omega) (by omega), h (2 + c) (by omega) (by omega), h (26 + n) (by omega) (by omega)]
theorem tfr_cg {A B N : Nat → Int} (h : AgA A B) (h8 : A 1 ≤ 8) {ln : Int} : ∀ n, n ≤ 8 → tfr B N ln n = tfr A N ln n
  | 0, _ => rfl
  | n + 1, hn => by
    show (tfr B N ln n && decide (¬ (B (2 + n) = ln ∧ _ ∧ _ ∧ _ ∧ thd B N n (B 1).toNat = false ∧ N n ≤ B 36 * N (8 + n)))) = (tfr A N ln n && decide (¬ (A (2 + n) = ln ∧ _ ∧ _ ∧ _ ∧ thd A N n (A 1).toNat = false ∧ N n ≤ A 36 * N (8 + n))))
    rw [tfr_cg h h8 n (by omega), h (2 + n) (by omega) (by omega), h 1 (by omega) (by omega), h 36 (by omega) (by omega), thd_cg h (by omega) _ (by omega)]
theorem fct_cg {A B N : Nat → Int} (h : AgA A B) (h8 : A 1 ≤ 8) {k v : Int} {c : Nat} (hc : c < 8) (hb : 5 ≤ k ∧ k ≤ 12 → B 34 / 2 ^ (k - 5).toNat % 2 = A 34 / 2 ^ (k - 5).toNat % 2) : fct B N k v c = fct A N k v c := by
  unfold fct
  rw [h (2 + c) (by omega) (by omega), h (26 + c) (by omega) (by omega), h 1 (by omega) (by omega), tsm_cg h _ (by omega), tsm_cg h _ (by omega), tsm_cg h _ (by omega)]
  by_cases q : 5 ≤ k ∧ k ≤ 12
  · rw [if_pos q, if_pos q, hb q]
  · rw [if_neg q, if_neg q]
/-- the traits that the law asks for are the same -/
def AgL (A B : Nat → Int) : Prop := ∀ l i : Nat, (l : Int) < A 40 → A (53 + l) ≤ (i : Int) → (i : Int) < A (65 + l) → 5 ≤ A (77 + 2 * i) ∧ A (77 + 2 * i) ≤ 12 → B 34 / 2 ^ (A (77 + 2 * i) - 5).toNat % 2 = A 34 / 2 ^ (A (77 + 2 * i) - 5).toNat % 2
theorem rrun_cg {A B N : Nat → Int} (h : AgA A B) (h8 : A 1 ≤ 8) {c fr : Nat} (hc : c < 8) : ∀ n, (∀ m, m < n → 5 ≤ A (77 + 2 * (fr + m)) ∧ A (77 + 2 * (fr + m)) ≤ 12 → B 34 / 2 ^ (A (77 + 2 * (fr + m)) - 5).toNat % 2 = A 34 / 2 ^ (A (77 + 2 * (fr + m)) - 5).toNat % 2) → rrun B N c fr n = rrun A N c fr n
  | 0, _ => rfl
  | n + 1, hb => by
    show rstep B N c (fr + n) (rrun B N c fr n) = rstep A N c (fr + n) (rrun A N c fr n)
    rw [rrun_cg h h8 hc n (fun m hm => hb m (by omega))]
    unfold rstep
    rw [h (77 + 2 * (fr + n)) (by omega) (by omega), h (78 + 2 * (fr + n)) (by omega) (by omega), fct_cg h h8 hc (hb n (by omega))]
theorem tso_cg {A B N : Nat → Int} (h : AgA A B) (h8 : A 1 ≤ 8) (wl : WFL A) (hl : AgL A B) {l c : Nat} (hl2 : (l : Int) < A 40) (hc : c < 8) : tso B N l c = tso A N l c := by
  have w := (wl.2 l hl2).2.1
  unfold tso
  rw [h (53 + l) (by omega) (by omega), h (65 + l) (by omega) (by omega), rrun_cg h h8 hc _ (fun m hm => hl l _ hl2 (by omega) (by omega))]
theorem tsp_cg {A B N : Nat → Int} (h : AgA A B) (h8 : A 1 ≤ 8) (wl : WFL A) (hl : AgL A B) {wo : Int} {c : Nat} (hc : c < 8) : ∀ m k : Nat, ((k + m : Nat) : Int) ≤ A 40 → tsp B N wo c m k = tsp A N wo c m k
  | 0, _, _ => rfl
  | m + 1, k, hk => by
    show (if (k : Int) ≠ wo ∧ tso B N k c = true then B (41 + k) else tsp B N wo c m (k + 1)) = (if (k : Int) ≠ wo ∧ tso A N k c = true then A (41 + k) else tsp A N wo c m (k + 1))
    rw [tso_cg h h8 wl hl (by omega) hc, h (41 + k) (by omega) (by omega), tsp_cg h h8 wl hl hc m (k + 1) (by omega)]
theorem shr_cg {A B N : Nat → Int} (h : AgA A B) (h8 : A 1 ≤ 8) (wl : WFL A) (hl : AgL A B) {wo : Int} {c : Nat} (hc : c < 8) : shr B N wo c = shr A N wo c := by
  have w := wl.1
  unfold shr
  rw [h 35 (by omega) (by omega), h 40 (by omega) (by omega), tsp_cg h h8 wl hl hc _ _ (by omega)]
theorem ask_cg {A B N : Nat → Int} (h : AgA A B) {c : Nat} : ask B N c = ask A N c := by
  unfold ask
  rw [h 38 (by omega) (by omega)]
theorem drw1_cg {A B N : Nat → Int} (h : AgA A B) (h8 : A 1 ≤ 8) (wl : WFL A) (hl : AgL A B) {wo : Int} (hc : N 41 < 8) : drw1 B wo N = drw1 A wo N ∧ rnd B wo N = rnd A wo N := by
  have s := shr_cg (N := N) (wo := wo) h h8 wl hl (c := (N 41).toNat) (by omega)
  refine ⟨?_, ?_⟩
  · funext j
    unfold drw1 drd
    rw [ask_cg h, s]
  · unfold rnd
    rw [ask_cg h, s]
theorem wlr_cg {A B N : Nat → Int} (h : AgA A B) {n : Nat} (hn : n ≤ 8) : ∀ f c, c < 8 → wlr B N n f c = wlr A N n f c
  | 0, _, _ => rfl
  | f + 1, c, hc => by
    show mxf _ n = mxf _ n
    refine mxf_congr (fun d hd => ?_)
    show (if B (2 + d) = B (2 + c) ∧ _ then ctr N d (wlr B N n f d) else 0) = (if A (2 + d) = A (2 + c) ∧ _ then ctr N d (wlr A N n f d) else 0)
    rw [h (2 + d) (by omega) (by omega), h (2 + c) (by omega) (by omega), wlr_cg h hn f d (by omega)]
theorem wl_cg {A B N : Nat → Int} (h : AgA A B) (h8 : A 1 ≤ 8) {c : Nat} (hc : c < 8) : wl B N c = wl A N c := by
  unfold wl
  rw [h 1 (by omega) (by omega)]
  exact wlr_cg h (by omega) _ _ hc
theorem mvN_cg {A B N : Nat → Int} (h : AgA A B) (h8 : A 1 ≤ 8) : mvN B N = mvN A N ∧ knF B N = knF A N := by
  refine ⟨funext (fun j => ?_), ?_⟩
  · unfold mvN
    rw [h 1 (by omega) (by omega)]
    by_cases q1 : j < (A 1).toNat
    · rw [if_pos q1, if_pos q1, wl_cg h h8 (by omega)]
    · rw [if_neg q1, if_neg q1]
      by_cases q2 : 8 ≤ j ∧ j < 8 + (A 1).toNat
      · rw [if_pos q2, if_pos q2]
      · rw [if_neg q2, if_neg q2]
        by_cases q3 : 24 ≤ j ∧ j < 32
        · rw [if_pos q3, if_pos q3, wl_cg h h8 (by omega)]
        · rw [if_neg q3, if_neg q3]
  · unfold knF
    rw [h 1 (by omega) (by omega)]
    refine lea_congr (fun d hd => ?_)
    show (_ && hitB B N d) = (_ && hitB A N d)
    unfold hitB
    rw [wl_cg h h8 (by omega), h (2 + d) (by omega) (by omega)]
theorem tickF_cg {A B N : Nat → Int} (h : AgA A B) (h8 : A 1 ≤ 8) (hn : ned B = ned A) (he : entB B N = entB A N) : tickF B N = tickF A N := by
  have e1 : tk1 B N = tk1 A N := by
    funext j
    unfold tk1
    rw [he]
  unfold tickF
  rw [e1]
  obtain ⟨m1, m2⟩ := mvN_cg (N := tk1 A N) h h8
  have e2 : tk2 B (tk1 A N) = tk2 A (tk1 A N) := by
    funext j
    unfold tk2
    rw [m1, m2, hn, h 0 (by omega) (by omega)]
  rw [e2]
theorem entB_cg {A B N : Nat → Int} (h : AgA A B) (h8 : A 1 ≤ 8) (e : (N 32 = 0 ∧ B 37 ≤ N 35) ↔ (N 32 = 0 ∧ A 37 ≤ N 35)) : entB B N = entB A N := by
  unfold entB
  rw [h 1 (by omega) (by omega), tfr_cg h h8 _ (by omega)]
  have z : decide (N 32 = 0 ∧ B 37 ≤ N 35) = decide (N 32 = 0 ∧ A 37 ≤ N 35) := by
    by_cases q : N 32 = 0 ∧ A 37 ≤ N 35
    · rw [decide_eq_true q, decide_eq_true (e.mpr q)]
    · rw [decide_eq_false q, decide_eq_false (fun y => q (e.mp y))]
  rw [z]
theorem bgn_cg {A B : Nat → Int} (h : AgA A B) (ws1 : 0 ≤ A 1 ∧ A 1 ≤ 8) (h6 : B 34 / 2 ^ 6 % 2 = A 34 / 2 ^ 6 % 2) {o : Nat → Int} {wc sd : Int} : bgn B o wc sd = bgn A o wc sd := by
  funext j
  unfold bgn bg2
  rw [h 1 (by omega) (by omega), h6]
  by_cases q : j < (A 1).toNat
  · rw [if_pos q, if_pos q, h (10 + j) (by omega) (by omega)]
  · rw [if_neg q, if_neg q]
    by_cases q2 : 8 ≤ j ∧ j < 8 + (A 1).toNat
    · rw [if_pos q2, if_pos q2, h (18 + (j - 8)) (by omega) (by omega)]
    · rw [if_neg q2, if_neg q2]
/-- the same sums, where the waits are the same -/
theorem tsf_cg {A B : Nat → Int} {wo : Int} {g : (Nat → Int) → Int → Int} (h : AgA A B) (ws : WFS A) (wl : WFL A) (hl : AgL A B) (hn : ned B = ned A) (h37 : B 37 = A 37) (f : Nat) : ∀ N w, WFT A N → tsf B wo g f N w = tsf A wo g f N w := by
  have ws1 := ws.2.1
  induction f with
  | zero => exact fun _ _ _ => rfl
  | succ f ih =>
    intro N w hw
    have e1 := h 1 (by omega) (by omega)
    show (if N 37 ≠ 0 then g N w else if N 41 < B 1 then (if rnd B wo N = true then tsf B wo g f (frc N true) (w / 100 * shr B N wo (N 41).toNat) + tsf B wo g f (frc N false) (w / 100 * (100 - shr B N wo (N 41).toNat)) else tsf B wo g f (drw1 B wo N) w) else tsf B wo g f (tickF B N) w) = (if N 37 ≠ 0 then g N w else if N 41 < A 1 then (if rnd A wo N = true then tsf A wo g f (frc N true) (w / 100 * shr A N wo (N 41).toNat) + tsf A wo g f (frc N false) (w / 100 * (100 - shr A N wo (N 41).toNat)) else tsf A wo g f (drw1 A wo N) w) else tsf A wo g f (tickF A N) w)
    rw [e1]
    by_cases q : N 37 = 0
    · rw [if_neg (show ¬ N 37 ≠ 0 from fun z => z q), if_neg (show ¬ N 37 ≠ 0 from fun z => z q)]
      by_cases hk : N 41 < A 1
      · rw [if_pos hk, if_pos hk]
        obtain ⟨d1, d2⟩ := drw1_cg (N := N) (wo := wo) h ws1.2 wl hl (by omega)
        rw [d1, d2, shr_cg (N := N) (wo := wo) h ws1.2 wl hl (by have := hw.2.2.1; omega)]
        by_cases hr : rnd A wo N = true
        · rw [if_pos hr, if_pos hr]
          have r0 := (rnd_t hr).1
          rw [ih _ _ (frc_s ws1.2 hw hk r0 true).1, ih _ _ (frc_s ws1.2 hw hk r0 false).1]
        · rw [if_neg hr, if_neg hr]
          exact ih _ _ (drw1_s ws1.2 hw hk).1
      · rw [if_neg hk, if_neg hk, tickF_cg h ws1.2 hn (entB_cg h ws1.2 (by rw [h37]))]
        rcases tick_s ws1 ws.1 hw q with ⟨t, _⟩ | ⟨t, _⟩
        · exact ih _ _ t
        · exact ih _ _ t
    · rw [if_pos q, if_pos q]
theorem TS_cg {A B : Nat → Int} {wo wc : Int} {g : (Nat → Int) → Int → Int} (h : AgA A B) (ws : WFS A) (wl : WFL A) (hl : AgL A B) (hn : ned B = ned A) (h37 : B 37 = A 37) (h6 : B 34 / 2 ^ 6 % 2 = A 34 / 2 ^ 6 % 2) : TS B wo wc g = TS A wo wc g := by
  unfold TS
  rw [bgn_cg h ws.2.1 h6, h 1 (by omega) (by omega), tsf_cg h ws wl hl hn h37 5000 _ _ (WFT_rn (bgn_rn ws) ws.2.1.1)]
