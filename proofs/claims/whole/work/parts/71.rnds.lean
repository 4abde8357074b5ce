/-! SIMULATION: the rounds -/
theorem el12 {I : II} {c q r : Nat} {rs : Int} : elM I c q r rs c 12 = I c 12 := by
  unfold elM elI2
  rw [up_nk (by decide), up_nk (by decide), up_ne (by omega), up_ne (by omega), up_ne (by omega), up_ne (by omega)]
  split
  · rw [up_ne (by omega), up_ne (by omega)]
  · rfl
theorem ch12 {I : II} {c e s r k : Nat} {m : Int} : chJ I c e s r m c k = I c k := by rw [chJ_ne (by omega)]
theorem ew12 {c e r : Nat} : ∀ k (I : II), ewM c e r k I c 12 = I c 12
  | 0, _ => rfl
  | k + 1, I => by
    unfold ewM
    split
    · exact ch12
    · split
      · exact ch12
      · rw [ew12 k, el12, ch12]
theorem ts12 {c e : Nat} {r q pa su sm : Int} {I : II} : ∀ p, (tsF c e r q pa su sm I p).1 c 12 = I c 12
  | 0 => rfl
  | p + 1 => by
    unfold tsF
    split
    · exact ts12 p
    · dsimp only
      rw [sendM_f (by decide)]
      unfold tsJ
      rw [up_ne (by omega)]
      exact ts12 p
theorem tr12 {I : II} {c e q r : Nat} : trM I c e q r c 12 = I c 12 := by
  unfold trM
  rw [evM_a, up_ne (by omega), up_ne (by omega), up_ne (by omega), up_nk (by decide), up_ne (by omega), up_nk (by decide)]
  exact ts12 _
theorem xw12 {c e : Nat} {r w : Int} {I : II} : ∀ p, (xwF c e r w I p).1 c 12 = I c 12
  | 0 => rfl
  | p + 1 => by
    unfold xwF
    split
    · dsimp only
      rw [sendM_f (by decide)]
      exact xw12 p
    · exact xw12 p
theorem xwM12 {I : II} {c e r : Nat} : xwM I c e r c 12 = I c 12 := by
  unfold xwM
  split
  · exact ch12
  · unfold xwL
    rw [evM_a, up_ne (by omega), up_ne (by omega), up_ne (by omega), xw12, xwI_a, up_ne (by omega), up_nk (by decide), up_ne (by omega), up_ne (by omega), up_ne (by omega), up_ne (by omega)]
    exact ch12
theorem ea12 {c e r : Nat} : ∀ k (I : II), eaM c e r k I c 12 = I c 12
  | 0, _ => rfl
  | k + 1, I => by
    unfold eaM
    split
    · rfl
    · split
      · rw [ea12 k, ch12]
      · rw [ea12 k, el12, ch12]
theorem pr12 {I : II} {c e r : Nat} : (prF I c e r).2 c 12 = I c 12 := by
  have h : prJ I c e r c 12 = I c 12 := ew12 _ _
  unfold prF
  generalize prJ I c e r = J at h ⊢
  split
  · exact h
  · split
    · exact (ea12 _ _).trans h
    · show prK J c e r c 12 = _
      unfold prK
      split
      · rw [xwM12, ch12]; exact h
      · rw [tr12, ch12]; exact h
theorem RIn_lk {c r s : Nat} {m : Int} {I J : II} (h : RIn c r I J) : RIn c r I (lkM J r s m) := by
  obtain ⟨a, b, d⟩ := h
  refine ⟨fun k hk => ?_, ?_, ?_⟩
  · rw [lkM_ne (by decide), lkM_ne (by decide)]; exact a k hk
  · rw [lkM_ne (by decide)]; exact b
  · rw [lkM_f (by decide) (by decide)]; exact d
/-- a round, played on both sides -/
theorem pl_sim {c e nC nM w r : Nat} {I J : II} (h : RR9 c e nC nM w (r + 1) I J) (hi : RIn c r I J) (hsp : e + 31 ≤ c) (hr : r < 9) (hq0 : 0 ≤ J 516 r) (hw : (w : Int) ≤ J 509 6) :
    ∃ (b : Int) (K : II) (w2 : Nat), (wqL r (J 516 r) 9 J).bind (fun K => rdT K r) = some (b, K) ∧ b = (prF I c e r).1 ∧ RR9 c e nC nM w2 (r + 1) (prF I c e r).2 K ∧ K 508 15 = (r : Int) ∧ K 509 = J 509 ∧ (b = 1 → pot (prF I c e r).2 c + 1 = pot I c ∧ (w2 : Int) ≤ K 509 6) := by
  have hw6 := h.2.2.2.2.1.1.2.2.2.2.2.2.2.2.2.2
  have s3 : I (e + 1) 3 = J 509 6 := h.1.2.2.1 3 (by omega)
  have sw : I (c + 1) 1 = (w : Int) := (h.2.1 _ _ _ _ pr_ec).trans h.2.2.2.2.2.2.2.2.1.1
  obtain ⟨w1, K, t1, t2, t3, t4, t5⟩ := wq_sim (qv := J 516 r) hsp hr (J 509 6 - w).toNat w I J h hi rfl hw rfl 9 (by omega)
  have k509 : K 509 = J 509 := wq_s (by omega) (by decide) _ _ t1
  have k516 : K 516 = J 516 := wq_s (by omega) (by decide) _ _ t1
  have hJ : prJ I c e r = ewM c e r (J 509 6 - w).toNat I := by unfold prJ; rw [s3, sw]
  rw [← hJ] at t2 t3 t5
  have s3K : I (e + 1) 3 = K 509 6 := by rw [k509]; exact s3
  have swK : prJ I c e r (c + 1) 1 = (w1 : Int) := (t2.2.1 _ _ _ _ pr_ec).trans t2.2.2.2.2.2.2.2.2.1.1
  obtain ⟨n, hn, hn8, hn2⟩ := nTo t2.2.2.2.2.1
  have hpe := hp_eq t2 hn
  have h10 := t2.2.2.2.1.2.2.1
  have h11 := t2.2.2.2.1.2.2.2.1
  have hpw := t2.2.2.2.2.2.2.2.2.2
  have hec := t2.2.2.2.2.2.2.2.2.1.1
  rw [t1]
  show ∃ (b : Int) (K2 : II) (w2 : Nat), rdT K r = some (b, K2) ∧ _
  unfold prF rdT
  rw [if_pos (show 0 ≤ K 508 32 ∧ K 508 32 ≤ 8 by omega), s3K, swK]
  unfold hpN
  rw [hn, Int.toNat_natCast, hpe, hec]
  by_cases c1 : K 509 6 - w1 ≤ 0
  · rw [if_pos c1, if_pos (Or.inl (by omega))]
    refine ⟨0, K, w1, ?_, rfl, t2, t3.2.2, k509, fun g => by omega⟩
    show (waL r (K 509 6 - (w1 : Int)) (8 + 1) K).map _ = _
    unfold waL
    rw [if_neg (fun g => by omega)]
    rfl
  · rw [if_neg c1]
    by_cases c2 : (pop8 (prJ I c e r c 10).toNat : Int) ≤ K 509 6 - w1
    · rw [if_pos c2, if_pos (Or.inr c2)]
      obtain ⟨w2, K2, u1, u2, u3⟩ := wa_sim (fr := K 509 6 - (w1 : Int)) hsp hr (by omega) 8 w1 _ _ t2 t3 (pop8_le _) 9 (by omega)
      refine ⟨0, K2, w2, by rw [u1]; rfl, rfl, u2, u3.2.2, (wa_s (by omega) (by decide) _ _ u1).trans k509, fun g => by omega⟩
    · rw [if_neg c2, if_neg (fun g => by rcases g with g | g <;> omega)]
      have hset : wmF (prJ I c e r) c 8 = wsF K r n := by
        refine bt_ext (wmF_lt _ _ 8 (Nat.le_refl _)) (wsF_lt K r n hn8) fun k hk => ?_
        rw [wm_bt hk, ws_bt hn8 hk, t2.2.2.1.2.1 k hk, t3.2.1, t2.2.1 _ _ _ _ (pr_vt hk)]
        obtain ⟨z1, z2, z3, z4⟩ := t2.2.2.2.2.2.1.2.2.1 k hk
        by_cases g : K 525 k = 1 ∧ K 532 k = 0
        · have hkn : k < n := by
            by_cases g2 : k < n
            · exact g2
            · have := z2 (by omega)
              omega
          rw [if_pos g]
          by_cases g3 : K 516 r < K 531 k
          · rw [if_pos ⟨rfl, g3⟩, if_pos ⟨hkn, g.1, g.2, g3⟩]
          · rw [if_neg (fun g4 => g3 g4.2), if_neg (fun g4 => g3 g4.2.2.2)]
        · rw [if_neg g, if_neg (fun g4 => by omega), if_neg (fun g4 => g ⟨g4.2.1, g4.2.2.1⟩)]
      obtain ⟨q1, q2⟩ := look_eq (s := wsF K r n) (t := wsF K r n) (m := 1) t2 hr rfl
      have hch : RR9 c e nC nM w1 (r + 1) (chJ (prJ I c e r) c e (wsF K r n) r 1) K := RR_ch t2 hsp (by omega) hr
      have hchi : RIn c r (chJ (prJ I c e r) c e (wsF K r n) r 1) K := RIn_ch t3
      have hpc : pot (chJ (prJ I c e r) c e (wsF K r n) r 1) c = pot (prJ I c e r) c := pot_ch
      unfold prK
      rw [hset, q2]
      by_cases c3 : wsF K r n = 0
      · rw [if_neg (fun g => g c3)]
        have hv : lkV K r (wsF K r n) 1 = -1 := by
          have hrg := lkV_rng (r := r) (s := wsF K r n) (m := 1) t2.2.2.2.2.1.1
          by_cases g : 0 ≤ lkV K r (wsF K r n) 1
          · obtain ⟨q, e1, e2, e3, e4⟩ := look_in t2.2.2.2.2.1 g
            exact (bt_n0 e4 c3).elim
          · omega
        rw [if_pos hv]
        obtain ⟨K2, u1, u2, u3, u4, u5⟩ := xw_sim hch hchi hsp hr (by
          rw [ch12]
          intro g
          rw [g] at c2
          have : pop8 0 = 0 := by decide
          omega)
        refine ⟨1, K2, w1, by rw [u1]; rfl, rfl, u2, u5.trans t3.2.2, u4.trans k509, fun _ => ⟨by dsimp only; omega, by rw [u4]; exact t4⟩⟩
      · rw [if_pos c3]
        obtain ⟨c5, g1, g2⟩ := bt_one (wsF_lt K r n hn8) c3
        have g3 := ws_bt (J := K) (r := r) hn8 g1
        rw [g2] at g3
        have g4 : c5 < n := by
          by_cases g : c5 < n ∧ K 525 c5 = 1 ∧ K 532 c5 = 0 ∧ K 516 r < K 531 c5
          · exact g.1
          · rw [if_neg g] at g3; omega
        have hsome := look_some (r := r) (t := wsF K r n) (m := 1) t2.2.2.2.2.1 t2.1 (c0 := c5) (by omega) g2
        obtain ⟨q, e1, e2, e3, e4⟩ := look_in t2.2.2.2.2.1 hsome
        rw [ws_bt hn8 e3] at e4
        have e5 : q < n ∧ K 525 q = 1 ∧ K 532 q = 0 ∧ K 516 r < K 531 q := by
          by_cases g : q < n ∧ K 525 q = 1 ∧ K 532 q = 0 ∧ K 516 r < K 531 q
          · exact g
          · rw [if_neg g] at e4; omega
        rw [if_pos hsome, e1, if_neg (show ¬ ((q : Nat) : Int) = -1 by omega), Int.toNat_natCast]
        have hL := RR_lk (s := wsF K r n) (m := 1) hch hr
        have hLi := RIn_lk (s := wsF K r n) (m := 1) hchi
        obtain ⟨K2, u1, u2, u3, u4, u5⟩ := tr_sim hL hLi hsp hr e3 (by rw [lkM_ne (by decide)]; exact e5.2.1) (by rw [lkM_ne (by decide)]; exact e5.2.2.1) (by rw [lkM_ne (by decide), lkM_ne (by decide)]; exact e5.2.2.2) (by rw [lkM_ne (by decide), k516]; exact hq0)
        rw [lkM_ne (show (509 : Nat) ≠ 508 by decide)] at u4
        refine ⟨1, K2, w1, by rw [u1]; rfl, rfl, u2, ?_, u4.trans k509, fun _ => ⟨by dsimp only; omega, by rw [u4]; exact t4⟩⟩
        rw [u5, lkM_f (by decide) (by decide)]
        exact t3.2.2
/-- what a whole count gives on both sides -/
def RES (c e nC nM : Nat) (I J : II) : Prop := ∃ w R : Nat, 1 ≤ R ∧ R ≤ 9 ∧ RR9 c e nC nM w R I J ∧ I (c + 1) 0 = (R : Int) ∧ J 508 15 = (R : Int)
theorem rd_sim {c e nC nM : Nat} (hsp : e + 31 ≤ c) : ∀ (k r w : Nat) (I J : II), r + k ≤ 9 → RR9 c e nC nM w r I J → J 508 15 = (r : Int) → (w : Int) ≤ J 509 6 → PP c I J → pot I c < k → ∃ K, cnL k r J = some K ∧ RES c e nC nM (rdL c e k r I) K ∧ K 509 = J 509
  | 0, r, w, I, J, hk, h, h15, hw, hp, hpt => by omega
  | k + 1, r, w, I, J, hk, h, h15, hw, hp, hpt => by
    obtain ⟨b1, b2, b3, b4, b5⟩ := rb_sim h hp hsp (by omega) h15
    have n509 : noM J r 509 = J 509 := no_e (by decide) (by decide) (by decide) (by decide)
    obtain ⟨b, K, w2, t1, t2, t3, t4, t5, t6⟩ := pl_sim b1 b2 hsp (by omega) b4 (by rw [n509]; exact hw)
    have hR : (prF (rbM I c e r) c e r).2 (c + 1) 0 = (r : Int) + 1 := (pr_r hsp).trans (rb_r (by omega))
    have hS : rdS J r = some (b, K) := t1
    have hupR : ∀ X : II, RR9 c e nC nM w2 (r + 1) X K → RR9 c e nC nM w2 (r + 1) X (up K 508 15 ((r : Int) + 1)) := fun X hX => by
      obtain ⟨a1, a2, a3, a4, a5, a6, a7, a8, a9, a10⟩ := hX
      have m : ∀ x, x ≠ 508 → up K 508 15 ((r : Int) + 1) x = K x := fun x hx => up_ne hx
      refine ⟨EL_of a1 (fun x _ _ => rfl) (m 509 (by decide)), eq_r a2 (pn_r (by omega)), AX_of a3 rfl rfl rfl (m _ (by decide)) (m _ (by decide)) (m _ (by decide)) (m _ (by decide)) (m _ (by decide)), a4, MI_up a5 (by decide) (by omega), VA_of a6 (m _ (by decide)) (m _ (by decide)) (m _ (by decide)) (m _ (by decide)) (m _ (by decide)) (m _ (by decide)) (m _ (by decide)) (up_nk (by decide)) (up_nk (by decide)), VQ_of a7 (m _ (by decide)) (m _ (by decide)) (m _ (by decide)) (m _ (by decide)) (m _ (by decide)) (m _ (by decide)), ?_, RK_of a9 (up_nk (by decide)) (m _ (by decide)) (m _ (by decide)) (m _ (by decide)), a10⟩
      rw [tot_of (m _ (by decide)) (up_nk (by decide)) (up_nk (by decide)), mPs_s (m 509 (by decide))]
      exact a8
    unfold cnL rdL
    rw [hS]
    show ∃ K2, (if b = 0 then some (up K 508 15 ((r : Int) + 1)) else cnL k (r + 1) (up K 508 15 ((r : Int) + 1))) = some K2 ∧ _
    rw [← t2]
    have u509 : up K 508 15 ((r : Int) + 1) 509 = J 509 := (up_ne (by decide)).trans (t5.trans n509)
    by_cases hb : b = 0
    · rw [if_pos hb, if_pos hb]
      exact ⟨_, rfl, ⟨w2, r + 1, by omega, by omega, hupR _ t3, by rw [hR]; omega, by rw [up_eq]; omega⟩, u509⟩
    · rw [if_neg hb, if_neg hb]
      have hb1 : b = 1 := rd_01 hS hb
      obtain ⟨p1, p2⟩ := t6 hb1
      have hpp : PP c (prF (rbM I c e r) c e r).2 (up K 508 15 ((r : Int) + 1)) := by
        unfold PP at hp ⊢
        rw [pr12, rb_o (by omega) (by omega) (by omega) (by omega) (by omega) (by omega) (by omega), mPs_s u509]
        exact hp
      obtain ⟨K2, s1, s2, s3⟩ := rd_sim hsp k (r + 1) w2 _ _ (by omega) (hupR _ t3) (by rw [up_eq]; omega) (by rw [up_ne (by decide)]; exact p2) hpp (by omega)
      exact ⟨K2, s1, s2, s3.trans u509⟩
