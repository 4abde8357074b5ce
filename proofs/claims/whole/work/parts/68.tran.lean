/-! SIMULATION: a transfer, an exclusion -/
theorem RR_BB {c e nC nM w r1 q : Nat} {I J : II} (h : RR9 c e nC nM w r1 I J) : BB c e nC nM w r1 q I J := by
  obtain ⟨a1, a2, a3, a4, a5, a6, a7, a8, a9, a10⟩ := h
  exact ⟨a1, a2, a3, a4, a5, a6, fun k hk _ hs => a7 k hk (by omega) hs, a9⟩
theorem mps_b {J : II} (h : MI J) : 0 ≤ mPs J ∧ mPs J ≤ 2475 := by
  have hj1 := h.1.2.1
  have hpp := sumTo_b (f := mSz J) (n := (J 509 1).toNat) (fun i hi => h.1.2.2.2.1 i (by omega)) (J 509 1).toNat (Nat.le_refl _)
  have hpm : mPs J = sumTo (mSz J) (J 509 1).toNat := rfl
  omega
theorem evM_a {X : II} {c r : Nat} {a b m : Int} : evM X c r a b m = up (up (up X (c + 23) r a) (c + 24) r b) (c + 25) r (wr m) := rfl
theorem tr_sim {c e nC nM w r q : Nat} {I J : II} (h : RR9 c e nC nM w (r + 1) I J) (hi : RIn c r I J) (hsp : e + 31 ≤ c) (hr : r < 9) (hq : q < 8) (hst : J 525 q = 1) (hdn : J 532 q = 0) (hsu : J 516 r < J 531 q) (hqt : 0 ≤ J 516 r) :
    ∃ K, trO J r q = some K ∧ RR9 c e nC nM w (r + 1) (trM I c e q r) K ∧ pot (trM I c e q r) c + 1 = pot I c ∧ K 509 = J 509 ∧ K 508 15 = J 508 15 := by
  have h0 := h
  obtain ⟨a1, a2, a3, a4, a5, a6, a7, a8, a9, a10⟩ := h
  obtain ⟨i1, i2, i3⟩ := hi
  have hE := a1
  obtain ⟨⟨b1, b2, b3, b4, b5, b6⟩, d1, f1, g1, k1, l1⟩ := a1
  obtain ⟨x1, x2, x3⟩ := id a3
  have hmp := mps_b a5
  have hv := a6
  obtain ⟨v1, v2, v3, v4, v5⟩ := a6
  have hge := sumTo_ge (f := J 531) (d := q) 8 hq (fun i hi => (v3 i hi).2.2.2)
  have htot : tot J = sumTo (J 531) 8 + J 508 39 + J 508 40 := rfl
  have hsu9 : wr (J 531 q - J 516 r) = J 531 q - J 516 r := wr_id (by omega)
  have hcsu : wr (I (c + 47) q - I c 13) = J 531 q - J 516 r := by rw [a2 _ _ _ _ (pr_vt hq), i2]; exact hsu9
  have hla : mlF J q nM = mlF J q nC := by
    have := ml_ext (J := J) (q := (q : Int)) (nC := nC) (nM - nC) (fun p h1 h2 => k1 p h1 (by omega))
    rw [show nC + (nM - nC) = nM by omega] at this
    exact this
  have hPA : PA J (trP I c e q) (mlF J q nM) := by
    have s1 := f1 1 (by omega)
    rw [show 3 + 1 = 4 from rfl] at s1
    have hlp := par_la (q := (q : Int)) hE a2 a3 (by omega) nC (Nat.le_refl _)
    have hge9 := ml_ge (J := J) (q := (q : Int)) nC
    unfold trP PA
    rw [s1, b3, Int.toNat_natCast, hlp, hla]
    by_cases g : J 509 4 = 0
    · rw [if_pos g]; exact Or.inl ⟨g, rfl⟩
    · rw [if_neg g]; exact Or.inr ⟨g, rfl, by omega⟩
  have hal : alF J q (mlF J q nM) nM = alF J q (mlF J q nM) nC := by
    have := al_ext (J := J) (q := (q : Int)) (la := mlF J q nM) (nC := nC) (nM - nC) (fun p h1 h2 => k1 p h1 (by omega))
    rw [show nC + (nM - nC) = nM by omega] at this
    exact this
  have halb := al_b (q := (q : Int)) (la := mlF J q nM) a5.1 nM b6 v1
  have hwp : wr (wpF I c e q (trP I c e q) nC) = alF J q (mlF J q nM) nM := by
    rw [wp_al hE a2 a3 hPA (by omega) nC (Nat.le_refl _), ← hal]
    exact wr_id (by omega)
  have hTV : TV c e nC nM w r q I J (mlF J q nM) (alF J q (mlF J q nM) nM) (J 531 q - J 516 r) 0 (tsF c e r q (trP I c e q) (J 531 q - J 516 r) (alF J q (mlF J q nM) nM) I (min 0 nC)).1 J 0 := by
    rw [show min 0 nC = 0 by omega]
    refine ⟨RR_BB h0, by rw [a8]; omega, ⟨rfl, rfl, rfl⟩, ⟨rfl, rfl, rfl, rfl, rfl, rfl, rfl⟩, fun i _ => ⟨rfl, rfl, rfl, rfl⟩, Int.le_refl _, Int.le_refl _, ?_, fun _ => rfl⟩
    show _ * (0 : Int) ≤ _ * (0 : Int)
    rw [Int.mul_zero, Int.mul_zero]
    exact Int.le_refl _
  obtain ⟨K2, u2, t1, t2, t3⟩ := ts_sim (pa := trP I c e q) hsp hr hq hst hPA (show 0 ≤ J 531 q - J 516 r by omega) halb.1 a5 v1 nM 0 J 0 (by omega) hTV (by rw [show min 0 nC = 0 by omega]; rfl)
  obtain ⟨hB, s2, ⟨s3, s4, s5⟩, ⟨y1, y2, y3, y4, y5, y6, y7⟩, -, z1, z2, z3, z4⟩ := t2
  obtain ⟨n1, n2, n3, n4, n5, n6, n7, n8⟩ := hB
  have hR : trR I c e q r = tsF c e r q (trP I c e q) (J 531 q - J 516 r) (alF J q (mlF J q nM) nM) I nC := by
    unfold trR
    rw [hcsu, b3, Int.toNat_natCast, hwp]
  have hu : u2 ≤ J 531 q - J 516 r := by
    by_cases g : alF J q (mlF J q nM) nM = 0
    · have := z4 g; omega
    · have h9 : alF J q (mlF J q nM) nM * u2 ≤ alF J q (mlF J q nM) nM * (J 531 q - J 516 r) := by
        rw [Int.mul_comm (alF J q (mlF J q nM) nM) (J 531 q - J 516 r)]; exact z3
      exact Int.le_of_mul_le_mul_left h9 (by omega)
  have hK : trO J r q = some (tfE K2 r q (J 531 q - J 516 r) u2) := by
    unfold trO tfA
    rw [b4, Int.toNat_natCast, hsu9, t1]
    rfl
  have ht9 : trM I c e q r = evM (up (up (up (trR I c e q r).1 c 15 (wr ((trR I c e q r).1 c 15 + (J 531 q - J 516 r - u2)))) (c + 47) q ((trR I c e q r).1 c 13)) c 11 (clr ((trR I c e q r).1 c 11).toNat q)) c r 1 q u2 := by
    unfold trM
    rw [hcsu, hR, t3]
  have hnn := hE.1
  have hok := tr_ok (q := q) a5 hr hq hK
  have e531 : tfE K2 r q (J 531 q - J 516 r) u2 531 = up K2 531 q (K2 516 r) 531 := by
    unfold tfE
    rw [hn_e (by decide) (by decide) (by decide), up_ne (by decide), up_ne (by decide)]
  have e532 : ∀ k, tfE K2 r q (J 531 q - J 516 r) u2 532 k = if k = q then 1 else K2 532 k := fun k => by
    unfold tfE
    rw [hn_e (by decide) (by decide) (by decide), up_ne (by decide)]
    by_cases g : k = q
    · rw [g, up_eq, if_pos rfl]
    · rw [up_nk g, if_neg g, up_ne (by decide)]
  have ex : ∀ x, x ≠ 531 → x ≠ 532 → x ≠ 508 → x ≠ 519 → x ≠ 520 → x ≠ 521 → tfE K2 r q (J 531 q - J 516 r) u2 x = K2 x := fun x h1 h2 h3 h4 h5 h6 => by
    unfold tfE
    rw [hn_e h4 h5 h6, up_ne h3, up_ne h2, up_ne h1]
  have e40 : tfE K2 r q (J 531 q - J 516 r) u2 508 40 = J 508 40 + (J 531 q - J 516 r - u2) := by
    unfold tfE
    rw [hn_e (by decide) (by decide) (by decide), up_eq, y6]
    exact wr_id (by omega)
  have ef : ∀ k, k ≠ 40 → tfE K2 r q (J 531 q - J 516 r) u2 508 k = K2 508 k := fun k hk => by
    unfold tfE
    rw [hn_e (by decide) (by decide) (by decide), up_nk hk, up_ne (by decide), up_ne (by decide)]
  have e509 := ex 509 (by decide) (by decide) (by decide) (by decide) (by decide) (by decide)
  have e525 := ex 525 (by decide) (by decide) (by decide) (by decide) (by decide) (by decide)
  have e533 := ex 533 (by decide) (by decide) (by decide) (by decide) (by decide) (by decide)
  have e534 := ex 534 (by decide) (by decide) (by decide) (by decide) (by decide) (by decide)
  have e535 := ex 535 (by decide) (by decide) (by decide) (by decide) (by decide) (by decide)
  have e536 := ex 536 (by decide) (by decide) (by decide) (by decide) (by decide) (by decide)
  have h11 := a4.2.2.2.1
  have hub := x2 q hq
  rw [if_pos ⟨hst, hdn⟩] at hub
  have hpc := pop_clr (I c 11).toNat (by omega) q hq hub
  have hcl := clr_lt (I c 11).toNat (by omega) q hq
  have c10 : trM I c e q r c 10 = I c 10 := by
    rw [ht9, evM_a, up_ne (by omega), up_ne (by omega), up_ne (by omega), up_nk (by omega), up_ne (by omega), up_nk (by omega), hR]; exact s3
  have c11 : trM I c e q r c 11 = (clr (I c 11).toNat q : Nat) := by
    rw [ht9, evM_a, up_ne (by omega), up_ne (by omega), up_ne (by omega), up_eq, hR, s4]
  have cx : ∀ x, x = c + 49 ∨ x = c + 50 → trM I c e q r x = (trR I c e q r).1 x := fun x hx => by
    rw [ht9, evM_a, up_ne (by omega), up_ne (by omega), up_ne (by omega), up_ne (by omega), up_ne (by omega), up_ne (by omega)]
  refine ⟨_, hK, ⟨EL_of hE (fun x h1 h2 => tr_e (by omega)) (e509.trans y4), ?_, ⟨fun k hk => ?_, fun k hk => ?_, fun p hp hn => ?_⟩, CI_tr a4 hsp hq hr, hok.1, ⟨by rw [e535]; exact n6.1, fun p hp => by rw [e533, e534, ml_of e509]; exact n6.2.1 p hp, fun k hk => ?_, by rw [ef 39 (by decide)]; exact n6.2.2.2.1, by rw [e40]; omega⟩, fun k hk _ hs => ?_, ?_, RK_of n8 (ef 32 (by decide)) (ex 530 (by decide) (by decide) (by decide) (by decide) (by decide) (by decide)) e525 (ex 527 (by decide) (by decide) (by decide) (by decide) (by decide) (by decide)), by rw [c10]; exact a10⟩, ?_, e509.trans y4, hok.2⟩
  · rw [ht9, evM_a, hR]
    unfold tfE hnM
    refine eq_up (eq_up (eq_up ?_ (by omega) (by omega) (pr_lg (i := 3) (by omega) (by omega))) (by omega) (by omega) (pr_lg (i := 4) (by omega) (by omega))) (by omega) (by omega) (pr_lg (i := 5) (by omega) (by omega))
    refine eq_l ?_ (pn_l (by omega) (by omega))
    rw [up_comm (a := c) (b := c + 47) (by omega)]
    refine eq_upv ?_ (by omega) (by omega) pr_lo (by rw [n2 _ _ _ _ pr_lo])
    refine eq_r (eq_upv n2 (by omega) (by omega) (pr_vt hq) ?_) (pn_r (by omega))
    rw [s5, y5]
    exact i2
  · rw [c10, e525, y2]; exact x1 k hk
  · rw [c11, Int.toNat_natCast, bt_clr (I c 11).toNat (by omega) q hq k hk, e525, y2, e532, y3]
    by_cases g : k = q
    · rw [if_pos g, if_neg (fun g2 => by rw [if_pos g] at g2; omega)]
    · rw [if_neg g, if_neg g]; exact x2 k hk
  · rw [e533] at hn
    rw [cx _ (Or.inl rfl), cx _ (Or.inr rfl), hR, e534, e536]
    exact n3.2.2 p hp hn
  · obtain ⟨w1, w2, w3, w4⟩ := n6.2.2.1 k hk
    rw [e525, e532, e509, e531]
    refine ⟨w1, w2, fun g => ?_, ?_⟩
    · by_cases g2 : k = q
      · rw [g2, y2] at g; exact (g hst).elim
      · rw [if_neg g2]; exact w3 g
    · by_cases g2 : k = q
      · rw [g2, up_eq, y5]; exact hqt
      · rw [up_nk g2]; exact w4
  · rw [e525, e532] at hs
    have g2 : ¬ k = q := fun g => by
      rw [if_pos g, g, y2] at hs
      omega
    rw [if_neg g2] at hs
    rw [e531, up_nk g2, ps_same e535 e533 e509]
    exact n7 k hk g2 hs
  · have hss : sumTo (up K2 531 q (K2 516 r) 531) 8 = sumTo (K2 531) 8 - K2 531 q + K2 516 r := by
      rw [sumTo_set (f := K2 531) 8 hq (fun i _ hi => up_nk hi), up_eq]
    have htt : tot K2 = sumTo (K2 531) 8 + K2 508 39 + K2 508 40 := rfl
    rw [mPs_s (e509.trans y4)]
    unfold tot
    rw [e531, hss, ef 39 (by decide), e40, y1, y5]
    omega
  · unfold pot
    rw [c10, c11, Int.toNat_natCast]; omega
