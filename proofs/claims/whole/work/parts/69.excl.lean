/-! SIMULATION: an exclusion -/
def XV (c e nC nM w r q : Nat) (I1 J1 : II) (p : Nat) (Ic Km : II) (u : Int) : Prop :=
  BB c e nC nM w (r + 1) q Ic Km ∧ tot Km + psM Km q nM = 10000 * mPs J1 ∧ (Ic c 10 = I1 c 10 ∧ Ic c 11 = I1 c 11) ∧ (Km 525 = J1 525 ∧ Km 532 = J1 532 ∧ Km 509 = J1 509 ∧ Km 508 15 = J1 508 15 ∧ Km 531 q = J1 531 q) ∧ (∀ i, i < p → ¬ Km 533 i = (q : Int)) ∧ u + psM Km q nM = psM J1 q nM
theorem ps_none {J : II} {q : Int} : ∀ n, (∀ i, i < n → ¬ J 533 i = q) → psM J q n = 0
  | 0, _ => rfl
  | n + 1, h => by
    unfold psM
    rw [ps_none n (fun i hi => h i (by omega)), if_neg (h n (by omega))]
    rfl
theorem xc_sim {c e nC nM w r q : Nat} {I1 J1 : II} (hsp : e + 31 ≤ c) (hr : r < 9) (hq : q < 8) (hst : J1 525 q = 2) (hm0 : MI J1) : ∀ (k p : Nat) (Km : II) (u : Int), p + k = nM → XV c e nC nM w r q I1 J1 p (xwF c e r q I1 (min p nC)).1 Km u → (xwF c e r q I1 (min p nC)).2 = u →
    ∃ (K2 : II) (u2 : Int), xcL r q k p Km = some K2 ∧ XV c e nC nM w r q I1 J1 nM (xwF c e r q I1 nC).1 K2 u2 ∧ (xwF c e r q I1 nC).2 = u2
  | 0, p, Km, u, hk, h, hu => by
    obtain rfl : p = nM := by omega
    have hnn := h.1.1.1
    rw [show min p nC = nC by omega] at h hu
    exact ⟨Km, u, rfl, h, hu⟩
  | k + 1, p, Km, u, hk, h, hu => by
    obtain ⟨hB, h2, h3, ⟨f1, f2, f3, f4, f5⟩, h5, h6⟩ := id h
    have hnn := hB.1.1
    have hmp := mps_b hm0
    have hps := ps_b (q := (q : Int)) hB.2.2.2.2.1.1 nM (by omega) hB.2.2.2.2.2.1.1
    unfold xcL
    by_cases h0 : Km 533 p = (q : Int)
    · rw [if_pos h0]
      have hv2 := (hB.2.2.2.2.2.1.2.1 p (by omega)).2.2 (by omega)
      have hw4 := hB.2.2.2.2.1.1.2.2.2.2.1 p (by omega)
      rw [if_pos (show -1 ≤ Km 534 p ∧ Km 534 p ≤ 8 by omega)]
      have hstK : ¬ Km 525 q = 0 := by rw [f1]; omega
      by_cases g : p < nC
      · rw [show min p nC = p by omega] at hB hu h3
        have e1 : xwF c e r q I1 (min (p + 1) nC) = (sendM (xwF c e r q I1 p).1 c e p r, (xwF c e r q I1 p).2 + unitsF (xwF c e r q I1 p).1 c e p) := by
          rw [show min (p + 1) nC = p + 1 by omega]
          show (if (xwF c e r q I1 p).1 (c + 48) p = q then _ else _) = _
          rw [if_pos (by rw [hB.2.1 _ _ _ _ (pr_ho g)]; exact h0)]
        obtain ⟨g1, g2, g3, g4, ⟨r1, r2, r3, r4⟩, g6, g7⟩ := go_step hB hsp (by omega) hr g hq h0 hstK (by omega)
        refine xc_sim hsp hr hq hst hm0 k (p + 1) _ (u + mSz Km p * Km 535 p) (by omega) ?_ (by rw [e1, g6, hu])
        rw [e1]
        refine ⟨g1, by omega, ⟨?_, ?_⟩, ⟨?_, ?_, ?_, ?_, ?_⟩, fun i hi => ?_, by omega⟩
        · dsimp only
          rw [sendM_f (by omega)]; exact h3.1
        · dsimp only
          rw [sendM_f (by omega)]; exact h3.2
        · rw [r1 525 (by decide) (by decide) (by decide) (by decide) (by decide)]; exact f1
        · rw [r1 532 (by decide) (by decide) (by decide) (by decide) (by decide)]; exact f2
        · rw [r1 509 (by decide) (by decide) (by decide) (by decide) (by decide)]; exact f3
        · rw [r2 15 (by decide)]; exact f4
        · rw [r3]; exact f5
        · by_cases ip : i = p
          · rw [ip]; exact g4
          · rw [(r4 i ip).1]; exact h5 i (by omega)
      · have e1 : xwF c e r q I1 (min (p + 1) nC) = xwF c e r q I1 (min p nC) := by
          rw [show min (p + 1) nC = nC by omega, show min p nC = nC by omega]
        obtain ⟨g1, g2, g3, g4, ⟨r1, r2, r3, r4⟩, g6, g7⟩ := go_stepx hB (by omega) hr (show nC ≤ p by omega) (by omega) hq h0 hstK (by omega)
        refine xc_sim hsp hr hq hst hm0 k (p + 1) _ u (by omega) ?_ (by rw [e1]; exact hu)
        rw [e1]
        refine ⟨g1, by omega, h3, ⟨?_, ?_, ?_, ?_, ?_⟩, fun i hi => ?_, by omega⟩
        · rw [r1 525 (by decide) (by decide) (by decide) (by decide) (by decide)]; exact f1
        · rw [r1 532 (by decide) (by decide) (by decide) (by decide) (by decide)]; exact f2
        · rw [r1 509 (by decide) (by decide) (by decide) (by decide) (by decide)]; exact f3
        · rw [r2 15 (by decide)]; exact f4
        · rw [r3]; exact f5
        · by_cases ip : i = p
          · rw [ip]; exact g4
          · rw [(r4 i ip).1]; exact h5 i (by omega)
    · rw [if_neg h0]
      have e1 : xwF c e r q I1 (min (p + 1) nC) = xwF c e r q I1 (min p nC) := by
        by_cases g : p < nC
        · rw [show min (p + 1) nC = p + 1 by omega, show min p nC = p by omega]
          rw [show min p nC = p by omega] at hB
          show (if (xwF c e r q I1 p).1 (c + 48) p = q then _ else _) = _
          rw [if_neg (by rw [hB.2.1 _ _ _ _ (pr_ho g)]; exact h0)]
        · rw [show min (p + 1) nC = nC by omega, show min p nC = nC by omega]
      refine xc_sim hsp hr hq hst hm0 k (p + 1) Km u (by omega) ?_ (by rw [e1]; exact hu)
      rw [e1]
      refine ⟨hB, h2, h3, ⟨f1, f2, f3, f4, f5⟩, fun i hi => ?_, h6⟩
      by_cases ip : i = p
      · rw [ip]; exact h0
      · exact h5 i (by omega)
theorem xwI_a {I : II} {c w r : Nat} : xwI I c w r = up (up (up (up (up (up I (c + 3) w 2) (c + 16) w r) (c + 17) w (I (c + 14) 2)) (c + 18) w (I (c + 14) 3)) c 10 (clr (I c 10).toNat w)) (c + 47) w 0 := rfl
/-- the reason of an exclusion -/
theorem xr_eq {c e nC nM w r s : Nat} {I J : II} (h : RR9 c e nC nM w (r + 1) I J) (hr : r < 9) (hs : s = (I c 10).toNat) : chJ I c e s r 0 (c + 14) 2 = xcR (lkM J r s 0) r s ∧ chJ I c e s r 0 (c + 14) 3 = (if xcR (lkM J r s 0) r s = 4 then lkM J r s 0 508 41 else -1) := by
  obtain ⟨q1, q2⟩ := look_eq (s := s) (t := s) (m := 0) h hr rfl
  obtain ⟨n, hn, hn8, hn2⟩ := nTo h.2.2.2.2.1
  have e9 : lkM J r s 0 509 = J 509 := lkM_ne (by decide)
  have e5 : mVt (lkM J r s 0) r = mVt J r := by
    funext x
    unfold mVt
    rw [lkM_ne (by decide)]
  have e41 : lkM J r s 0 508 41 = (lkQ J r s 0 r).2.2 := by unfold lkM lkI; rw [up_nk (by decide), up_eq]
  have hw := ch_why (F := mVt J) (n := n) (r := r) (tr := J 509 5) (m := 0) (s := s) r
  have hQ : lkQ J r s 0 r = chT (mVt J) n (J 509 5) r 0 s r := by unfold lkQ; rw [hn, Int.toNat_natCast]
  have hX : xcR (lkM J r s 0) r s = if pop8 (extF (mVt J r) s 0 n).1 ≤ 1 then 3 else if (if pop8 (lkQ J r s 0 r).1 ≤ 1 then (0 : Int) else 1) = 0 then 4 else 5 := by
    unfold xcR
    rw [e5, e9, hn, Int.toNat_natCast, lk_b]
  unfold chJ chM
  rw [q1, hX, e41]
  rw [← hQ] at hw
  generalize lkQ J r s 0 r = Q at hw ⊢
  generalize extF (mVt J r) s 0 n = E at hw ⊢
  by_cases hp : pop8 Q.1 ≤ 1
  · rw [if_pos hp, if_pos hp, if_pos rfl, up_nk (by decide), up_eq, up_eq]
    rcases hw with ⟨w1, w2, w3⟩ | ⟨w1, w2⟩
    · rw [if_pos (by rw [← w3]; exact hp), if_neg (by decide)]
      exact ⟨w1, w2⟩
    · rw [if_neg w2, if_pos rfl]
      exact ⟨w1, rfl⟩
  · have hE : ¬ pop8 E.1 ≤ 1 := by
      rcases hw with ⟨w1, w2, w3⟩ | ⟨w1, w2⟩
      · rw [← w3]; exact hp
      · exact w2
    rw [if_neg hp, if_neg hp, if_neg hE, if_neg (show ¬ (1 : Int) = 0 by decide), up_nk (by decide), up_eq, up_eq, if_neg (by decide)]
    exact ⟨rfl, rfl⟩
theorem xw_sim {c e nC nM w r : Nat} {I J : II} (h : RR9 c e nC nM w (r + 1) I J) (hi : RIn c r I J) (hsp : e + 31 ≤ c) (hr : r < 9) (hh : ¬ (I c 10).toNat = 0) :
    ∃ K, exO J r = some K ∧ RR9 c e nC nM w (r + 1) (xwM I c e r) K ∧ pot (xwM I c e r) c + 1 = pot I c ∧ K 509 = J 509 ∧ K 508 15 = J 508 15 := by
  have h0 := h
  obtain ⟨n, hn, hn8, hn2⟩ := nTo h.2.2.2.2.1
  have he := hp_eq h0 hn
  obtain ⟨q1, q2⟩ := look_eq (s := (I c 10).toNat) (t := (I c 10).toNat) (m := 0) h0 hr rfl
  have h10 := h.2.2.2.1.2.2.1
  obtain ⟨c1, g1, g2⟩ := bt_one (s := (I c 10).toNat) (by omega) hh
  have x1 := h.2.2.1.1
  have v3 := h.2.2.2.2.2.1.2.2.1
  have st0 : ∀ q, q < 8 → btI (I c 10).toNat q = 1 → J 525 q = 0 := fun q hq g => by
    rw [x1 q hq] at g
    by_cases g3 : J 525 q = 0
    · exact g3
    · rw [if_neg g3] at g; omega
  have g5 : c1 < n := by
    by_cases g : c1 < n
    · exact g
    · have := (v3 c1 g1).2.1 (by omega)
      have := st0 c1 g1 g2
      omega
  have hsome := look_some (r := r) (t := (I c 10).toNat) (m := 0) h.2.2.2.2.1 h.1 (c0 := c1) (by omega) g2
  obtain ⟨q, e1, e2, hq, e4⟩ := look_in h.2.2.2.2.1 hsome
  have hst := st0 q hq e4
  obtain ⟨y1, y2⟩ := xr_eq h0 hr (s := (I c 10).toNat) rfl
  -- after the choice
  have hL := RR_lk (s := (I c 10).toNat) (m := 0) (RR_ch (s := (I c 10).toNat) (m := 0) h0 hsp (by omega) hr) hr
  have l531 : lkM J r (I c 10).toNat 0 531 = J 531 := lkM_ne (by decide)
  have l525 : lkM J r (I c 10).toNat 0 525 = J 525 := lkM_ne (by decide)
  have l15 : lkM J r (I c 10).toNat 0 508 15 = J 508 15 := lkM_f (by decide) (by decide)
  have l509 : lkM J r (I c 10).toNat 0 509 = J 509 := lkM_ne (by decide)
  have c10 : chJ I c e (I c 10).toNat r 0 c = I c := chJ_ne (by omega)
  have hE : exO J r = xcB (lkM J r (I c 10).toNat 0) r (I c 10).toNat q := by
    unfold exO
    rw [hn, Int.toNat_natCast, he, if_pos hsome, e1, Int.toNat_natCast]
  have hC : xwM I c e r = xwL (chJ I c e (I c 10).toNat r 0) c e q r := by
    unfold xwM
    rw [q2, e1, if_neg (show ¬ ((q : Nat) : Int) = -1 by omega), Int.toNat_natCast]
  have hok9 : ∀ K, exO J r = some K → MI K ∧ K 508 15 = J 508 15 := fun K hK => ex_okM h.2.2.2.2.1 hr hK
  have hCI : CI (xwM I c e r) c e := CI_xw h.2.2.2.1 hsp hr
  rw [hE] at hok9
  rw [hE]
  rw [hC] at hCI
  rw [hC]
  have hpI : pot (chJ I c e (I c 10).toNat r 0) c = pot I c := pot_ch
  have hXr := xcR_rng (lkM J r (I c 10).toNat 0) r (I c 10).toNat
  unfold xcB at hok9 ⊢
  generalize hI1 : chJ I c e (I c 10).toNat r 0 = I1 at *
  generalize hJ1 : lkM J r (I c 10).toNat 0 = J1 at *
  generalize hrs : xcR J1 r (I c 10).toNat = rs at *
  generalize htt : (if rs = 4 then J1 508 41 else -1 : Int) = tt at *
  obtain ⟨a1, a2, a3, a4, a5, a6, a7, a8, a9, a10⟩ := hL
  obtain ⟨v1, v2, v3, v4, v5⟩ := a6
  have hb4 := a1.1.2.2.2.1
  have hnn := a1.1
  have h10b := a4.2.2.1
  have hhb : btI (I1 c 10).toNat q = 1 := by rw [c10]; exact e4
  have hpc := pop_clr (I1 c 10).toNat (by omega) q hq hhb
  have hcl := clr_lt (I1 c 10).toNat (by omega) q hq
  have hst1 : J1 525 q = 0 := by rw [l525]; exact hst
  have hvq := a7 q hq (by omega) (Or.inl hst1)
  have hmp := mps_b a5
  have hX : xcA J1 r q rs = up (up (up (up (up J1 525 q 2) 526 q r) 528 q rs) 529 q tt) 531 q 0 := by unfold xcA; rw [htt]
  have hW : xwI I1 c q r = up (up (up (up (up (up I1 (c + 3) q 2) (c + 16) q r) (c + 17) q rs) (c + 18) q tt) c 10 (clr (I1 c 10).toNat q)) (c + 47) q 0 := by rw [xwI_a, y1, y2]
  have m : ∀ x, x ≠ 525 → x ≠ 526 → x ≠ 528 → x ≠ 529 → x ≠ 531 → xcA J1 r q rs x = J1 x := fun x h1 h2 h3 h4 h5 => xcA_e h1 h2 h3 h4 h5
  have m509 := m 509 (by decide) (by decide) (by decide) (by decide) (by decide)
  have m508 := m 508 (by decide) (by decide) (by decide) (by decide) (by decide)
  have m532 := m 532 (by decide) (by decide) (by decide) (by decide) (by decide)
  have m533 := m 533 (by decide) (by decide) (by decide) (by decide) (by decide)
  have m534 := m 534 (by decide) (by decide) (by decide) (by decide) (by decide)
  have m535 := m 535 (by decide) (by decide) (by decide) (by decide) (by decide)
  have m536 := m 536 (by decide) (by decide) (by decide) (by decide) (by decide)
  have m527 := m 527 (by decide) (by decide) (by decide) (by decide) (by decide)
  have m530 := m 530 (by decide) (by decide) (by decide) (by decide) (by decide)
  have m525 : ∀ k, xcA J1 r q rs 525 k = if k = q then 2 else J1 525 k := fun k => by
    rw [hX, up_ne (by decide), up_ne (by decide), up_ne (by decide), up_ne (by decide)]
    by_cases g : k = q
    · rw [g, up_eq, if_pos rfl]
    · rw [up_nk g, if_neg g]
  have m531 : ∀ k, xcA J1 r q rs 531 k = if k = q then 0 else J1 531 k := fun k => by
    rw [hX]
    by_cases g : k = q
    · rw [g, up_eq, if_pos rfl]
    · rw [up_nk g, if_neg g, up_ne (by decide), up_ne (by decide), up_ne (by decide), up_ne (by decide)]
  have w10 : xwI I1 c q r c 10 = (clr (I1 c 10).toNat q : Nat) := by rw [hW, up_ne (by omega), up_eq]
  have w11 : xwI I1 c q r c 11 = I1 c 11 := by rw [hW, up_ne (by omega), up_nk (by omega), up_ne (by omega), up_ne (by omega), up_ne (by omega), up_ne (by omega)]
  have wx : ∀ x, x = c + 49 ∨ x = c + 50 → xwI I1 c q r x = I1 x := fun x hx => by rw [hW, up_ne (by omega), up_ne (by omega), up_ne (by omega), up_ne (by omega), up_ne (by omega), up_ne (by omega)]
  have hpsA : psM (xcA J1 r q rs) q nM = psM J1 q nM := ps_same m535 m533 m509
  have hB : BB c e nC nM w (r + 1) q (xwI I1 c q r) (xcA J1 r q rs) := by
    refine ⟨EL_of a1 (fun x h1 h2 => xwI_e (by omega)) m509, ?_, ⟨fun k hk => ?_, fun k hk => ?_, fun p hp hn => ?_⟩, CI_xwI a4 hsp hq hr, MI_xcA a5 hr (by omega), ⟨by rw [m535]; exact v1, fun p hp => by rw [m533, m534, ml_of m509]; exact v2 p hp, fun k hk => ?_, by rw [m508]; exact v4, by rw [m508]; exact v5⟩, fun k hk hx hs => ?_, ?_⟩
    · rw [hW, hX]
      refine eq_up (eq_l ?_ (pn_l (by omega) (by omega))) (by omega) (by omega) (pr_vt hq)
      exact eq_up (eq_up (eq_up (eq_up a2 (by omega) (by omega) (pr_st hq)) (by omega) (by omega) (pr_rd hq)) (by omega) (by omega) (pr_rs hq)) (by omega) (by omega) (pr_tr hq)
    · rw [w10, Int.toNat_natCast, bt_clr (I1 c 10).toNat (by omega) q hq k hk, m525]
      by_cases g : k = q
      · rw [if_pos g, if_pos g, if_neg (by decide)]
      · rw [if_neg g, if_neg g]; exact a3.1 k hk
    · rw [w11, m525, m532, a3.2.1 k hk]
      by_cases g : k = q
      · rw [if_pos g, if_neg (fun g2 => by rw [g] at g2; omega), if_neg (fun g2 => by omega)]
      · rw [if_neg g]
    · rw [m533] at hn
      rw [wx _ (Or.inl rfl), wx _ (Or.inr rfl), m534, m536]
      exact a3.2.2 p hp hn
    · rw [m525, m531, m532, m509]
      obtain ⟨z1, z2, z3, z4⟩ := v3 k hk
      by_cases g : k = q
      · rw [if_pos g, if_pos g]
        refine ⟨by omega, fun g2 => ?_, fun _ => z3 (by rw [g]; omega), Int.le_refl _⟩
        have := z2 g2
        rw [g] at this
        omega
      · rw [if_neg g, if_neg g]; exact ⟨z1, z2, z3, z4⟩
    · rw [m525, if_neg hx, m532] at hs
      rw [m531, if_neg hx, ps_same m535 m533 m509]
      exact a7 k hk (by omega) hs
    · obtain ⟨j1, j2, j3⟩ := a9
      refine ⟨by rw [m508]; exact j1, fun k hk => ?_, fun k hk => ?_⟩
      · obtain ⟨z1, z2, z3, z4⟩ := j2 k hk
        rw [m530, m525, m527, if_neg (fun g => by rw [g] at z3; omega)]
        exact ⟨z1, z2, z3, z4⟩
      · rw [m525, m527, m530]
        by_cases g : k = q
        · rw [if_pos g]
          exact ⟨fun _ => (j3 k hk).1 (by rw [g]; omega), fun g2 => by omega⟩
        · rw [if_neg g]; exact j3 k hk
  have htot : tot (xcA J1 r q rs) + psM (xcA J1 r q rs) q nM = 10000 * mPs (xcA J1 r q rs) := by
    have hss : sumTo (xcA J1 r q rs 531) 8 = sumTo (J1 531) 8 - J1 531 q + 0 := by
      rw [sumTo_set (f := J1 531) 8 hq (fun i _ hi => by rw [m531, if_neg hi]), m531, if_pos rfl]
    have ht1 : tot J1 = sumTo (J1 531) 8 + J1 508 39 + J1 508 40 := rfl
    rw [mPs_s m509, hpsA]
    unfold tot
    rw [hss, m508, ← hvq]
    omega
  have hXV : XV c e nC nM w r q (xwI I1 c q r) (xcA J1 r q rs) 0 (xwF c e r q (xwI I1 c q r) (min 0 nC)).1 (xcA J1 r q rs) 0 := by
    rw [show min 0 nC = 0 by omega]
    exact ⟨hB, htot, ⟨rfl, rfl⟩, ⟨rfl, rfl, rfl, rfl, rfl⟩, fun i hi => by omega, by omega⟩
  have hst2 : xcA J1 r q rs 525 q = 2 := by rw [m525, if_pos rfl]
  obtain ⟨K2, u2, t1, t2, t3⟩ := xc_sim hsp hr hq hst2 (MI_xcA a5 hr (by omega)) nM 0 _ 0 (by omega) hXV (by rw [show min 0 nC = 0 by omega]; rfl)
  obtain ⟨⟨n1, n2, n3, n4, n5, n6, n7, n8⟩, s2, ⟨s3, s4⟩, ⟨f1, f2, f3, f4, f5⟩, s5, s6⟩ := t2
  have hz := ps_none nM s5
  have hu : u2 = J1 531 q := by omega
  have hres : (xcL r q (J1 509 1).toNat 0 (xcA J1 r q rs)).map (fun K => hnM K r 2 q (J1 531 q)) = some (hnM K2 r 2 q (J1 531 q)) := by
    rw [hb4, Int.toNat_natCast, t1]
    rfl
  have hok := hok9 _ hres
  have ex : ∀ x, x ≠ 519 → x ≠ 520 → x ≠ 521 → hnM K2 r 2 q (J1 531 q) x = K2 x := fun x h1 h2 h3 => hn_e h1 h2 h3
  have e509 := ex 509 (by decide) (by decide) (by decide)
  have e508 := ex 508 (by decide) (by decide) (by decide)
  have e525 := ex 525 (by decide) (by decide) (by decide)
  have e532 := ex 532 (by decide) (by decide) (by decide)
  have hcl9 : xwL I1 c e q r = evM (xwF c e r q (xwI I1 c q r) nC).1 c r 2 q u2 := by
    unfold xwL
    rw [hnn.2.2.1, Int.toNat_natCast, t3]
  have hc : ∀ x, x ≠ c + 23 → x ≠ c + 24 → x ≠ c + 25 → xwL I1 c e q r x = (xwF c e r q (xwI I1 c q r) nC).1 x := fun x h1 h2 h3 => by
    rw [hcl9, evM_a, up_ne h3, up_ne h2, up_ne h1]
  have k10 : xwL I1 c e q r c 10 = (clr (I1 c 10).toNat q : Nat) := by rw [hc _ (by omega) (by omega) (by omega), s3, w10]
  have k11 : xwL I1 c e q r c 11 = I1 c 11 := by rw [hc _ (by omega) (by omega) (by omega), s4, w11]
  refine ⟨_, hres, ⟨EL_of n1 (fun x h1 h2 => hc x (by omega) (by omega) (by omega)) e509, ?_, AX_of n3 (hc _ (by omega) (by omega) (by omega)) (hc _ (by omega) (by omega) (by omega)) (hc _ (by omega) (by omega) (by omega)) e525 e532 (ex _ (by decide) (by decide) (by decide)) (ex _ (by decide) (by decide) (by decide)) (ex _ (by decide) (by decide) (by decide)), hCI, hok.1, VA_of n6 (ex _ (by decide) (by decide) (by decide)) (ex _ (by decide) (by decide) (by decide)) (ex _ (by decide) (by decide) (by decide)) e525 e532 (ex _ (by decide) (by decide) (by decide)) e509 (by rw [e508]) (by rw [e508]), fun k hk _ hs => ?_, ?_, RK_of n8 (by rw [e508]) (ex _ (by decide) (by decide) (by decide)) e525 (ex _ (by decide) (by decide) (by decide)), by rw [k10, Int.toNat_natCast]; omega⟩, ?_, (e509.trans f3).trans (m509.trans l509), hok.2⟩
  · rw [hcl9, evM_a, ← hu]
    unfold hnM
    exact eq_up (eq_up (eq_up n2 (by omega) (by omega) (pr_lg (i := 3) (by omega) (by omega))) (by omega) (by omega) (pr_lg (i := 4) (by omega) (by omega))) (by omega) (by omega) (pr_lg (i := 5) (by omega) (by omega))
  · rw [e525, e532] at hs
    have g2 : ¬ k = q := fun g => by
      rw [f1, g, hst2] at hs
      omega
    rw [ex 531 (by decide) (by decide) (by decide), ps_same (ex _ (by decide) (by decide) (by decide)) (ex _ (by decide) (by decide) (by decide)) e509]
    exact n7 k hk g2 hs
  · rw [tot_of (ex _ (by decide) (by decide) (by decide)) (by rw [e508]) (by rw [e508]), mPs_s (e509.trans f3)]
    omega
  · unfold pot at hpI ⊢
    rw [k10, k11, Int.toNat_natCast]; omega
