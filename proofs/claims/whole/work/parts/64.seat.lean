/-! SIMULATION: seats -/
def RK (J : II) (w : Nat) : Prop := J 508 32 = (w : Int) ∧ (∀ k : Nat, k < w → 0 ≤ J 530 k ∧ J 530 k < 8 ∧ J 525 (J 530 k).toNat = 1 ∧ J 527 (J 530 k).toNat = (k : Int)) ∧ ∀ q : Nat, q < 8 → (¬ J 525 q = 1 → J 527 q = -1) ∧ (J 525 q = 1 → 0 ≤ J 527 q ∧ J 527 q < (w : Int) ∧ J 530 (J 527 q).toNat = (q : Int))
/-- what holds of both counts -/
def RR9 (c e nC nM w r1 : Nat) (I J : II) : Prop := EL I e J nC nM ∧ EQc c nC w r1 I J ∧ AX c nC I J ∧ CI I c e ∧ MI J ∧ VA J nM ∧ VQ J nM 8 ∧ tot J = 10000 * mPs J ∧ RK J w ∧ pop8 (I c 10).toNat + w ≤ 8
/-- what holds within a round besides -/
def RIn (c r : Nat) (I J : II) : Prop := (∀ k, k < 8 → J 515 (8 * r + k) = J 531 k) ∧ I c 13 = J 516 r ∧ J 508 15 = (r : Int)
theorem eq_lx {c nC w r : Nat} {I I2 J : II} (h : EQc c nC w r I J) (hx : ∀ a k b j, PRc c nC w r a k b j → I2 a k = I a k) : EQc c nC w r I2 J := fun a k b j hp => (hx a k b j hp).trans (h a k b j hp)
theorem eq_rx {c nC w r : Nat} {I J J2 : II} (h : EQc c nC w r I J) (hx : ∀ a k b j, PRc c nC w r a k b j → J2 b j = J b j) : EQc c nC w r I J2 := fun a k b j hp => (h a k b j hp).trans (hx a k b j hp).symm
theorem pr_14 {c nC w r a k b j : Nat} (hr : r ≤ 9) (h : PRc c nC w r a k b j) : a ≠ c + 14 := by
  unfold PRc at h
  rcases h with h | h | h | h | h | h | h | h | h <;> omega
theorem pr_41 {c nC w r a k b j : Nat} (h : PRc c nC w r a k b j) : b = 508 → j ≠ 41 ∧ j ≠ 42 := by
  unfold PRc at h
  rcases h with h | h | h | h | h | h | h | h | h <;> omega
theorem AX_of {c nC : Nat} {I I2 J J2 : II} (h : AX c nC I J) (h1 : I2 c = I c) (h2 : I2 (c + 49) = I (c + 49)) (h3 : I2 (c + 50) = I (c + 50)) (g1 : J2 525 = J 525) (g2 : J2 532 = J 532) (g3 : J2 533 = J 533) (g4 : J2 534 = J 534) (g5 : J2 536 = J 536) : AX c nC I2 J2 := by
  obtain ⟨a, b, d⟩ := h
  refine ⟨fun k hk => ?_, fun k hk => ?_, fun p hp hn => ?_⟩
  · rw [h1, g1]; exact a k hk
  · rw [h1, g1, g2]; exact b k hk
  · rw [g3] at hn
    rw [h2, h3, g4, g5]; exact d p hp hn
theorem VA_of {J K : II} {nM : Nat} (h : VA J nM) (h1 : K 535 = J 535) (h2 : K 533 = J 533) (h3 : K 534 = J 534) (h4 : K 525 = J 525) (h5 : K 532 = J 532) (h6 : K 531 = J 531) (h7 : K 509 = J 509) (h8 : K 508 39 = J 508 39) (h9 : K 508 40 = J 508 40) : VA K nM := by
  obtain ⟨a, b, d, f, g⟩ := h
  exact ⟨fun p hp => by rw [h1]; exact a p hp, fun p hp => by rw [h2, h3, ml_of h7]; exact b p hp, fun q hq => by rw [h4, h5, h6, h7]; exact d q hq, by rw [h8]; exact f, by rw [h9]; exact g⟩
theorem ps_same {J K : II} {q : Int} {n : Nat} (h1 : K 535 = J 535) (h2 : K 533 = J 533) (h7 : K 509 = J 509) : psM K q n = psM J q n := ps_of n fun p _ => ⟨by rw [h2], by rw [ms_of h7, h1]⟩
theorem VQ_of {J K : II} {nM x : Nat} (h : VQ J nM x) (h1 : K 535 = J 535) (h2 : K 533 = J 533) (h4 : K 525 = J 525) (h5 : K 532 = J 532) (h6 : K 531 = J 531) (h7 : K 509 = J 509) : VQ K nM x := fun q hq hx hs => by
  rw [h4, h5] at hs
  rw [h6, ps_same h1 h2 h7]
  exact h q hq hx hs
theorem tot_of {J K : II} (h6 : K 531 = J 531) (h8 : K 508 39 = J 508 39) (h9 : K 508 40 = J 508 40) : tot K = tot J := by unfold tot; rw [h6, h8, h9]
theorem RK_of {J K : II} {w : Nat} (h : RK J w) (h1 : K 508 32 = J 508 32) (h2 : K 530 = J 530) (h3 : K 525 = J 525) (h4 : K 527 = J 527) : RK K w := by
  obtain ⟨a, b, d⟩ := h
  exact ⟨h1.trans a, fun k hk => by rw [h2, h3, h4]; exact b k hk, fun q hq => by rw [h3, h4, h2]; exact d q hq⟩
/-- a choice changes the chooser alone -/
theorem RR_ch {c e nC nM w r1 s r : Nat} {m : Int} {I J : II} (h : RR9 c e nC nM w r1 I J) (hsp : e + 31 ≤ c) (hr1 : r1 ≤ 9) (hr : r < 9) : RR9 c e nC nM w r1 (chJ I c e s r m) J := by
  obtain ⟨a1, a2, a3, a4, a5, a6, a7, a8, a9, a10⟩ := h
  refine ⟨EL_of a1 (fun x h1 h2 => chJ_ne (by omega)) rfl, eq_lx a2 (fun a k b j hp => by rw [chJ_ne (pr_14 hr1 hp)]), AX_of a3 (chJ_ne (by omega)) (chJ_ne (by omega)) (chJ_ne (by omega)) rfl rfl rfl rfl rfl, CI_chJ a4 hsp hr, a5, a6, a7, a8, a9, ?_⟩
  rw [chJ_ne (by omega)]
  exact a10
theorem RR_lk {c e nC nM w r1 s r : Nat} {m : Int} {I J : II} (h : RR9 c e nC nM w r1 I J) (hr : r < 9) : RR9 c e nC nM w r1 I (lkM J r s m) := by
  obtain ⟨a1, a2, a3, a4, a5, a6, a7, a8, a9, a10⟩ := h
  have e : ∀ x, x ≠ 508 → lkM J r s m x = J x := fun x hx => lkM_ne hx
  have f : ∀ k, k ≠ 41 → k ≠ 42 → lkM J r s m 508 k = J 508 k := fun k h1 h2 => lkM_f h1 h2
  refine ⟨EL_of a1 (fun x h1 h2 => rfl) (e 509 (by decide)), eq_rx a2 (fun a k b j hp => ?_), AX_of a3 rfl rfl rfl (e _ (by decide)) (e _ (by decide)) (e _ (by decide)) (e _ (by decide)) (e _ (by decide)), a4, MI_lk a5 hr, VA_of a6 (e _ (by decide)) (e _ (by decide)) (e _ (by decide)) (e _ (by decide)) (e _ (by decide)) (e _ (by decide)) (e _ (by decide)) (f _ (by decide) (by decide)) (f _ (by decide) (by decide)), VQ_of a7 (e _ (by decide)) (e _ (by decide)) (e _ (by decide)) (e _ (by decide)) (e _ (by decide)) (e _ (by decide)), ?_, RK_of a9 (f _ (by decide) (by decide)) (e _ (by decide)) (e _ (by decide)) (e _ (by decide)), a10⟩
  · by_cases hb : b = 508
    · subst hb
      have := pr_41 hp rfl
      exact f j this.1 this.2
    · rw [e b hb]
  · rw [tot_of (e _ (by decide)) (f _ (by decide) (by decide)) (f _ (by decide) (by decide)), mPs_s (e _ (by decide))]
    exact a8
theorem nTo {J : II} (h : MI J) : ∃ n : Nat, J 509 0 = (n : Int) ∧ n ≤ 8 ∧ 2 ≤ n := by
  have := h.1.1
  exact ⟨(J 509 0).toNat, by omega, by omega, by omega⟩
/-- the same is found on both sides -/
theorem look_eq {c e nC nM w r s t : Nat} {m : Int} {I J : II} (h : RR9 c e nC nM w (r + 1) I J) (hr : r < 9) (hs : (extF (mVt J r) s m (J 509 0).toNat).1 = (extF (mVt J r) t m (J 509 0).toNat).1) : chq I c e s r m = lkQ J r t m r ∧ chV I c e s r m = lkV J r t m := by
  obtain ⟨a1, a2, a3, a4, a5, a6, a7, a8, a9, a10⟩ := h
  obtain ⟨⟨b1, b2, b3, b4, b5, b6⟩, d1, f1, g1, k1, l1⟩ := a1
  obtain ⟨n, hn, hn8, hn2⟩ := nTo a5
  have hrow : ∀ k, k ≤ r → ∀ q, q < 8 → I (c + 1 + 4 + k) q = mVt J k q := fun k hk q hq => by
    rw [show c + 1 + 4 + k = c + 5 + k by omega]
    exact a2 _ _ _ _ (pr_vr (by omega) hq)
  have hq : chq I c e s r m = lkQ J r t m r := by
    unfold chq lkQ
    rw [b1, f1 2 (by omega)]
    rw [hn, Int.toNat_natCast] at hs ⊢
    refine ch_congr (fun k hk q hq => hrow k hk q (by omega)) ?_ r (Nat.le_refl r)
    rw [ext_congr (f := I (c + 1 + 4 + r)) (g := mVt J r) (n := n) (fun q hq => hrow r (Nat.le_refl r) q (by omega)) s m n (Nat.le_refl n)]
    exact hs
  refine ⟨hq, ?_⟩
  unfold chV lkV
  rw [hq, b1, hn, Int.toNat_natCast]
  rw [lot_lk (fun k hk => by rw [d1 k (by omega)]; exact (a5.1.2.2.2.2.2.2.1 k (by omega)).1)]
  exact lk_congr n fun k hk => d1 k (by omega)
/-- who is found is of the set -/
theorem look_in {J : II} {r t : Nat} {m : Int} (h : MI J) (hv : 0 ≤ lkV J r t m) : ∃ q : Nat, lkV J r t m = (q : Int) ∧ (q : Int) < J 509 0 ∧ q < 8 ∧ btI t q = 1 := by
  obtain ⟨n, hn, hn8, hn2⟩ := nTo h
  unfold lkV at hv ⊢
  rw [hn, Int.toNat_natCast] at hv ⊢
  rcases lk_in (f := fun k => J 509 (7 + k)) (s := (lkQ J r t m r).1) (m := m) n (fun k hk => (h.1.2.2.2.2.2.2.1 k (by omega)).1) with e | ⟨k, k1, k2, k3⟩
  · omega
  · have h6 := h.1.2.2.2.2.2.2.1 k (by omega)
    have hsub := (ch_sub (F := mVt J) (n := n) (r := r) (tr := J 509 5) (m := m) (s := t) hn8 r).2 (J 509 (7 + k)).toNat (by omega)
    unfold lkQ at k3
    rw [hn, Int.toNat_natCast] at k3
    have h7 := hsub k3
    exact ⟨(J 509 (7 + k)).toNat, by rw [k2]; omega, by omega, by omega, h7.2⟩
theorem look_some {J : II} {I : II} {e nC nM : Nat} {r t : Nat} {m : Int} (h : MI J) (hE : EL I e J nC nM) {c0 : Nat} (h0 : (c0 : Int) < J 509 0) (hb : btI t c0 = 1) : 0 ≤ lkV J r t m := by
  obtain ⟨n, hn, hn8, hn2⟩ := nTo h
  obtain ⟨-, -, -, -, -, l1⟩ := hE
  unfold lkV
  have hs := ch_sub (F := mVt J) (n := n) (r := r) (tr := J 509 5) (m := m) (s := t) hn8 r
  have hne := ch_ne (F := mVt J) (n := n) (r := r) (tr := J 509 5) (m := m) (s := t) hn8 (c0 := c0) (by omega) hb r
  obtain ⟨c1, k1, k2⟩ := bt_one hs.1 hne
  obtain ⟨k, m1, m2⟩ := l1 c1 (by have := (hs.2 c1 k1 k2).1; omega)
  unfold lkQ
  rw [hn, Int.toNat_natCast]
  refine lk_some n (fun j hj => (h.1.2.2.2.2.2.2.1 j (by omega)).1) ⟨k, by omega, ?_⟩
  rw [m2, Int.toNat_natCast]
  exact k2
theorem elM_eq {A : II} {c q r w : Nat} {rs : Int} (hw : A (c + 1) 1 = (w : Int)) (hw8 : w < 8) : elM A c q r rs = up (up (up (up (up (up (up (up A (c + 3) q 1) (c + 16) q (r : Int)) (c + 17) q rs) (c + 2) w (q : Int)) (c + 1) 1 ((w : Int) + 1)) (c + 26) r ((A (c + 26) r).toNat ||| 2 ^ q : Nat)) c 10 (clr (A c 10).toNat q : Nat)) c 11 ((A c 11).toNat ||| 2 ^ q : Nat) := by
  unfold elM elI2
  rw [hw, if_pos (by omega), Int.toNat_natCast]
  rw [up_comm (a := c + 1) (b := c + 1 + 2) (by omega), up_comm (a := c + 1) (b := c + 15 + 1) (by omega), up_comm (a := c + 1) (b := c + 15 + 2) (by omega), up_comm (a := c + 1 + 1) (b := c + 1 + 2) (by omega), up_comm (a := c + 1 + 1) (b := c + 15 + 1) (by omega), up_comm (a := c + 1 + 1) (b := c + 15 + 2) (by omega)]
/-- a seat on both sides -/
theorem el_sim {c e nC nM w r q s : Nat} {rs : Int} {I J : II} (h : RR9 c e nC nM w (r + 1) I J) (hi : RIn c r I J) (hsp : e + 31 ≤ c) (hr : r < 9) (hq : q < 8) (hst : J 525 q = 0) (hw8 : w < 8) (hrs : 0 ≤ rs ∧ rs ≤ 5) : RR9 c e nC nM (w + 1) (r + 1) (elM I c q r rs) (emM J r s rs q) ∧ RIn c r (elM I c q r rs) (emM J r s rs q) ∧ pop8 (elM I c q r rs c 10).toNat + 1 = pop8 (I c 10).toNat ∧ pop8 (elM I c q r rs c 11).toNat = pop8 (I c 11).toNat + 1 := by
  have hB := RR_lk (s := s) (m := 1) h hr
  obtain ⟨a1, a2, a3, a4, a5, a6, a7, a8, a9, a10⟩ := h
  obtain ⟨-, q2, -⟩ := hB
  obtain ⟨i1, i2, i3⟩ := hi
  obtain ⟨j1, j2, j3⟩ := a9
  obtain ⟨x1, x2, x3⟩ := a3
  obtain ⟨v1, v2, v3, v4, v5⟩ := a6
  have hw : I (c + 1) 1 = (w : Int) := (a2 _ _ _ _ pr_ec).trans j1
  have h26 : I (c + 26) r = J 522 r := a2 _ _ _ _ (pr_lg (i := 6) (by omega) (by omega))
  have hc26 : 0 ≤ I (c + 26) r ∧ I (c + 26) r < 256 := a4.2.2.2.2.2.2 r
  have hnC : nC ≤ 25 := by have := a1.1; omega
  have h10 := a4.2.2.1
  have h11 := a4.2.2.2.1
  have hhb := x1 q hq
  rw [if_pos hst] at hhb
  have hub := x2 q hq
  rw [if_neg (fun g => by omega)] at hub
  have hp1 := pop_clr (I c 10).toNat (by omega) q hq hhb
  have hp2 := pop_or (I c 11).toNat (by omega) q hq hub
  have hcl := clr_lt (I c 10).toNat (by omega) q hq
  have hor := or_lt (I c 11).toNat (by omega) q hq
  have hE : emM J r s rs q = up (up (up (up (up (up (up (lkM J r s 1) 525 q 1) 526 q (r : Int)) 527 q (w : Int)) 528 q rs) 530 w (q : Int)) 508 32 ((w : Int) + 1)) 522 r ((J 522 r).toNat ||| 2 ^ q : Nat) := by
    unfold emM
    rw [j1, Int.toNat_natCast]
  have e10 : elM I c q r rs c 10 = (clr (I c 10).toNat q : Nat) := by rw [elM_eq hw hw8, up_nk (by omega), up_eq]
  have e11 : elM I c q r rs c 11 = ((I c 11).toNat ||| 2 ^ q : Nat) := by rw [elM_eq hw hw8, up_eq]
  have e13 : elM I c q r rs c 13 = I c 13 := by rw [elM_eq hw hw8, up_nk (by omega), up_nk (by omega), up_ne (by omega), up_ne (by omega), up_ne (by omega), up_ne (by omega), up_ne (by omega), up_ne (by omega)]
  have ex : ∀ x, x = c + 49 ∨ x = c + 50 → elM I c q r rs x = I x := fun x hx => by rw [elM_eq hw hw8, up_ne (by omega), up_ne (by omega), up_ne (by omega), up_ne (by omega), up_ne (by omega), up_ne (by omega), up_ne (by omega), up_ne (by omega)]
  have m : ∀ x, x ≠ 508 → x ≠ 525 → x ≠ 526 → x ≠ 527 → x ≠ 528 → x ≠ 530 → x ≠ 522 → emM J r s rs q x = J x := fun x h1 h2 h3 h4 h5 h6 h7 => em_e h1 h2 h3 h4 h5 h6 h7
  have m525 : ∀ k, emM J r s rs q 525 k = if k = q then 1 else J 525 k := fun k => by
    rw [hE, up_ne (by omega), up_ne (by omega), up_ne (by omega), up_ne (by omega), up_ne (by omega), up_ne (by omega)]
    by_cases g : k = q
    · subst g; rw [up_eq, if_pos rfl]
    · rw [up_nk g, if_neg g, lkM_ne (by omega)]
  have m527 : ∀ k, emM J r s rs q 527 k = if k = q then (w : Int) else J 527 k := fun k => by
    rw [hE, up_ne (by omega), up_ne (by omega), up_ne (by omega), up_ne (by omega)]
    by_cases g : k = q
    · subst g; rw [up_eq, if_pos rfl]
    · rw [up_nk g, if_neg g, up_ne (by omega), up_ne (by omega), lkM_ne (by omega)]
  have m530 : ∀ k, emM J r s rs q 530 k = if k = w then (q : Int) else J 530 k := fun k => by
    rw [hE, up_ne (by omega), up_ne (by omega)]
    by_cases g : k = w
    · subst g; rw [up_eq, if_pos rfl]
    · rw [up_nk g, if_neg g, up_ne (by omega), up_ne (by omega), up_ne (by omega), up_ne (by omega), lkM_ne (by omega)]
  have m32 : emM J r s rs q 508 32 = (w : Int) + 1 := by rw [hE, up_ne (by omega), up_eq]
  have mf : ∀ k, k ≠ 32 → k ≠ 41 → k ≠ 42 → emM J r s rs q 508 k = J 508 k := fun k h1 h2 h3 => by
    rw [hE, up_ne (by omega), up_nk h1, up_ne (by omega), up_ne (by omega), up_ne (by omega), up_ne (by omega), up_ne (by omega)]
    exact lkM_f h2 h3
  have m509 := m 509 (by decide) (by decide) (by decide) (by decide) (by decide) (by decide) (by decide)
  have m531 := m 531 (by decide) (by decide) (by decide) (by decide) (by decide) (by decide) (by decide)
  have m532 := m 532 (by decide) (by decide) (by decide) (by decide) (by decide) (by decide) (by decide)
  have m533 := m 533 (by decide) (by decide) (by decide) (by decide) (by decide) (by decide) (by decide)
  have m534 := m 534 (by decide) (by decide) (by decide) (by decide) (by decide) (by decide) (by decide)
  have m535 := m 535 (by decide) (by decide) (by decide) (by decide) (by decide) (by decide) (by decide)
  have m536 := m 536 (by decide) (by decide) (by decide) (by decide) (by decide) (by decide) (by decide)
  have m515 := m 515 (by decide) (by decide) (by decide) (by decide) (by decide) (by decide) (by decide)
  have m516 := m 516 (by decide) (by decide) (by decide) (by decide) (by decide) (by decide) (by decide)
  refine ⟨⟨EL_of a1 (fun x h1 h2 => elM_e (by omega)) m509, ?_, ⟨fun k hk => ?_, fun k hk => ?_, fun p hp hn => ?_⟩, CI_el a4 hsp hq hr (by omega), MI_em a5 hr hq hrs (by omega) (by omega), ⟨by rw [m535]; exact v1, fun p hp => by rw [m533, m534, ml_of m509]; exact v2 p hp, fun k hk => ?_, by rw [mf 39 (by decide) (by decide) (by decide)]; exact v4, by rw [mf 40 (by decide) (by decide) (by decide)]; exact v5⟩, fun k hk hx hs => ?_, ?_, ⟨?_, fun k hk => ?_, fun k hk => ?_⟩, ?_⟩, ⟨fun k hk => by rw [m515, m531]; exact i1 k hk, by rw [e13, m516]; exact i2, by rw [mf 15 (by decide) (by decide) (by decide)]; exact i3⟩, ?_, ?_⟩
  · rw [elM_eq hw hw8, hE]
    refine eq_l (eq_l (eq_upv (eq_up (eq_w (eq_up (eq_r (eq_up (eq_up q2 (by omega) (by omega) (pr_st hq)) (by omega) (by omega) (pr_rd hq)) (pn_r (by omega))) (by omega) (by omega) (pr_rs hq)) (by omega) hw8) (by omega) (by omega) pr_ec) (by omega) (by omega) (pr_lg (i := 6) (by omega) (by omega)) ?_) (pn_l (by omega) (by omega))) (pn_l (by omega) (by omega))
    rw [h26]
  · rw [e10, Int.toNat_natCast, bt_clr (I c 10).toNat (by omega) q hq k hk, m525]
    by_cases g : k = q
    · rw [if_pos g, if_pos g, if_neg (by decide)]
    · rw [if_neg g, if_neg g]; exact x1 k hk
  · rw [e11, Int.toNat_natCast, bt_or (I c 11).toNat (by omega) q hq k hk, m525, m532]
    by_cases g : k = q
    · rw [if_pos g, if_pos g, if_pos ⟨rfl, by rw [g]; exact (v3 q hq).2.2.1 (by omega)⟩]
    · rw [if_neg g, if_neg g]; exact x2 k hk
  · rw [m533] at hn
    rw [ex _ (Or.inl rfl), ex _ (Or.inr rfl), m534, m536]
    exact x3 p hp hn
  · rw [m525, m532, m509, m531]
    obtain ⟨z1, z2, z3, z4⟩ := v3 k hk
    by_cases g : k = q
    · rw [if_pos g]
      refine ⟨by omega, fun g2 => ?_, fun g2 => (g2 rfl).elim, z4⟩
      have := z2 g2
      rw [g] at this
      omega
    · rw [if_neg g]; exact ⟨z1, z2, z3, z4⟩
  · rw [m525, m532] at hs
    rw [m531, ps_same m535 m533 m509]
    refine a7 k hk hx ?_
    by_cases g : k = q
    · rw [g]; exact Or.inl hst
    · rw [if_neg g] at hs; exact hs
  · rw [tot_of m531 (mf 39 (by decide) (by decide) (by decide)) (mf 40 (by decide) (by decide) (by decide)), mPs_s m509]
    exact a8
  · rw [m32]; omega
  · rw [m530]
    by_cases g : k = w
    · rw [if_pos g, Int.toNat_natCast, m525, if_pos rfl, m527, if_pos rfl]
      exact ⟨by omega, by omega, rfl, by omega⟩
    · rw [if_neg g]
      obtain ⟨z1, z2, z3, z4⟩ := j2 k (by omega)
      have hne : ¬ (J 530 k).toNat = q := fun g2 => by rw [g2] at z3; omega
      rw [m525, if_neg hne, m527, if_neg hne]
      exact ⟨z1, z2, z3, z4⟩
  · rw [m525, m527]
    by_cases g : k = q
    · rw [if_pos g, if_pos g]
      refine ⟨fun g2 => (g2 rfl).elim, fun _ => ⟨by omega, by omega, ?_⟩⟩
      rw [Int.toNat_natCast, m530, if_pos rfl, g]
    · rw [if_neg g, if_neg g]
      refine ⟨(j3 k hk).1, fun g2 => ?_⟩
      obtain ⟨z1, z2, z3⟩ := (j3 k hk).2 g2
      refine ⟨z1, by omega, ?_⟩
      rw [m530, if_neg (by omega)]
      exact z3
  · rw [e10, Int.toNat_natCast]; omega
  · rw [e10, Int.toNat_natCast]; exact hp1
  · rw [e11, Int.toNat_natCast]; exact hp2
