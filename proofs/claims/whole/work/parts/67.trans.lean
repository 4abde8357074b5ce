/-! SIMULATION: transfers -/
theorem BB_w {c e nC nM w r1 q p : Nat} {z : Int} {I J : II} (hB : BB c e nC nM w r1 q I J) (hsp : e + 31 ≤ c) (hr1 : r1 ≤ 9) (hp : p < nM) (hh : J 533 p = (q : Int)) (hz : 0 ≤ z ∧ z ≤ 10000) : (p < nC → BB c e nC nM w r1 q (up I (c + 51) p z) (up J 535 p z)) ∧ (nC ≤ p → BB c e nC nM w r1 q I (up J 535 p z)) := by
  obtain ⟨a1, a2, a3, a4, a5, a6, a7, a8⟩ := hB
  have hnn := a1.1
  have m : ∀ x, x ≠ 535 → up J 535 p z x = J x := fun x hx => up_ne hx
  have m509 := m 509 (by decide)
  have hM : MI (up J 535 p z) := MI_up a5 (by decide) (by omega)
  have hA : VA (up J 535 p z) nM := by
    obtain ⟨v1, v2, v3, v4, v5⟩ := a6
    refine ⟨fun i hi => ?_, fun i hi => by rw [m 533 (by decide), m 534 (by decide), ml_of m509]; exact v2 i hi, fun k hk => by rw [m 525 (by decide), m 532 (by decide), m 531 (by decide), m509]; exact v3 k hk, by rw [m 508 (by decide)]; exact v4, by rw [m 508 (by decide)]; exact v5⟩
    by_cases g : i = p
    · rw [g, up_eq]; exact hz
    · rw [up_nk g]; exact v1 i hi
  have hV : VQ (up J 535 p z) nM q := fun k hk hx hs => by
    rw [m 525 (by decide), m 532 (by decide)] at hs
    rw [m 531 (by decide), a7 k hk hx hs, ps_set (J := J) (K := up J 535 p z) (p := p) nM hp (fun i hi hne => ⟨by rw [m 533 (by decide)], by rw [ms_of m509, up_nk hne]⟩), m 533 (by decide), hh, if_neg (by omega), if_neg (by omega)]
    omega
  have hR : RK (up J 535 p z) w := RK_of a8 (by rw [m 508 (by decide)]) (m 530 (by decide)) (m 525 (by decide)) (m 527 (by decide))
  refine ⟨fun hpn => ⟨EL_of a1 (fun x h1 h2 => up_ne (by omega)) m509, eq_up a2 hr1 (by omega) (pr_wo hpn), AX_of a3 (up_ne (by omega)) (up_ne (by omega)) (up_ne (by omega)) (m 525 (by decide)) (m 532 (by decide)) (m 533 (by decide)) (m 534 (by decide)) (m 536 (by decide)), CI_far a4 hsp (by omega) (by omega) (by omega) (by omega) (by omega), hM, hA, hV, hR⟩, fun hpn => ⟨EL_of a1 (fun x h1 h2 => rfl) m509, eq_r a2 (fun a k h => ?_), AX_of a3 rfl rfl rfl (m 525 (by decide)) (m 532 (by decide)) (m 533 (by decide)) (m 534 (by decide)) (m 536 (by decide)), a4, hM, hA, hV, hR⟩⟩
  unfold PRc at h
  rcases h with h | h | h | h | h | h | h | h | h <;> omega
def TV (c e nC nM w r q : Nat) (I0 J0 : II) (la al su : Int) (p : Nat) (Ic Km : II) (u : Int) : Prop :=
  BB c e nC nM w (r + 1) q Ic Km ∧ tot Km = 10000 * mPs J0 + u ∧ (Ic c 10 = I0 c 10 ∧ Ic c 11 = I0 c 11 ∧ Ic c 13 = I0 c 13) ∧ (Km 531 q = J0 531 q ∧ Km 525 = J0 525 ∧ Km 532 = J0 532 ∧ Km 509 = J0 509 ∧ Km 516 = J0 516 ∧ Km 508 40 = J0 508 40 ∧ Km 508 15 = J0 508 15) ∧ (∀ i, p ≤ i → Km 533 i = J0 533 i ∧ Km 535 i = J0 535 i ∧ Km 536 i = J0 536 i ∧ Km 534 i = J0 534 i) ∧ 0 ≤ u ∧ u ≤ alF J0 q la p ∧ al * u ≤ su * alF J0 q la p ∧ (al = 0 → u = 0)
theorem io_of {J K : II} {p : Nat} {q la : Int} (h1 : K 533 p = J 533 p) (h2 : K 536 p = J 536 p) (h3 : K 509 = J 509) : ioF K p q la = ioF J p q la := by
  unfold ioF
  rw [h1, h2, h3]
theorem PA_of {J K : II} {pa la : Int} (h : PA J pa la) (h3 : K 509 = J 509) : PA K pa la := by
  unfold PA at h ⊢
  rw [h3]
  exact h
theorem acc_ok {al su a u s w x : Int} (h1 : al * u ≤ su * a) (h2 : al * x ≤ su * w) (hs : 0 ≤ s) : al * (u + s * x) ≤ su * (a + s * w) := by
  have e1 : al * (u + s * x) = al * u + s * (al * x) := by rw [Int.mul_add, Int.mul_left_comm]
  have e2 : su * (a + s * w) = su * a + s * (su * w) := by rw [Int.mul_add, Int.mul_left_comm]
  have := Int.mul_le_mul_of_nonneg_left h2 hs
  omega
theorem ts_sim {c e nC nM w r q : Nat} {I0 J0 : II} {pa la al su : Int} (hsp : e + 31 ≤ c) (hr : r < 9) (hq : q < 8) (hst : J0 525 q = 1) (hP : PA J0 pa la) (hsu : 0 ≤ su) (hal : 0 ≤ al) (hm0 : MI J0) (hv0 : ∀ p, p < nM → 0 ≤ J0 535 p ∧ J0 535 p ≤ 10000) : ∀ (k p : Nat) (Km : II) (u : Int), p + k = nM → TV c e nC nM w r q I0 J0 la al su p (tsF c e r q pa su al I0 (min p nC)).1 Km u → (tsF c e r q pa su al I0 (min p nC)).2 = u →
    ∃ (K2 : II) (u2 : Int), tfL r q la su al k p Km u = some (K2, u2) ∧ TV c e nC nM w r q I0 J0 la al su nM (tsF c e r q pa su al I0 nC).1 K2 u2 ∧ (tsF c e r q pa su al I0 nC).2 = u2
  | 0, p, Km, u, hk, h, hu => by
    obtain rfl : p = nM := by omega
    have hnn := h.1.1.1
    rw [show min p nC = nC by omega] at h hu
    exact ⟨Km, u, rfl, h, hu⟩
  | k + 1, p, Km, u, hk, h, hu => by
    obtain ⟨hB, h2, h3, ⟨f1, f2, f3, f4, f5, f6, f7⟩, h5, h6, h7, h8, h9⟩ := id h
    have hnn := hB.1.1
    obtain ⟨p1, p2, p3, p4⟩ := h5 p (Nat.le_refl p)
    have hio : ioF Km p q la = ioF J0 p q la := io_of p1 p3 f4
    have h01 := ioF_01 J0 p q la
    have hexA : alF J0 q la (p + 1) = if ioF J0 p q la = 0 then alF J0 q la p else alF J0 q la p + mSz J0 p * J0 535 p := rfl
    have hmp := un_b (hm0.1.2.2.2.1 p (by omega)) (hv0 p (by omega))
    have hsz := hm0.1.2.2.2.1 p (by omega)
    have hps := al_b (q := (q : Int)) (la := la) hm0.1 p (by omega) (fun i hi => hv0 i (by omega))
    have hpp := sumTo_b (f := mSz J0) (n := (J0 509 1).toNat) (fun i hi => hm0.1.2.2.2.1 i (by have := hm0.1.2.1; omega)) (J0 509 1).toNat (Nat.le_refl _)
    have hpm : mPs J0 = sumTo (mSz J0) (J0 509 1).toNat := rfl
    have hj1 := hm0.1.2.1
    unfold tfL
    rw [hio]
    by_cases h0 : ioF J0 p q la = 0
    · rw [if_pos h0]
      rw [if_pos h0] at hexA
      have e1 : tsF c e r q pa su al I0 (min (p + 1) nC) = tsF c e r q pa su al I0 (min p nC) := by
        by_cases g : p < nC
        · rw [show min (p + 1) nC = p + 1 by omega, show min p nC = p by omega]
          rw [show min p nC = p by omega] at hB
          have hip : ipF (tsF c e r q pa su al I0 p).1 c p q pa = 0 := by
            rw [ip_io hB.2.1 hB.2.2.1 (PA_of hP f4) g (by omega), hio]; exact h0
          show (if ipF (tsF c e r q pa su al I0 p).1 c p q pa = 0 then _ else _) = _
          rw [if_pos hip]
        · rw [show min (p + 1) nC = nC by omega, show min p nC = nC by omega]
      refine ts_sim hsp hr hq hst hP hsu hal hm0 hv0 k (p + 1) Km u (by omega) ?_ (by rw [e1]; exact hu)
      rw [e1]
      exact ⟨hB, h2, h3, ⟨f1, f2, f3, f4, f5, f6, f7⟩, fun i hi => h5 i (by omega), h6, by rw [hexA]; exact h7, by rw [hexA]; exact h8, h9⟩
    · rw [if_neg h0]
      rw [if_neg h0] at hexA
      have hh : J0 533 p = (q : Int) := by
        by_cases g : J0 533 p = (q : Int)
        · exact g
        · exact (h0 (if_neg (fun k => g k.1))).elim
      have hhK : Km 533 p = (q : Int) := by rw [p1]; exact hh
      have hv2 := (hB.2.2.2.2.2.1.2.1 p (by omega)).2.2 (by omega)
      have hw4 := hB.2.2.2.2.1.1.2.2.2.2.1 p (by omega)
      obtain ⟨t1, t2, t3, t4, t5⟩ := tn_ok (w := Km 535 p) (su := su) (al := al) (by rw [p2]; exact hv0 p (by omega)) hsu hal
      rw [if_pos (show -1 ≤ Km 534 p ∧ Km 534 p ≤ 8 by omega)]
      have hw0 := hv0 p (by omega)
      obtain ⟨b1, b2⟩ := BB_w (z := tnF (Km 535 p) su al) hB hsp (by omega) (show p < nM by omega) hhK (by omega)
      have hS : tfS Km p su al = up Km 535 p (tnF (Km 535 p) su al) := rfl
      have s534 : tfS Km p su al 534 = Km 534 := by rw [hS]; exact up_ne (by decide)
      have sx : ∀ x, x ≠ 535 → tfS Km p su al x = Km x := fun x hx => by rw [hS]; exact up_ne hx
      have stot : tot (tfS Km p su al) = tot Km := tot_of (sx 531 (by decide)) (by rw [sx 508 (by decide)]) (by rw [sx 508 (by decide)])
      have sms : mSz (tfS Km p su al) p = mSz J0 p := by rw [ms_of (sx 509 (by decide)), ms_of f4]
      have s535 : tfS Km p su al 535 p = tnF (Km 535 p) su al := by rw [hS, up_eq]
      have hun := un_b (w := tnF (Km 535 p) su al) hsz (by omega)
      have hule : mSz J0 p * tnF (Km 535 p) su al ≤ mSz J0 p * J0 535 p := Int.mul_le_mul_of_nonneg_left (by rw [← p2]; exact t3) hsz.1
      have hT : tot (tfS Km p su al) ≤ 60000000 := by rw [stot]; omega
      have hstK : ¬ tfS Km p su al 525 q = 0 := by rw [sx 525 (by decide), f2]; omega
      have hhS : tfS Km p su al 533 p = (q : Int) := by rw [sx 533 (by decide)]; exact hhK
      have hacc : al * (u + mSz J0 p * tnF (Km 535 p) su al) ≤ su * (alF J0 q la p + mSz J0 p * J0 535 p) := acc_ok h8 (by rw [← p2]; exact t4) hsz.1
      rw [ms_of f4 p]
      by_cases g : p < nC
      · rw [show min p nC = p by omega] at hB b1 hu h3
        have hip : ¬ ipF (tsF c e r q pa su al I0 p).1 c p q pa = 0 := by
          rw [ip_io hB.2.1 hB.2.2.1 (PA_of hP f4) g (by omega), hio]; exact h0
        have hJc : tsJ c p su al (tsF c e r q pa su al I0 p).1 = up (tsF c e r q pa su al I0 p).1 (c + 51) p (tnF (Km 535 p) su al) := by
          unfold tsJ
          rw [hB.2.1 _ _ _ _ (pr_wo g), t1]
        have e1 : tsF c e r q pa su al I0 (min (p + 1) nC) = (sendM (tsJ c p su al (tsF c e r q pa su al I0 p).1) c e p r, (tsF c e r q pa su al I0 p).2 + unitsF (tsJ c p su al (tsF c e r q pa su al I0 p).1) c e p) := by
          rw [show min (p + 1) nC = p + 1 by omega]
          show (if ipF (tsF c e r q pa su al I0 p).1 c p q pa = 0 then _ else _) = _
          rw [if_neg hip]
        have b3 := b1 g
        rw [← hJc, ← hS] at b3
        obtain ⟨g1, g2, g3, g4, g5, g6, g7⟩ := go_step b3 hsp (by omega) hr g hq hhS hstK hT
        rw [s534] at g1 g2 g5
        rw [sms, s535] at g2 g6
        rw [stot] at g2
        obtain ⟨r1, r2, r3, r4⟩ := g5
        refine ts_sim hsp hr hq hst hP hsu hal hm0 hv0 k (p + 1) _ _ (by omega) ?_ (by rw [e1, g6, hu])
        rw [e1]
        refine ⟨g1, by omega, ⟨?_, ?_, ?_⟩, ⟨?_, ?_, ?_, ?_, ?_, ?_, ?_⟩, fun i hi => ?_, by omega, by rw [hexA]; omega, by rw [hexA]; exact hacc, fun hz => ?_⟩
        · dsimp only
          rw [sendM_f (by omega), hJc, up_ne (by omega)]; exact h3.1
        · dsimp only
          rw [sendM_f (by omega), hJc, up_ne (by omega)]; exact h3.2.1
        · dsimp only
          rw [sendM_f (by omega), hJc, up_ne (by omega)]; exact h3.2.2
        · rw [r3, sx 531 (by decide)]; exact f1
        · rw [r1 525 (by decide) (by decide) (by decide) (by decide) (by decide), sx 525 (by decide)]; exact f2
        · rw [r1 532 (by decide) (by decide) (by decide) (by decide) (by decide), sx 532 (by decide)]; exact f3
        · rw [r1 509 (by decide) (by decide) (by decide) (by decide) (by decide), sx 509 (by decide)]; exact f4
        · rw [r1 516 (by decide) (by decide) (by decide) (by decide) (by decide), sx 516 (by decide)]; exact f5
        · rw [r2 40 (by decide), sx 508 (by decide)]; exact f6
        · rw [r2 15 (by decide), sx 508 (by decide)]; exact f7
        · obtain ⟨y1, y2, y3⟩ := r4 i (by omega)
          obtain ⟨y4, y5, y6, y7⟩ := h5 i (by omega)
          refine ⟨by rw [y1, sx 533 (by decide)]; exact y4, ?_, by rw [y3, sx 536 (by decide)]; exact y6, by rw [y2, sx 534 (by decide)]; exact y7⟩
          rw [r1 535 (by decide) (by decide) (by decide) (by decide) (by decide), hS, up_nk (by omega)]
          exact y5
        · rw [h9 hz, t5 hz, Int.mul_zero]; rfl
      · have e1 : tsF c e r q pa su al I0 (min (p + 1) nC) = tsF c e r q pa su al I0 (min p nC) := by
          rw [show min (p + 1) nC = nC by omega, show min p nC = nC by omega]
        have b3 := b2 (by omega)
        rw [← hS] at b3
        obtain ⟨g1, g2, g3, g4, g5, g6, g7⟩ := go_stepx b3 (by omega) hr (show nC ≤ p by omega) (by omega) hq hhS hstK hT
        rw [s534] at g1 g2 g5
        rw [stot] at g2
        rw [sms] at g6
        rw [g6, Int.zero_mul, Int.add_zero] at hexA hacc ⊢
        obtain ⟨r1, r2, r3, r4⟩ := g5
        refine ts_sim hsp hr hq hst hP hsu hal hm0 hv0 k (p + 1) _ _ (by omega) ?_ (by rw [e1, hu])
        rw [e1]
        refine ⟨g1, by omega, h3, ⟨?_, ?_, ?_, ?_, ?_, ?_, ?_⟩, fun i hi => ?_, by omega, by rw [hexA]; omega, by rw [hexA]; exact h8, h9⟩
        · rw [r3, sx 531 (by decide)]; exact f1
        · rw [r1 525 (by decide) (by decide) (by decide) (by decide) (by decide), sx 525 (by decide)]; exact f2
        · rw [r1 532 (by decide) (by decide) (by decide) (by decide) (by decide), sx 532 (by decide)]; exact f3
        · rw [r1 509 (by decide) (by decide) (by decide) (by decide) (by decide), sx 509 (by decide)]; exact f4
        · rw [r1 516 (by decide) (by decide) (by decide) (by decide) (by decide), sx 516 (by decide)]; exact f5
        · rw [r2 40 (by decide), sx 508 (by decide)]; exact f6
        · rw [r2 15 (by decide), sx 508 (by decide)]; exact f7
        · obtain ⟨y1, y2, y3⟩ := r4 i (by omega)
          obtain ⟨y4, y5, y6, y7⟩ := h5 i (by omega)
          refine ⟨by rw [y1, sx 533 (by decide)]; exact y4, ?_, by rw [y3, sx 536 (by decide)]; exact y6, by rw [y2, sx 534 (by decide)]; exact y7⟩
          rw [r1 535 (by decide) (by decide) (by decide) (by decide) (by decide), hS, up_nk (by omega)]
          exact y5
