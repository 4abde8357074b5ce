/-! SIMULATION: the commands -/
theorem TT_of {I I2 J J2 : II} {t : Nat} (h : TT I t J) (h1 : TX J2) (h2 : TI I2 t) (h3 : I2 t = I t) (h4 : I2 (t + 1) = I (t + 1)) (h5 : J2 508 = J 508) (h6 : J2 513 = J 513) : TT I2 t J2 := by
  obtain ⟨a1, a2, a3, a4, a5, a6⟩ := h
  exact ⟨h1, by rw [h5]; exact a2, h2, by rw [h3, h5]; exact a4, by rw [h3, h5]; exact a5, fun k hk => by rw [h4, h6]; exact a6 k hk⟩
def CMO (t e : Nat) (J : II) (R : Int × II) (K : II) : Prop := (R.1 = 0 ∧ WR (R.2 t 5) K) ∨ (R.1 = 1 ∧ TT R.2 t K ∧ WfT R.2 e ∧ (∃ n : Nat, n ≤ 24 ∧ EL R.2 e K n n) ∧ J 508 9 < K 508 9)
theorem WR_ne {z : Int} {K : II} (h : WR z K) : ¬ K 508 10 = 0 := by rw [h.2.1]; decide
theorem rl_1 {C : II} (h : C 508 10 = 0 → 1 ≤ C 508 13) : rlX 1 C = C := by
  unfold rlX
  exact if_neg (fun g => by have := h g.1; omega)
theorem rpE_8 {K : II} {z : Int} {x : Nat} (hx : x ≠ 509) : rpE K z x = K x := by
  unfold rpE srM
  rw [up_ne hx, cpy_ne hx, up_ne hx, up_ne hx]
theorem sr_8 {K : II} {p x : Nat} (hx : x ≠ 509) : srM K p x = K x := by
  unfold srM
  rw [cpy_ne hx, up_ne hx]
theorem ad_sim {I J : II} {t e n : Nat} (het : e + 31 ≤ t) (h : TT I t J) (hW : WfT I e) (hE : EL I e J n n) : ∃ K, rpO J = some K ∧ CMO t e J (adR I t e) K := by
  suffices key : ∃ K, rpO J = some K ∧ (CO t e (adR I t e) → TX K → CMO t e J (adR I t e) K) by
    obtain ⟨K, k1, k2⟩ := key
    exact ⟨K, k1, k2 (ad_ok het hW h.2.2.1) (TX_rp h.1 k1)⟩
  have h0 := h
  obtain ⟨a1, a2, a3, a4, a5, a6⟩ := h
  have p9 := a1.2.1
  have e3 := hE.1.2.2.1
  have e4 := hE.1.2.2.2.1
  have w24 := hW.2
  have hNr := nb_rng I t
  unfold adR
  by_cases g1 : 24 ≤ I e 4
  · rw [if_pos g1]
    have hw := WR_wg (w := J 508 9) a1 a2 (by omega)
    have eA : rpA J = wgM J (J 508 9) := if_pos (by omega)
    obtain ⟨c1, c2⟩ := WR_rr hw
    have eB : rpB J = wgM J (J 508 9) := by unfold rpB; rw [eA, WR_nu hw, WR_wt hw]
    refine ⟨_, by unfold rpO; rw [eB, c1]; rfl, fun _ _ => Or.inl ⟨rfl, ?_⟩⟩
    dsimp only
    rw [WR_wt c2, if_neg (WR_ne c2)]
    show WR (fl I t t 5) _
    rw [fl_5, a4]
    exact c2
  · rw [if_neg g1]
    have eA : rpA J = J := if_neg (by omega)
    unfold rpO
    rw [eA]
    have eB : rpB J = wtM (nuR J).2 58 := by unfold rpB; rw [eA]
    rw [eB]
    have hNe : ∀ x, x ≠ t → (nbR I t).2 x = I x := fun x hx => nb_e hx
    have hx9 : (nuR J).2 509 = J 509 := nu_s (by decide)
    rcases nb_sim h0 with ⟨n1, n2⟩ | ⟨n1, n2, n3, n4⟩
    · obtain ⟨c1, c2⟩ := WR_rr n2
      rw [WR_wt n2, c1]
      refine ⟨_, rfl, fun _ _ => Or.inl ?_⟩
      dsimp only
      unfold ad1
      rw [if_pos n1, WR_wt c2, if_neg (WR_ne c2)]
      exact ⟨rfl, c2⟩
    · generalize nbR I t = N at n1 n2 n3 n4 hNe hNr ⊢
      generalize nuR J = M at n2 n3 n4 hx9 ⊢
      unfold ad1
      rw [if_neg (by omega)]
      have hPe : ∀ x, x ≠ t → (paR N.2 t 58).2 x = I x := fun x hx => (pa_e hx).trans (hNe x hx)
      have hy9 : wtM M.2 58 509 = J 509 := (wt_s (by decide)).trans hx9
      rcases pa_sim n3 (show (0 : Int) < 58 by decide) with ⟨q1, q2⟩ | ⟨q1, q2, q3⟩
      · obtain ⟨c1, c2⟩ := WR_rr q2
        rw [c1]
        refine ⟨_, rfl, fun _ _ => Or.inl ?_⟩
        dsimp only
        unfold ad2
        rw [if_pos q1, WR_wt c2, if_neg (WR_ne c2)]
        exact ⟨rfl, c2⟩
      · generalize paR N.2 t 58 = P at q1 q2 hPe ⊢
        generalize wtM M.2 58 = B at q2 q3 hy9 ⊢
        unfold ad2
        rw [if_neg (by omega)]
        have hP0 : P.2 e 0 = J 509 0 := by rw [hPe e (by omega)]; exact hE.1.1
        have hj0 := a1.1.1.1
        obtain ⟨nc, hnc⟩ := Int.eq_ofNat_of_zero_le (show 0 ≤ J 509 0 by omega)
        obtain ⟨C, c1, c2, c3⟩ := rk_sim (nc := nc) (ls := 1) q2 (by rw [hy9]; exact hnc) (by decide)
        rw [c1, hP0, hnc]
        have hRe : ∀ x, x ≠ t → x ≠ t + 2 → (rkR P.2 t nc 1).2 x = I x := fun x hx hx2 => (rk_e hx hx2 9 0 0 _).trans (hPe x hx)
        have hT := TX_rr q2.1 c1
        have hz9 : wtM C 59 509 = J 509 := by rw [wt_s (by decide), hT.2 509 (by decide) (by decide)]; exact hy9
        unfold RKO at c3
        rw [rl_1 c2] at c3
        refine ⟨_, rfl, ?_⟩
        dsimp only
        rcases c3 with ⟨r1, r2⟩ | ⟨r1, r2, r3, r4, r5, r6, -⟩
        · refine fun _ _ => Or.inl ?_
          unfold ad3
          rw [if_pos r1, if_neg (WR_ne r2)]
          exact ⟨rfl, r2⟩
        · generalize rkR P.2 t nc 1 = R at r1 r2 r3 r5 hRe ⊢
          generalize wtM C 59 = D at r2 r3 r4 r5 r6 hz9 ⊢
          rw [if_pos r2.2.1]
          unfold ad3
          rw [if_neg (by omega), ← n2]
          intro hco hTX
          have hED : EL R.2 e D n n := EL_of hE (fun x h1 h2 => hRe x (by omega) (by omega)) hz9
          have hR4 : R.2 e 4 = (n : Int) := by rw [hRe e (by omega) (by omega)]; exact e3
          obtain ⟨m, hm⟩ := Int.eq_ofNat_of_zero_le (show 0 ≤ D 508 13 by omega)
          have hEA := EL_add (z := N.1) (a := t + 2) (m := m) r2.1.1.1 hED (by omega) (by omega) hm (by omega) (fun k hk => r5 k (by omega))
          have hm2 : (R.2 t 2).toNat = m := by omega
          rw [hm2] at hco ⊢
          have hR4n : (R.2 e 4).toNat = n := by omega
          refine Or.inr ⟨rfl, TT_of r2 hTX hco.2.1 (addM_e (by omega) (by omega) (by omega) (by omega)) (addM_e (by omega) (by omega) (by omega) (by omega)) (rpE_8 (by decide)) (rpE_8 (by decide)), hco.2.2, ⟨n + 1, by omega, hEA⟩, ?_⟩
          rw [rpE_8 (show (508 : Nat) ≠ 509 by decide)]
          omega
theorem sz_sim {I J : II} {t e n : Nat} (het : e + 31 ≤ t) (h : TT I t J) (hW : WfT I e) (hE : EL I e J n n) (hlt : I t 3 < I t 4) (hc : ¬ hrM J = 0) : CMO t e J (szR I t e) (rcN J) := by
  suffices key : CO t e (szR I t e) → TX (rcN J) → CMO t e J (szR I t e) (rcN J) from key (sz_ok het hW h.2.2.1 hlt) (TX_rcN h.1 hc)
  have h0 := TT_inc h hlt
  have e3 := hE.1.2.2.1
  have e4 := hE.1.2.2.2.1
  have w24 := hW.2
  unfold szR rcN rcB rcA
  have hN : J 508 9 < pcM J 508 9 := by unfold pcM; rw [up_eq]; omega
  have hx9 : pcM J 509 = J 509 := pc_s (by decide)
  have hIe : ∀ x, x ≠ t → inc I t x = I x := fun x hx => inc_e hx
  generalize inc I t = I1 at h0 hIe ⊢
  generalize pcM J = J1 at h0 hN hx9 ⊢
  have hNe : ∀ x, x ≠ t → (pnR I1 t e).2 x = I x := fun x hx => (pn_e hx).trans (hIe x hx)
  have hy9 : (kpR J1).2 509 = J 509 := (kp_s (by decide)).trans hx9
  rcases pn_sim (e := e) h0 (by rw [hIe e (by omega), hx9]; omega) (by rw [hx9]; omega) with ⟨n1, n2⟩ | ⟨n1, n2, n3, n4, n5⟩
  · intro _ _
    rw [WR_wt n2, WR_nu n2, WR_wt n2, if_neg (WR_ne n2)]
    refine Or.inl ?_
    unfold sz1
    rw [if_pos n1]
    exact ⟨rfl, n2⟩
  · rw [hx9, e4] at n3
    generalize pnR I1 t e = N at n1 n2 n3 n4 hNe ⊢
    generalize kpR J1 = M at n2 n4 n5 hy9 ⊢
    unfold sz1
    rw [if_neg (by omega)]
    have hPe : ∀ x, x ≠ t → (paR N.2 t 61).2 x = I x := fun x hx => (pa_e hx).trans (hNe x hx)
    have hz9 : wtM M.2 61 509 = J 509 := (wt_s (by decide)).trans hy9
    rcases pa_sim n4 (show (0 : Int) < 61 by decide) with ⟨q1, q2⟩ | ⟨q1, q2, q3⟩
    · intro _ _
      rw [WR_nu q2, WR_wt q2, if_neg (WR_ne q2)]
      refine Or.inl ?_
      unfold sz2
      rw [if_pos q1]
      exact ⟨rfl, q2⟩
    · generalize paR N.2 t 61 = P at q1 q2 hPe ⊢
      generalize wtM M.2 61 = B at q2 q3 hz9 ⊢
      unfold sz2
      rw [if_neg (by omega)]
      have hQe : ∀ x, x ≠ t → (nbR P.2 t).2 x = I x := fun x hx => (nb_e hx).trans (hPe x hx)
      have hv9 : (nuR B).2 509 = J 509 := (nu_s (by decide)).trans hz9
      rcases nb_sim q2 with ⟨r1, r2⟩ | ⟨r1, r2, r3, r4⟩
      · intro _ _
        rw [WR_wt r2, if_neg (WR_ne r2)]
        refine Or.inl ?_
        unfold sz3
        rw [if_pos r1]
        exact ⟨rfl, r2⟩
      · generalize nbR P.2 t = Q at r1 r2 r3 hQe ⊢
        generalize nuR B = D at r2 r3 r4 hv9 ⊢
        unfold sz3
        rw [if_neg (by omega)]
        have hUe : ∀ x, x ≠ t → (paR Q.2 t 59).2 x = I x := fun x hx => (pa_e hx).trans (hQe x hx)
        have hu9 : wtM D.2 59 509 = J 509 := (wt_s (by decide)).trans hv9
        rcases pa_sim r3 (show (0 : Int) < 59 by decide) with ⟨u1, u2⟩ | ⟨u1, u2, u3⟩
        · intro _ _
          rw [if_neg (WR_ne u2)]
          refine Or.inl ?_
          unfold sz4
          rw [if_pos u1]
          exact ⟨rfl, u2⟩
        · generalize paR Q.2 t 59 = U at u1 u2 hUe ⊢
          generalize wtM D.2 59 = V at u2 u3 hu9 ⊢
          unfold sz4
          rw [if_neg (by omega), if_pos u2.2.1, ← r2, ← n2]
          intro hco hTX
          have hEU : EL U.2 e V n n := EL_of hE (fun x h1 h2 => hUe x (by omega)) hu9
          have hp : N.1.toNat < n := by omega
          refine Or.inr ⟨rfl, TT_of u2 hTX hco.2.1 (up_ne (by omega)) (up_ne (by omega)) (up_ne (by decide)) (up_ne (by decide)), hco.2.2, ⟨n, by omega, EL_size u2.1.1.1 hEU hp⟩, ?_⟩
          rw [up_ne (show (508 : Nat) ≠ 509 by decide)]
          omega
theorem rq_sim {I J : II} {t e n : Nat} (het : e + 31 ≤ t) (h : TT I t J) (hW : WfT I e) (hE : EL I e J n n) (hlt : I t 3 < I t 4) (hc : ¬ hrM J = 0) : ∃ K, rcR9 J = some K ∧ CMO t e J (rqR I t e) K := by
  suffices key : ∃ K, rcR9 J = some K ∧ (CO t e (rqR I t e) → TX K → CMO t e J (rqR I t e) K) by
    obtain ⟨K, k1, k2⟩ := key
    exact ⟨K, k1, k2 (rq_ok het hW h.2.2.1 hlt) (TX_rc9 h.1 hc k1)⟩
  have h0 := TT_inc h hlt
  have e3 := hE.1.2.2.1
  have e4 := hE.1.2.2.2.1
  have w24 := hW.2
  have hj0 := h.1.1.1.1
  unfold rqR rcR9
  have hN : J 508 9 < pcM J 508 9 := by unfold pcM; rw [up_eq]; omega
  have hx9 : pcM J 509 = J 509 := pc_s (by decide)
  have hIe : ∀ x, x ≠ t → inc I t x = I x := fun x hx => inc_e hx
  generalize inc I t = I1 at h0 hIe ⊢
  generalize pcM J = J1 at h0 hN hx9 ⊢
  have hNe : ∀ x, x ≠ t → (pnR I1 t e).2 x = I x := fun x hx => (pn_e hx).trans (hIe x hx)
  have hy9 : (kpR J1).2 509 = J 509 := (kp_s (by decide)).trans hx9
  rcases pn_sim (e := e) h0 (by rw [hIe e (by omega), hx9]; omega) (by rw [hx9]; omega) with ⟨n1, n2⟩ | ⟨n1, n2, n3, n4, n5⟩
  · obtain ⟨c1, c2⟩ := WR_rr n2
    rw [WR_wt n2, c1]
    refine ⟨_, rfl, fun _ _ => Or.inl ?_⟩
    dsimp only
    unfold rq1
    rw [if_pos n1, WR_wt c2, if_neg (WR_ne c2)]
    exact ⟨rfl, c2⟩
  · rw [hx9, e4] at n3
    generalize pnR I1 t e = N at n1 n2 n3 n4 hNe ⊢
    generalize kpR J1 = M at n2 n4 n5 hy9 ⊢
    unfold rq1
    rw [if_neg (by omega)]
    have hPe : ∀ x, x ≠ t → (paR N.2 t 58).2 x = I x := fun x hx => (pa_e hx).trans (hNe x hx)
    have hz9 : wtM M.2 58 509 = J 509 := (wt_s (by decide)).trans hy9
    rcases pa_sim n4 (show (0 : Int) < 58 by decide) with ⟨q1, q2⟩ | ⟨q1, q2, q3⟩
    · obtain ⟨c1, c2⟩ := WR_rr q2
      rw [c1]
      refine ⟨_, rfl, fun _ _ => Or.inl ?_⟩
      dsimp only
      unfold rq2
      rw [if_pos q1, WR_wt c2, if_neg (WR_ne c2)]
      exact ⟨rfl, c2⟩
    · generalize paR N.2 t 58 = P at q1 q2 hPe ⊢
      generalize wtM M.2 58 = B at q2 q3 hz9 ⊢
      unfold rq2
      rw [if_neg (by omega)]
      have hP0 : P.2 e 0 = J 509 0 := by rw [hPe e (by omega)]; exact hE.1.1
      obtain ⟨nc, hnc⟩ := Int.eq_ofNat_of_zero_le (show 0 ≤ J 509 0 by omega)
      obtain ⟨C, c1, c2, c3⟩ := rk_sim (nc := nc) (ls := 1) q2 (by rw [hz9]; exact hnc) (by decide)
      rw [c1, hP0, hnc]
      have hRe : ∀ x, x ≠ t → x ≠ t + 2 → (rkR P.2 t nc 1).2 x = I x := fun x hx hx2 => (rk_e hx hx2 9 0 0 _).trans (hPe x hx)
      have hT := TX_rr q2.1 c1
      have hw9 : wtM C 59 509 = J 509 := by rw [wt_s (by decide), hT.2 509 (by decide) (by decide)]; exact hz9
      unfold RKO at c3
      rw [rl_1 c2] at c3
      refine ⟨_, rfl, ?_⟩
      dsimp only
      rcases c3 with ⟨r1, r2⟩ | ⟨r1, r2, r3, r4, r5, r6, -⟩
      · refine fun _ _ => Or.inl ?_
        unfold rq3
        rw [if_pos r1, if_neg (WR_ne r2)]
        exact ⟨rfl, r2⟩
      · generalize rkR P.2 t nc 1 = R at r1 r2 r3 r5 hRe ⊢
        generalize wtM C 59 = D at r2 r3 r4 r5 r6 hw9 ⊢
        rw [if_pos r2.2.1]
        unfold rq3
        rw [if_neg (by omega), ← n2]
        intro hco hTX
        have hED : EL R.2 e D n n := EL_of hE (fun x h1 h2 => hRe x (by omega) (by omega)) hw9
        obtain ⟨m, hm⟩ := Int.eq_ofNat_of_zero_le (show 0 ≤ D 508 13 by omega)
        have hp : N.1.toNat < n := by omega
        have hEA := EL_rank (a := t + 2) (m := m) r2.1.1.1 hED hp (by omega) hm (by omega) (fun k hk => r5 k (by omega))
        have hm2 : (R.2 t 2).toNat = m := by omega
        rw [hm2] at hco ⊢
        refine Or.inr ⟨rfl, TT_of r2 hTX hco.2.1 (rankM_e (by omega) (by omega)) (rankM_e (by omega) (by omega)) (sr_8 (by decide)) (sr_8 (by decide)), hco.2.2, ⟨n, by omega, hEA⟩, ?_⟩
        rw [sr_8 (show (508 : Nat) ≠ 509 by decide)]
        omega
theorem lt_sim {I J : II} {t e n : Nat} (het : e + 31 ≤ t) (h : TT I t J) (hW : WfT I e) (hE : EL I e J n n) (hlt : I t 3 < I t 4) (hc : ¬ hrM J = 0) : ∃ K, rlO J = some K ∧ CMO t e J (ltR I t e) K := by
  suffices key : ∃ K, rlO J = some K ∧ (CO t e (ltR I t e) → TX K → CMO t e J (ltR I t e) K) by
    obtain ⟨K, k1, k2⟩ := key
    exact ⟨K, k1, k2 (lt_ok het hW h.2.2.1 hlt) (TX_rl h.1 hc k1)⟩
  have h0 := TT_inc h hlt
  have e0 := hE.1.1
  have e3 := hE.1.2.2.1
  have w24 := hW.2
  have hj0 := h.1.1.1.1
  unfold ltR rlO
  have hN : J 508 9 < pcM J 508 9 := by unfold pcM; rw [up_eq]; omega
  have hx9 : pcM J 509 = J 509 := pc_s (by decide)
  have hIe : ∀ x, x ≠ t → inc I t x = I x := fun x hx => inc_e hx
  generalize inc I t = I1 at h0 hIe ⊢
  generalize pcM J = J1 at h0 hN hx9 ⊢
  obtain ⟨nc, hnc⟩ := Int.eq_ofNat_of_zero_le (show 0 ≤ J 509 0 by omega)
  obtain ⟨C, c1, c2, c3⟩ := rk_sim (nc := nc) (ls := nc) h0 (by rw [hx9]; exact hnc) (by omega)
  rw [c1, e0, hnc]
  have hRe : ∀ x, x ≠ t → x ≠ t + 2 → (rkR I1 t nc nc).2 x = I x := fun x hx hx2 => (rk_e hx hx2 9 0 0 _).trans (hIe x hx)
  have hT := TX_rr h0.1 c1
  have hv9 : C 509 = J 509 := by rw [hT.2 509 (by decide) (by decide)]; exact hx9
  have hl : rlB C = rlX nc C := by
    unfold rlB rlX
    rw [hv9, hnc]
  have hw9 : wtM (rlX nc C) 59 509 = J 509 := by
    rw [wt_s (by decide), ← hv9]
    unfold rlX
    split
    · exact wg_s (by decide)
    · rfl
  unfold RKO at c3
  refine ⟨_, rfl, ?_⟩
  unfold rlE
  rw [hl]
  rcases c3 with ⟨r1, r2⟩ | ⟨r1, r2, r3, r4, r5, r6, r7⟩
  · refine fun _ _ => Or.inl ?_
    unfold lt1
    rw [if_pos r1, if_neg (WR_ne r2)]
    exact ⟨rfl, r2⟩
  · generalize rkR I1 t nc nc = R at r1 r2 r3 r5 hRe ⊢
    generalize wtM (rlX nc C) 59 = D at r2 r3 r4 r5 r6 r7 hw9 ⊢
    rw [if_pos r2.2.1]
    unfold lt1
    rw [if_neg (by omega)]
    have hED : EL R.2 e D n n := EL_of hE (fun x h1 h2 => hRe x (by omega) (by omega)) hw9
    have hR0 : (R.2 e 0).toNat = nc := by rw [hRe e (by omega) (by omega), e0, hnc]; rfl
    have hm2 : (D 508 13).toNat = nc := by omega
    rw [hR0, hm2]
    intro hco hTX
    have hEA := EL_lot (a := t + 2) (nc := nc) r2.1.1.1 hED (by omega) (by rw [hw9]; exact hnc) (fun k hk => r5 k (by omega)) (r7 rfl)
    refine Or.inr ⟨rfl, TT_of r2 hTX hco.2.1 (drawM_e (by omega)) (drawM_e (by omega)) (cpy_ne (by decide)) (cpy_ne (by decide)), hco.2.2, ⟨n, by omega, hEA⟩, ?_⟩
    rw [cpy_ne (show (508 : Nat) ≠ 509 by decide)]
    omega
theorem cm_sim {I J : II} {t e n : Nat} (het : e + 31 ≤ t) (h : TT I t J) (hW : WfT I e) (hE : EL I e J n n) : ∃ K, cmO J = some K ∧ CMO t e J (cmR I t e) K := by
  have hh := ch_hr h
  have p9 := h.1.2.1
  unfold cmO cmR
  by_cases g1 : 48 ≤ hrM J ∧ hrM J ≤ 57
  · rw [if_pos g1, if_neg (by omega), if_neg (by omega), if_neg (by omega)]
    exact ad_sim het h hW hE
  rw [if_neg g1]
  by_cases g2 : hrM J = 35
  · rw [if_pos g2, if_pos (by omega)]
    exact ⟨_, rfl, sz_sim het h hW hE (by omega) (by omega)⟩
  rw [if_neg g2, if_neg (show ¬ ch I t = 35 by omega)]
  by_cases g3 : hrM J = 126
  · rw [if_pos g3, if_pos (show ch I t = 126 by omega)]
    exact rq_sim het h hW hE (by omega) (by omega)
  rw [if_neg g3, if_neg (show ¬ ch I t = 126 by omega)]
  by_cases g4 : hrM J = 33
  · rw [if_pos g4, if_pos (show ch I t = 33 by omega)]
    exact lt_sim het h hW hE (by omega) (by omega)
  rw [if_neg g4, if_neg (show ¬ ch I t = 33 by omega)]
  have hw := WR_wg (w := J 508 9) h.1 h.2.1 (by omega)
  have e9 := h.2.2.2.1
  refine ⟨_, rfl, Or.inl ?_⟩
  have hn : nbR I t = (-1, fl I t) := by
    unfold nbR nbA
    rw [if_pos (by omega)]
  have ha : adR I t e = (0, fl I t) := by
    unfold adR ad1
    rw [hn]
    split
    · rfl
    · rfl
  rw [ha]
  refine ⟨rfl, ?_⟩
  show WR (fl I t t 5) _
  rw [fl_5, e9]
  exact hw
