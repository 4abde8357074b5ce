/-! THE CLASS ITSELF: execute -/
theorem ad_fr {I : II} {t e x : Nat} (het : e + 31 ≤ t) (hW : WfT I e) (h1 : x ≠ t) (h2 : x ≠ t + 2) (h3 : x < e ∨ e + 31 ≤ x) : (adR I t e).2 x = I x := by
  have w4 := hW.1.2.2.1
  have w24 := hW.2
  unfold adR
  split
  · exact fl_e h1
  have hNe : ∀ x, x ≠ t → (nbR I t).2 x = I x := fun x hx => nb_e hx
  generalize nbR I t = N at hNe ⊢
  unfold ad1
  split
  · exact hNe x h1
  have hPe : ∀ x, x ≠ t → (paR N.2 t 58).2 x = I x := fun x hx => (pa_e hx).trans (hNe x hx)
  generalize paR N.2 t 58 = P at hPe ⊢
  unfold ad2
  split
  · exact hPe x h1
  have hRe : ∀ x, x ≠ t → x ≠ t + 2 → (rkR P.2 t (P.2 e 0) 1).2 x = I x := fun x hx hx2 => (rk_e hx hx2 9 0 0 _).trans (hPe x hx)
  generalize rkR P.2 t (P.2 e 0) 1 = R at hRe ⊢
  have h4 : R.2 e 4 = I e 4 := by rw [hRe e (by omega) (by omega)]
  unfold ad3
  split
  · exact hRe x h1 h2
  · exact (addM_e (by omega) (by omega) (by omega) (by omega)).trans (hRe x h1 h2)
theorem sz_fr {I : II} {t e x : Nat} (h1 : x ≠ t) (h2 : x ≠ t + 2) (h3 : x < e ∨ e + 31 ≤ x) : (szR I t e).2 x = I x := by
  have hI1e : ∀ x, x ≠ t → inc I t x = I x := fun x hx => inc_e hx
  unfold szR
  have hNe : ∀ x, x ≠ t → (pnR (inc I t) t e).2 x = I x := fun x hx => (pn_e hx).trans (hI1e x hx)
  generalize pnR (inc I t) t e = N at hNe ⊢
  unfold sz1
  split
  · exact hNe x h1
  have hPe : ∀ x, x ≠ t → (paR N.2 t 61).2 x = I x := fun x hx => (pa_e hx).trans (hNe x hx)
  generalize paR N.2 t 61 = P at hPe ⊢
  unfold sz2
  split
  · exact hPe x h1
  have hMe : ∀ x, x ≠ t → (nbR P.2 t).2 x = I x := fun x hx => (nb_e hx).trans (hPe x hx)
  generalize nbR P.2 t = M at hMe ⊢
  unfold sz3
  split
  · exact hMe x h1
  have hQe : ∀ x, x ≠ t → (paR M.2 t 59).2 x = I x := fun x hx => (pa_e hx).trans (hMe x hx)
  generalize paR M.2 t 59 = Q at hQe ⊢
  unfold sz4
  split
  · exact hQe x h1
  · exact (up_ne (by omega)).trans (hQe x h1)
theorem rq_fr {I : II} {t e x : Nat} (het : e + 31 ≤ t) (hW : WfT I e) (h1 : x ≠ t) (h2 : x ≠ t + 2) (h3 : x < e ∨ e + 31 ≤ x) : (rqR I t e).2 x = I x := by
  have w24 := hW.2
  have hI1e : ∀ x, x ≠ t → inc I t x = I x := fun x hx => inc_e hx
  unfold rqR
  have hN := pn_rng (inc I t) t e
  rw [hI1e e (by omega)] at hN
  have hNe : ∀ x, x ≠ t → (pnR (inc I t) t e).2 x = I x := fun x hx => (pn_e hx).trans (hI1e x hx)
  generalize pnR (inc I t) t e = N at hN hNe ⊢
  unfold rq1
  split
  · exact hNe x h1
  have hPe : ∀ x, x ≠ t → (paR N.2 t 58).2 x = I x := fun x hx => (pa_e hx).trans (hNe x hx)
  generalize paR N.2 t 58 = P at hPe ⊢
  unfold rq2
  split
  · exact hPe x h1
  have hRe : ∀ x, x ≠ t → x ≠ t + 2 → (rkR P.2 t (P.2 e 0) 1).2 x = I x := fun x hx hx2 => (rk_e hx hx2 9 0 0 _).trans (hPe x hx)
  generalize rkR P.2 t (P.2 e 0) 1 = R at hRe ⊢
  unfold rq3
  split
  · exact hRe x h1 h2
  · exact (rankM_e (by omega) (by omega)).trans (hRe x h1 h2)
theorem lt_fr {I : II} {t e x : Nat} (h1 : x ≠ t) (h2 : x ≠ t + 2) (h3 : x < e ∨ e + 31 ≤ x) : (ltR I t e).2 x = I x := by
  unfold ltR
  have hRe : ∀ x, x ≠ t → x ≠ t + 2 → (rkR (inc I t) t (I e 0) (I e 0)).2 x = I x := fun x hx hx2 => (rk_e hx hx2 9 0 0 _).trans (inc_e hx)
  generalize rkR (inc I t) t (I e 0) (I e 0) = R at hRe ⊢
  unfold lt1
  split
  · exact hRe x h1 h2
  · exact (drawM_e (by omega)).trans (hRe x h1 h2)
theorem cm_fr {I : II} {t e x : Nat} (het : e + 31 ≤ t) (hW : WfT I e) (h1 : x ≠ t) (h2 : x ≠ t + 2) (h3 : x < e ∨ e + 31 ≤ x) : (cmR I t e).2 x = I x := by
  unfold cmR
  split
  · exact sz_fr h1 h2 h3
  · split
    · exact rq_fr het hW h1 h2 h3
    · split
      · exact lt_fr h1 h2 h3
      · exact ad_fr het hW h1 h2 h3
theorem ri_fr {t e x : Nat} (het : e + 31 ≤ t) (h1 : x ≠ t) (h2 : x ≠ t + 2) (h3 : x < e ∨ e + 31 ≤ x) : ∀ f k (J : II), WfT J e → TI J t → (riL t e f k J).2 x = J x
  | 0, _, _, _, _ => rfl
  | f + 1, k, J, hW, hI => by
    have hC := cm_ok het hW hI
    have hF := cm_fr (x := x) het hW h1 h2 h3
    unfold riL
    split
    · rfl
    · split
      · exact hF
      · exact (ri_fr het h1 h2 h3 f (k + 1) _ hC.2.2 hC.2.1).trans hF
theorem ri_ok {t e : Nat} (het : e + 31 ≤ t) : ∀ f k (J : II), k + f ≤ 61 → WfT J e → TI J t → TI (riL t e f k J).2 t ∧ WfT (riL t e f k J).2 e ∧ -1 ≤ (riL t e f k J).1 ∧ (riL t e f k J).1 ≤ 61
  | 0, _, _, _, hW, hI => by
    refine ⟨hI, hW, ?_⟩
    show -1 ≤ (-1 : Int) ∧ (-1 : Int) ≤ 61
    decide
  | f + 1, k, J, hk, hW, hI => by
    have hC := cm_ok het hW hI
    unfold riL
    split
    · refine ⟨hI, hW, ?_⟩
      show -1 ≤ (k : Int) ∧ (k : Int) ≤ 61
      omega
    · split
      · refine ⟨hC.2.1, hC.2.2, ?_⟩
        show -1 ≤ (-1 : Int) ∧ (-1 : Int) ≤ 61
        decide
      · exact ri_ok het f (k + 1) _ (by omega) hC.2.2 hC.2.1
/-- the draft read: the answer, the cells -/
def exJ (I : II) : Int × II := riR (cpyE I 1 32) 198 32
def exK (I : II) : II := up (exJ I).2 198 4 0
def exR (I : II) (n : Nat) (sl : Nat → Nat) : RR := if (exJ I).1 = -1 then erI IAE (exK I) else okI (exJ I).1 (cpyE (rfM (exK I) n sl) 32 1)
def exW (S : SS) (I : II) (n : Nat) : SS := if (exJ I).1 = -1 then S else reS S 201 n
theorem ex_0 {I : II} (hW : WfT I 1) (hT : TI0 I 198) : WfT (cpyE I 1 32) 32 ∧ TI0 (cpyE I 1 32) 198 := by
  have hQ := cpyE_eq (I := I) (e := 1) (d := 32) (Or.inl (by omega))
  exact ⟨⟨WfE_eq hQ hW.1, by rw [hQ.2.2.1]; exact hW.2⟩, TI0_of hT (cpyE_e (Or.inr (by omega))) (cpyE_e (Or.inr (by omega))) (cpyE_e (Or.inr (by omega)))⟩
theorem TI_00 {I : II} {t : Nat} (h : TI0 I t) : TI (up (up I t 3 0) t 5 (-1)) t :=
  TI_er (by unfold TI; rw [up_eq, up_nk (by omega), up_nk (by omega), up_ne (by omega), up_ne (by omega)]; obtain ⟨⟨i1, i2⟩, i3⟩ := h; exact ⟨by omega, i3⟩)
theorem WfT_00 {I : II} {t e : Nat} (h : WfT I e) (het : e + 31 ≤ t) : WfT (up (up I t 3 0) t 5 (-1)) e := WfT_of h fun x h1 h2 => by rw [up_ne (by omega), up_ne (by omega)]
theorem ex_ok {I : II} (hW : WfT I 1) (hT : TI0 I 198) : TI (exJ I).2 198 ∧ WfT (exJ I).2 32 ∧ -1 ≤ (exJ I).1 ∧ (exJ I).1 ≤ 61 := by
  obtain ⟨h1, h2⟩ := ex_0 hW hT
  exact ri_ok (by omega) 61 0 _ (by omega) (WfT_00 h1 (by omega)) (TI_00 h2)
theorem ex_fr {I : II} (hW : WfT I 1) (hT : TI0 I 198) {x : Nat} (h : x < 32 ∨ (63 ≤ x ∧ x ≠ 198 ∧ x ≠ 200)) : (exJ I).2 x = I x := by
  obtain ⟨h1, h2⟩ := ex_0 hW hT
  refine (ri_fr (by omega) (by omega) (by omega) (by omega) 61 0 _ (WfT_00 h1 (by omega)) (TI_00 h2)).trans ?_
  rw [up_ne (by omega), up_ne (by omega), cpyE_e (by omega)]
theorem exK_fr {I : II} (hW : WfT I 1) (hT : TI0 I 198) {x : Nat} (h : x < 32 ∨ (63 ≤ x ∧ x ≠ 198 ∧ x ≠ 200)) : exK I x = I x := by
  unfold exK
  rw [up_ne (by omega), ex_fr hW hT h]

set_option maxRecDepth 100000 in
set_option maxHeartbeats 4000000 in
theorem c_execute {l : Launch} {g : GV} {S : SS} {I : II} {X : XX} {zz : Int} {n : Nat} {sl : Nat → Nat} (hfl : l.stackTraces = false) (hno : S.2.2 = false) (hL : LC S sl) (hK : KC I sl) (hSO : SlO sl) (hn : I 201 1 = (n : Int))  : CT l g mX8_execute 6 1 6 [.ref 0] S I X (QT (exR I n sl) (exW S I n) X) := by
  obtain ⟨m0, p0, p1, p2, p3, p4, p5, p6, p7, p8, p9, hE1, hE2, hC1, hC2, hT, hH, hR1, hE3, hR2⟩ := id hL
  obtain ⟨y0, y1, y1a, y2, y2a, y3, y3a, y4, y4a, y5, y5a, yr⟩ := id hE1
  obtain ⟨a0, a1, a2, a3⟩ := id hH
  obtain ⟨t0, t1, t1a, t2, t2a⟩ := id hT
  have e20 := hE2.1
  have e30 := hE3.1
  have d10 := hR1.1
  have d20 := hR2.1
  have c10 := hC1.1
  have c20 := hC2.1
  obtain ⟨hI, h24, hI2, hTI, hRd, hRs, hWs, hz01, hSl, b10, b11, b12, b13, hRc⟩ := id hK
  obtain ⟨w0, w1, w2, w3, w4, w5, w6, w7, w8, w9, w10, w11, w12, w13⟩ := id hI.1
  have hn8 : n ≤ 8 := by omega
  have hWT : WfT I 1 := ⟨hI.1, h24⟩
  refine v_start hfl rfl (by decide) (Nat.le_of_ble_eq_true rfl) (ls := [some (.ref 0), none]) rfl ?_
  refine v_aload_n dX8_execute_0 rfl ?_
  refine v_getr dX8_execute_1 fr_X8_16 (by assumption) (by decide) rfl (by assumption) ?_
  refine v_aload_n dX8_execute_4 rfl ?_
  refine v_getr dX8_execute_5 fr_X8_10 (by assumption) (by decide) rfl (by assumption) ?_
  refine v_cV1n dX8_execute_8 lk_X8_102 (by assumption) (by decide) rfl (c_copyFrom hfl hE1 hE2) (by decide) (Nat.le_of_ble_eq_true rfl) ?_ rfl
  refine v_aload_n dX8_execute_11 rfl ?_
  refine v_getr dX8_execute_12 fr_X8_37 (by assumption) (by decide) rfl (by assumption) ?_
  refine v_aload_n dX8_execute_15 rfl ?_
  refine v_getr dX8_execute_16 fr_X8_16 (by assumption) (by decide) rfl (by assumption) ?_
  refine v_cV1 dX8_execute_19 lk_X8_105 (by assumption) (by decide) rfl (c_readInto hfl hT hE2 (by omega) (ex_0 hWT hTI).1 (ex_0 hWT hTI).2) (by decide) (Nat.le_of_ble_eq_true rfl) ?_ rfl
  rw [show riR (cpyE I 1 32) 198 32 = exJ I from rfl]
  obtain ⟨j1, j2, j3, j4⟩ := ex_ok hWT hTI
  have hnK : exK I 201 1 = (n : Int) := by rw [exK_fr hWT hTI (by omega)]; exact hn
  refine v_istn1 dX8_execute_22 rfl ?_
  refine v_aload_n dX8_execute_23 rfl ?_
  refine v_getr dX8_execute_24 fr_X8_37 (by assumption) (by decide) rfl (by assumption) ?_
  refine v_cV0n dX8_execute_27 lk_X8_109 (by assumption) (by decide) rfl (c_clear hfl hT) (by decide) (Nat.le_of_ble_eq_true rfl) ?_ rfl
  rw [show up (exJ I).2 198 4 0 = exK I from rfl]
  refine v_iload_n dX8_execute_30 rfl ?_
  refine v_iconst dX8_execute_31 ?_
  refine v_ic_ne (tgt := 45) dX8_execute_32 (by decide) (fun h32 => ?_) (fun h32 => ?_)
  · refine v_aload_n dX8_execute_45 rfl ?_
    refine v_cV0nS dX8_execute_46 lk_X8_114 (by assumption) (by decide) rfl (c_forUndo hfl hL hnK hn8) reS_no (by decide) (Nat.le_of_ble_eq_true rfl) ?_ rfl
    have hL2 := LC_re (n := n) hL
    have hno2 : (reS S 201 n).2.2 = false := reS_no.trans hno
    obtain ⟨m0b, p0b, p1b, p2b, p3b, p4b, p5b, p6b, p7b, p8b, p9b, hE1b, hE2b, hC1b, hC2b, hTb, hHb, hR1b, hE3b, hR2b⟩ := id hL2
    obtain ⟨y0b, y1b, y1ab, y2b, y2ab, y3b, y3ab, y4b, y4ab, y5b, y5ab, yrb⟩ := id hE1b
    refine v_aload_n dX8_execute_49 rfl ?_
    refine v_getr dX8_execute_50 fr_X8_10 (by assumption) (by decide) rfl (by assumption) ?_
    refine v_aload_n dX8_execute_53 rfl ?_
    refine v_getr dX8_execute_54 fr_X8_16 (by assumption) (by decide) rfl (by assumption) ?_
    refine v_cV1n dX8_execute_57 lk_X8_102 (by assumption) (by decide) rfl (c_copyFrom hfl hE2b hE1b) (by decide) (Nat.le_of_ble_eq_true rfl) ?_ rfl
    refine v_iload_n dX8_execute_60 rfl ?_
    exact v_iS dX8_execute_61 rfl (hno2) (by unfold exW; first | rw [if_pos (by omega)] | rw [if_neg (by omega)]) (by unfold exR; first | (rw [if_pos (by omega)]; rfl) | (rw [if_neg (by omega)]; rfl))
  · exact v_thS th_X8_112_61 rfl dX8_execute_35 dX8_execute_38 (Or.inl dX8_execute_39) dX8_execute_41 dX8_execute_44 (by decide) (Nat.le_of_ble_eq_true rfl) (by decide) (by decide) hno (by unfold exW; first | rw [if_pos (by omega)] | rw [if_neg (by omega)]) (by unfold exR; first | (rw [if_pos (by omega)]; rfl) | (rw [if_neg (by omega)]; rfl))
