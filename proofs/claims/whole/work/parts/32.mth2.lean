/-! THE CLASS ITSELF: what the count tells -/
theorem cvR_or (I : II) (z c : Int) : (∃ E, cvR I z c = erI E I) ∨ ∃ u, cvR I z c = okI u I := by
  unfold cvR
  split
  · exact Or.inl ⟨_, rfl⟩
  · split
    · exact Or.inl ⟨_, rfl⟩
    · exact Or.inr ⟨_, rfl⟩
def shR (I : II) (z c : Int) : RR := if hrF (ctM I) 95 z = 0 then erI IOB (ctM I) else if icF (ctM I) c = 0 then erI IOB (ctM I) else if sumTo (ctM I (1 + 3)) (ctM I 1 4).toNat * 10000 ≤ 0 then erI ARI (ctM I) else
  (.inl (some (.float (FP.fdiv (FP.i2f (ii (ctM I (95 + 4 + z.toNat) c.toNat))) (FP.i2f (ii (sumTo (ctM I (1 + 3)) (ctM I 1 4).toNat * 10000)))))), ctM I)

set_option maxRecDepth 100000 in
set_option maxHeartbeats 4000000 in
theorem c_errorPosition {l : Launch} {g : GV} {S : SS} {I : II} {X : XX} {sl : Nat → Nat} (hfl : l.stackTraces = false) (hL : LC S sl) : CE l g mX8_errorPosition 6 [.ref 0] S I X (some (.int (ii (I 198 5)))) I := by
  obtain ⟨m0, p0, p1, p2, p3, p4, p5, p6, p7, p8, p9, hE1, hE2, hC1, hC2, hT, hH, hR1, hE3, hR2⟩ := id hL
  obtain ⟨t0, t1, t1a, t2, t2a⟩ := id hT
  refine v_startE hfl rfl (by decide) (Nat.le_of_ble_eq_true rfl) (ls := [some (.ref 0)]) rfl ?_
  refine v_aload_n dX8_errorPosition_0 rfl ?_
  refine v_getr dX8_errorPosition_1 fr_X8_37 (by assumption) (by decide) rfl (by assumption) ?_
  refine v_geti dX8_errorPosition_4 fr_X8_117 (by assumption) (by decide) rfl ?_
  exact v_iE dX8_errorPosition_7 rfl (rfl) (rfl)

set_option maxRecDepth 100000 in
set_option maxHeartbeats 4000000 in
theorem c_rounds {l : Launch} {g : GV} {S : SS} {I : II} {X : XX} {sl : Nat → Nat} (hfl : l.stackTraces = false) (hL : LC S sl) (hK : KC I sl) : CE l g mX8_rounds 6 [.ref 0] S I X (some (.int (ii (ctM I 95 0)))) (ctM I) := by
  obtain ⟨m0, p0, p1, p2, p3, p4, p5, p6, p7, p8, p9, hE1, hE2, hC1, hC2, hT, hH, hR1, hE3, hR2⟩ := id hL
  obtain ⟨hI, h24, hI2, hTI, hRd, hRs, hWs, hz01, hSl, b10, b11, b12, b13, hRc⟩ := id hK
  obtain ⟨n0, n1, n2, n3, n4, n5, n6, n6a, n7, n7a, n8, n8a, n9, n9a, n10, n10a, hR, hHc, hF, hG, hEc, hsp⟩ := id hC1
  obtain ⟨r0, r1, r1a, r2, r2a, r3, r3a, rr⟩ := id hR
  obtain ⟨f0, f1, f1a, f2, f2a, f3, f3a⟩ := id hF
  obtain ⟨l0, ⟨l1, l1a⟩, ⟨l2, l2a⟩, ⟨l3, l3a⟩, ⟨l4, l4a⟩, ⟨l5, l5a⟩, ⟨l6, l6a⟩, ⟨l7, l7a⟩, ⟨l8, l8a⟩, lr, ⟨l9, l9a⟩, lw⟩ := id hG
  refine v_startE hfl rfl (by decide) (Nat.le_of_ble_eq_true rfl) (ls := [some (.ref 0)]) rfl ?_
  refine v_aload_n dX8_rounds_0 rfl ?_
  refine v_cV0 dX8_rounds_1 lk_X8_174 (by assumption) (by decide) rfl (c_counted hfl hL hI b10) (by decide) (Nat.le_of_ble_eq_true rfl) ?_ rfl
  refine v_getr dX8_rounds_4 fr_X8_178 (by assumption) (by decide) rfl (by assumption) ?_
  refine v_geti dX8_rounds_7 fr_X8_181 (by assumption) (by decide) rfl ?_
  exact v_iE dX8_rounds_10 rfl (rfl) (rfl)

set_option maxRecDepth 100000 in
set_option maxHeartbeats 4000000 in
theorem c_votes {l : Launch} {g : GV} {S : SS} {I : II} {X : XX} {z c : Int} {sl : Nat → Nat} (hfl : l.stackTraces = false) (hno : S.2.2 = false) (hL : LC S sl) (hK : KC I sl) (hz : -2147483648 ≤ z ∧ z < 2147483648) (hc : -2147483648 ≤ c ∧ c < 2147483648)  : CT l g mX8_votes 7 1 6 [.ref 0, .int (ii z), .int (ii c)] S I X (QT (cvR (ctM I) z c) S X) := by
  obtain ⟨m0, p0, p1, p2, p3, p4, p5, p6, p7, p8, p9, hE1, hE2, hC1, hC2, hT, hH, hR1, hE3, hR2⟩ := id hL
  obtain ⟨y0, y1, y1a, y2, y2a, y3, y3a, y4, y4a, y5, y5a, yr⟩ := id hE1
  obtain ⟨a0, a1, a2, a3⟩ := id hH
  obtain ⟨t0, t1, t1a, t2, t2a⟩ := id hT
  have e20 := hE2.1
  have e30 := hE3.1
  have d10 := hR1.1
  have d20 := hR2.1
  have c10 := hC1.1
  have c20 := hC2.1
  obtain ⟨hI, h24, hI2, hTI, hRd, hRs, hWs, hz01, hSl, b10, b11, b12, b13, hRc⟩ := id hK
  obtain ⟨w0, w1, w2, w3, w4, w5, w6, w7, w8, w9, w10, w11, w12, w13⟩ := id hI.1
  have hCt := ct_CI hI
  have hRt : RI (ctM I) (94 + 1) := ct_RI hI b10 hRc
  have e1t : ctM I 1 = I 1 := ct_1
  obtain ⟨n0, n1, n2, n3, n4, n5, n6, n6a, n7, n7a, n8, n8a, n9, n9a, n10, n10a, hR, hHc, hF, hG, hEc, hsp⟩ := id hC1
  obtain ⟨r0, r1, r1a, r2, r2a, r3, r3a, rr⟩ := id hR
  obtain ⟨f0, f1, f1a, f2, f2a, f3, f3a⟩ := id hF
  obtain ⟨l0, ⟨l1, l1a⟩, ⟨l2, l2a⟩, ⟨l3, l3a⟩, ⟨l4, l4a⟩, ⟨l5, l5a⟩, ⟨l6, l6a⟩, ⟨l7, l7a⟩, ⟨l8, l8a⟩, lr, ⟨l9, l9a⟩, lw⟩ := id hG
  refine v_start hfl rfl (by decide) (Nat.le_of_ble_eq_true rfl) (ls := [some (.ref 0), some (.int (ii z)), some (.int (ii c))]) rfl ?_
  refine v_aload_n dX8_votes_0 rfl ?_
  refine v_aload_n dX8_votes_1 rfl ?_
  refine v_cV0 dX8_votes_2 lk_X8_174 (by assumption) (by decide) rfl (c_counted hfl hL hI b10) (by decide) (Nat.le_of_ble_eq_true rfl) ?_ rfl
  refine v_getr dX8_votes_5 fr_X8_178 (by assumption) (by decide) rfl (by assumption) ?_
  refine v_iload_n dX8_votes_8 rfl ?_
  refine v_iload_n dX8_votes_9 rfl ?_
  refine v_callT (dp2 := 6) (mc := 1) (ms := 6) (bc2 := 0) (bs2 := 0) (As := [.ref (94 + 1), .int (ii z), .int (ii c)]) (Q2 := QT (cvR (ctM I) z c) S X) dX8_votes_10 lk_X8_184 rfl rfl (by assumption) (by decide) rfl (c_checkedVotes hfl hno hL hCt.1 hRt hz hc) (by decide) (Nat.le_of_ble_eq_true rfl) hno rfl (fun _ _ _ _ h => h) (fun _ _ _ _ h => by rw [h.2.1]; exact hno) rfl rfl ?_
  intro v S3 I3 X3 h
  obtain ⟨h1, h2, h3, h4⟩ := h
  subst h2
  subst h4
  subst h3
  rcases cvR_or (ctM I) z c with ⟨E, hE⟩ | ⟨u, hu⟩
  · rw [hE] at h1
    cases h1
  · have h5 := h1
    rw [hu] at h5
    cases h5
    exact v_iret dX8_votes_13 rfl ⟨h1, rfl, rfl, rfl⟩ (fun h => nomatch (hno.symm.trans h))

set_option maxRecDepth 100000 in
set_option maxHeartbeats 4000000 in
theorem c_share {l : Launch} {g : GV} {S : SS} {I : II} {X : XX} {z c : Int} {sl : Nat → Nat} (hfl : l.stackTraces = false) (hno : S.2.2 = false) (hL : LC S sl) (hK : KC I sl) (hz : -2147483648 ≤ z ∧ z < 2147483648) (hc : -2147483648 ≤ c ∧ c < 2147483648) (hfd : ∀ u t : Int, 0 < t → t < 2147483648 → vf_n32 (FP.fdiv (FP.i2f (ii u)) (FP.i2f (ii t)))) : CT l g mX8_share 7 2 12 [.ref 0, .int (ii z), .int (ii c)] S I X (QT (shR I z c) S X) := by
  obtain ⟨m0, p0, p1, p2, p3, p4, p5, p6, p7, p8, p9, hE1, hE2, hC1, hC2, hT, hH, hR1, hE3, hR2⟩ := id hL
  obtain ⟨y0, y1, y1a, y2, y2a, y3, y3a, y4, y4a, y5, y5a, yr⟩ := id hE1
  obtain ⟨a0, a1, a2, a3⟩ := id hH
  obtain ⟨t0, t1, t1a, t2, t2a⟩ := id hT
  have e20 := hE2.1
  have e30 := hE3.1
  have d10 := hR1.1
  have d20 := hR2.1
  have c10 := hC1.1
  have c20 := hC2.1
  obtain ⟨hI, h24, hI2, hTI, hRd, hRs, hWs, hz01, hSl, b10, b11, b12, b13, hRc⟩ := id hK
  obtain ⟨w0, w1, w2, w3, w4, w5, w6, w7, w8, w9, w10, w11, w12, w13⟩ := id hI.1
  have hCt := ct_CI hI
  have hRt : RI (ctM I) (94 + 1) := ct_RI hI b10 hRc
  have e1t : ctM I 1 = I 1 := ct_1
  obtain ⟨n0, n1, n2, n3, n4, n5, n6, n6a, n7, n7a, n8, n8a, n9, n9a, n10, n10a, hR, hHc, hF, hG, hEc, hsp⟩ := id hC1
  obtain ⟨r0, r1, r1a, r2, r2a, r3, r3a, rr⟩ := id hR
  obtain ⟨f0, f1, f1a, f2, f2a, f3, f3a⟩ := id hF
  obtain ⟨l0, ⟨l1, l1a⟩, ⟨l2, l2a⟩, ⟨l3, l3a⟩, ⟨l4, l4a⟩, ⟨l5, l5a⟩, ⟨l6, l6a⟩, ⟨l7, l7a⟩, ⟨l8, l8a⟩, lr, ⟨l9, l9a⟩, lw⟩ := id hG
  refine v_start hfl rfl (by decide) (Nat.le_of_ble_eq_true rfl) (ls := [some (.ref 0), some (.int (ii z)), some (.int (ii c)), none, none]) rfl ?_
  refine v_aload_n dX8_share_0 rfl ?_
  refine v_aload_n dX8_share_1 rfl ?_
  refine v_cV0 dX8_share_2 lk_X8_174 (by assumption) (by decide) rfl (c_counted hfl hL hI b10) (by decide) (Nat.le_of_ble_eq_true rfl) ?_ rfl
  refine v_getr dX8_share_5 fr_X8_178 (by assumption) (by decide) rfl (by assumption) ?_
  refine v_iload_n dX8_share_8 rfl ?_
  refine v_iload_n dX8_share_9 rfl ?_
  refine v_callT (dp2 := 6) (mc := 1) (ms := 6) (bc2 := 1) (bs2 := 6) (As := [.ref (94 + 1), .int (ii z), .int (ii c)]) (Q2 := QT (cvR (ctM I) z c) S X) dX8_share_10 lk_X8_184 rfl rfl (by assumption) (by decide) rfl (c_checkedVotes hfl hno hL hCt.1 hRt hz hc) (by decide) (Nat.le_of_ble_eq_true rfl) hno rfl (fun E S2 I2 X2 h => by
      obtain ⟨h1, h2, h3, h4⟩ := h
      subst h2; subst h4; subst h3
      unfold cvR at h1 ⊢
      unfold QT shR
      split at h1
      · rename_i q; rw [if_pos q, if_pos q]; exact ⟨h1, rfl, rfl, rfl⟩
      · split at h1
        · rename_i q q2; rw [if_neg q, if_pos q2, if_neg q, if_pos q2]; exact ⟨h1, rfl, rfl, rfl⟩
        · cases h1) (fun _ _ _ _ h => by rw [h.2.1]; exact hno) rfl rfl ?_
  intro v S3 I3 X3 h
  obtain ⟨h1, h2, h3, h4⟩ := h
  subst h2
  subst h4
  subst h3
  have q1 : ¬ hrF (ctM I) 95 z = 0 := by
    intro q
    unfold cvR at h1
    rw [if_pos q] at h1
    cases h1
  have q2 : ¬ icF (ctM I) c = 0 := by
    intro q
    unfold cvR at h1
    rw [if_neg q1, if_pos q] at h1
    cases h1
  have q3 : cvR (ctM I) z c = okI (ctM I (95 + 4 + z.toNat) c.toNat) (ctM I) := by
    unfold cvR
    rw [if_neg q1, if_neg q2]
  rw [q3] at h1 ⊢
  cases h1
  have hs := sumTo_b (f := ctM I (1 + 3)) (n := (ctM I 1 4).toNat) (fun p hp => hCt.1.2.2.2.2.2.2.1 p (by have := hCt.1.2.2.2.1; omega)) (ctM I 1 4).toNat (Nat.le_refl _)
  have s9 := hCt.1.2.2.2.1
  show V l g mX8_share 7 _ _ _ _ _ _ _ (ctM I) _
  refine v_istn3 dX8_share_13 rfl ?_
  refine v_aload_n dX8_share_14 rfl ?_
  refine v_getr dX8_share_15 fr_X8_10 (by assumption) (by decide) rfl (by assumption) ?_
  refine v_cV0 dX8_share_18 lk_X8_267 (by assumption) (by decide) rfl (c_papers hfl hE1 hCt.1) (by decide) (Nat.le_of_ble_eq_true rfl) ?_ rfl
  refine v_sipush dX8_share_21 (by decide) ?_
  refine v_imul dX8_share_24 ?_
  refine v_ist4 dX8_share_25 rfl ?_
  refine v_iload dX8_share_27 rfl ?_
  refine v_if_gt (tgt := 43) dX8_share_29 (by decide) (fun h29 => ?_) (fun h29 => ?_)
  · refine v_iload_n dX8_share_43 rfl ?_
    refine v_i2f dX8_share_44 ?_
    refine v_iload dX8_share_45 rfl ?_
    refine v_i2f dX8_share_47 ?_
    refine v_fdiv dX8_share_48 (hfd _ _ (by omega) (by omega)) ?_
    exact v_fret dX8_share_49 rfl ⟨by unfold shR; rw [if_neg q1, if_neg q2, if_neg (by omega)], rfl, by unfold shR; rw [if_neg q1, if_neg q2, if_neg (by omega)], rfl⟩ (fun h => nomatch (hno.symm.trans h))
  · exact v_thT th_X8_273_271 rfl dX8_share_32 dX8_share_35 (Or.inr dX8_share_36) dX8_share_39 dX8_share_42 (by decide) (Nat.le_of_ble_eq_true rfl) (by decide) (by decide) hno (by unfold shR; rw [if_neg q1, if_neg q2, if_pos (by omega)]; rfl)

set_option maxRecDepth 100000 in
set_option maxHeartbeats 4000000 in
theorem c_round {l : Launch} {g : GV} {S : SS} {I : II} {X : XX} {z w : Int} {sl : Nat → Nat} (hfl : l.stackTraces = false) (hno : S.2.2 = false) (hL : LC S sl) (hK : KC I sl) (hz : -2147483648 ≤ z ∧ z < 2147483648) (hw : -2147483648 ≤ w ∧ w < 2147483648)  : CT l g mX8_round 6 1 6 [.ref 0, .int (ii z), .int (ii w)] S I X (QT (rdR I z w) S X) := by
  obtain ⟨m0, p0, p1, p2, p3, p4, p5, p6, p7, p8, p9, hE1, hE2, hC1, hC2, hT, hH, hR1, hE3, hR2⟩ := id hL
  obtain ⟨y0, y1, y1a, y2, y2a, y3, y3a, y4, y4a, y5, y5a, yr⟩ := id hE1
  obtain ⟨a0, a1, a2, a3⟩ := id hH
  obtain ⟨t0, t1, t1a, t2, t2a⟩ := id hT
  have e20 := hE2.1
  have e30 := hE3.1
  have d10 := hR1.1
  have d20 := hR2.1
  have c10 := hC1.1
  have c20 := hC2.1
  obtain ⟨hI, h24, hI2, hTI, hRd, hRs, hWs, hz01, hSl, b10, b11, b12, b13, hRc⟩ := id hK
  obtain ⟨w0, w1, w2, w3, w4, w5, w6, w7, w8, w9, w10, w11, w12, w13⟩ := id hI.1
  have hCt := ct_CI hI
  have hRt : RI (ctM I) (94 + 1) := ct_RI hI b10 hRc
  have e1t : ctM I 1 = I 1 := ct_1
  obtain ⟨n0, n1, n2, n3, n4, n5, n6, n6a, n7, n7a, n8, n8a, n9, n9a, n10, n10a, hR, hHc, hF, hG, hEc, hsp⟩ := id hC1
  obtain ⟨r0, r1, r1a, r2, r2a, r3, r3a, rr⟩ := id hR
  obtain ⟨f0, f1, f1a, f2, f2a, f3, f3a⟩ := id hF
  obtain ⟨l0, ⟨l1, l1a⟩, ⟨l2, l2a⟩, ⟨l3, l3a⟩, ⟨l4, l4a⟩, ⟨l5, l5a⟩, ⟨l6, l6a⟩, ⟨l7, l7a⟩, ⟨l8, l8a⟩, lr, ⟨l9, l9a⟩, lw⟩ := id hG
  refine v_start hfl rfl (by decide) (Nat.le_of_ble_eq_true rfl) (ls := [some (.ref 0), some (.int (ii z)), some (.int (ii w)), none, none]) rfl ?_
  refine v_aload_n dX8_round_0 rfl ?_
  refine v_cV0 dX8_round_1 lk_X8_174 (by assumption) (by decide) rfl (c_counted hfl hL hI b10) (by decide) (Nat.le_of_ble_eq_true rfl) ?_ rfl
  refine v_astn3 dX8_round_4 rfl ?_
  refine v_aload_n dX8_round_5 rfl ?_
  refine v_getr dX8_round_6 fr_X8_178 (by assumption) (by decide) rfl (by assumption) ?_
  refine v_iload_n dX8_round_9 rfl ?_
  refine v_cV1 dX8_round_10 lk_X8_188 (by assumption) (by decide) rfl (c_hasRound hfl hR hRt hz) (by decide) (Nat.le_of_ble_eq_true rfl) ?_ rfl
  have h01 := hrF_01 (ctM I) (94 + 1) z
  refine v_if_ne (tgt := 26) dX8_round_13 (by decide) (fun h13 => ?_) (fun h13 => ?_)
  · obtain ⟨k1, k2⟩ := hrF_1 h13
    have k3 := hRt.1.2
    obtain ⟨zn, rfl⟩ := Int.eq_ofNat_of_zero_le k1
    have zn9 : zn < 9 := by omega
    refine v_aload_n dX8_round_26 rfl ?_
    refine v_getr dX8_round_27 fr_X8_193 (by assumption) (by decide) rfl (by assumption) ?_
    refine v_ast4 dX8_round_30 rfl ?_
    refine v_iload_n dX8_round_32 rfl ?_
    rcases (show w = 0 ∨ w = 1 ∨ w = 2 ∨ w = 3 ∨ w = 4 ∨ w = 5 ∨ w = 6 ∨ (w < 0 ∨ 6 < w) by omega) with rfl | rfl | rfl | rfl | rfl | rfl | rfl | hw
    · refine v_tabIn (off := 43) (tgt := 76) dX8_round_33 (by omega) (by omega) rfl (by decide) ?_
      refine v_aload dX8_round_76 rfl ?_
      refine v_getr dX8_round_78 fr_X8_197 (by assumption) (by decide) rfl (by assumption) ?_
      refine v_iload_n dX8_round_81 rfl ?_
      refine v_iald (j := zn) dX8_round_82 (by assumption) (by first | rfl | omega) (by omega) ?_
      exact v_iT dX8_round_83 rfl hno (by unfold rdR; (repeat (first | rw [if_pos (by omega)] | rw [if_neg (by omega)])); first | done | rfl)
    · refine v_tabIn (off := 51) (tgt := 84) dX8_round_33 (by omega) (by omega) rfl (by decide) ?_
      refine v_aload dX8_round_84 rfl ?_
      refine v_getr dX8_round_86 fr_X8_202 (by assumption) (by decide) rfl (by assumption) ?_
      refine v_iload_n dX8_round_89 rfl ?_
      refine v_iald (j := zn) dX8_round_90 (by assumption) (by first | rfl | omega) (by omega) ?_
      exact v_iT dX8_round_91 rfl hno (by unfold rdR; (repeat (first | rw [if_pos (by omega)] | rw [if_neg (by omega)])); first | done | rfl)
    · refine v_tabIn (off := 59) (tgt := 92) dX8_round_33 (by omega) (by omega) rfl (by decide) ?_
      refine v_aload dX8_round_92 rfl ?_
      refine v_getr dX8_round_94 fr_X8_205 (by assumption) (by decide) rfl (by assumption) ?_
      refine v_iload_n dX8_round_97 rfl ?_
      refine v_iald (j := zn) dX8_round_98 (by assumption) (by first | rfl | omega) (by omega) ?_
      exact v_iT dX8_round_99 rfl hno (by unfold rdR; (repeat (first | rw [if_pos (by omega)] | rw [if_neg (by omega)])); first | done | rfl)
    · refine v_tabIn (off := 67) (tgt := 100) dX8_round_33 (by omega) (by omega) rfl (by decide) ?_
      refine v_aload dX8_round_100 rfl ?_
      refine v_getr dX8_round_102 fr_X8_208 (by assumption) (by decide) rfl (by assumption) ?_
      refine v_iload_n dX8_round_105 rfl ?_
      refine v_iald (j := zn) dX8_round_106 (by assumption) (by first | rfl | omega) (by omega) ?_
      exact v_iT dX8_round_107 rfl hno (by unfold rdR; (repeat (first | rw [if_pos (by omega)] | rw [if_neg (by omega)])); first | done | rfl)
    · refine v_tabIn (off := 75) (tgt := 108) dX8_round_33 (by omega) (by omega) rfl (by decide) ?_
      refine v_aload dX8_round_108 rfl ?_
      refine v_getr dX8_round_110 fr_X8_211 (by assumption) (by decide) rfl (by assumption) ?_
      refine v_iload_n dX8_round_113 rfl ?_
      refine v_iald (j := zn) dX8_round_114 (by assumption) (by first | rfl | omega) (by omega) ?_
      exact v_iT dX8_round_115 rfl hno (by unfold rdR; (repeat (first | rw [if_pos (by omega)] | rw [if_neg (by omega)])); first | done | rfl)
    · refine v_tabIn (off := 83) (tgt := 116) dX8_round_33 (by omega) (by omega) rfl (by decide) ?_
      refine v_aload dX8_round_116 rfl ?_
      refine v_getr dX8_round_118 fr_X8_214 (by assumption) (by decide) rfl (by assumption) ?_
      refine v_iload_n dX8_round_121 rfl ?_
      refine v_iald (j := zn) dX8_round_122 (by assumption) (by first | rfl | omega) (by omega) ?_
      exact v_iT dX8_round_123 rfl hno (by unfold rdR; (repeat (first | rw [if_pos (by omega)] | rw [if_neg (by omega)])); first | done | rfl)
    · refine v_tabIn (off := 91) (tgt := 124) dX8_round_33 (by omega) (by omega) rfl (by decide) ?_
      refine v_aload dX8_round_124 rfl ?_
      refine v_getr dX8_round_126 fr_X8_217 (by assumption) (by decide) rfl (by assumption) ?_
      refine v_iload_n dX8_round_129 rfl ?_
      refine v_iald (j := zn) dX8_round_130 (by assumption) (by first | rfl | omega) (by omega) ?_
      exact v_iT dX8_round_131 rfl hno (by unfold rdR; (repeat (first | rw [if_pos (by omega)] | rw [if_neg (by omega)])); first | done | rfl)
    · refine v_tabOut (tgt := 132) dX8_round_33 hw (by decide) ?_
      exact v_thT th_X8_220_61 rfl dX8_round_132 dX8_round_135 (Or.inl dX8_round_136) dX8_round_138 dX8_round_141 (by decide) (Nat.le_of_ble_eq_true rfl) (by decide) (by decide) hno (by unfold rdR; (repeat (first | rw [if_pos (by omega)] | rw [if_neg (by omega)])); first | done | rfl)
  · exact v_thT th_X8_191_139 rfl dX8_round_16 dX8_round_19 (Or.inl dX8_round_20) dX8_round_22 dX8_round_25 (by decide) (Nat.le_of_ble_eq_true rfl) (by decide) (by decide) hno (by unfold rdR; (repeat (first | rw [if_pos (by omega)] | rw [if_neg (by omega)])); first | done | rfl)

set_option maxRecDepth 100000 in
set_option maxHeartbeats 4000000 in
theorem c_candidate {l : Launch} {g : GV} {S : SS} {I : II} {X : XX} {c w : Int} {sl : Nat → Nat} (hfl : l.stackTraces = false) (hno : S.2.2 = false) (hL : LC S sl) (hK : KC I sl) (hc : -2147483648 ≤ c ∧ c < 2147483648) (hw : -2147483648 ≤ w ∧ w < 2147483648)  : CT l g mX8_candidate 6 1 6 [.ref 0, .int (ii c), .int (ii w)] S I X (QT (cdR I c w) S X) := by
  obtain ⟨m0, p0, p1, p2, p3, p4, p5, p6, p7, p8, p9, hE1, hE2, hC1, hC2, hT, hH, hR1, hE3, hR2⟩ := id hL
  obtain ⟨y0, y1, y1a, y2, y2a, y3, y3a, y4, y4a, y5, y5a, yr⟩ := id hE1
  obtain ⟨a0, a1, a2, a3⟩ := id hH
  obtain ⟨t0, t1, t1a, t2, t2a⟩ := id hT
  have e20 := hE2.1
  have e30 := hE3.1
  have d10 := hR1.1
  have d20 := hR2.1
  have c10 := hC1.1
  have c20 := hC2.1
  obtain ⟨hI, h24, hI2, hTI, hRd, hRs, hWs, hz01, hSl, b10, b11, b12, b13, hRc⟩ := id hK
  obtain ⟨w0, w1, w2, w3, w4, w5, w6, w7, w8, w9, w10, w11, w12, w13⟩ := id hI.1
  have hCt := ct_CI hI
  have hRt : RI (ctM I) (94 + 1) := ct_RI hI b10 hRc
  have e1t : ctM I 1 = I 1 := ct_1
  obtain ⟨n0, n1, n2, n3, n4, n5, n6, n6a, n7, n7a, n8, n8a, n9, n9a, n10, n10a, hR, hHc, hF, hG, hEc, hsp⟩ := id hC1
  obtain ⟨r0, r1, r1a, r2, r2a, r3, r3a, rr⟩ := id hR
  obtain ⟨f0, f1, f1a, f2, f2a, f3, f3a⟩ := id hF
  obtain ⟨l0, ⟨l1, l1a⟩, ⟨l2, l2a⟩, ⟨l3, l3a⟩, ⟨l4, l4a⟩, ⟨l5, l5a⟩, ⟨l6, l6a⟩, ⟨l7, l7a⟩, ⟨l8, l8a⟩, lr, ⟨l9, l9a⟩, lw⟩ := id hG
  refine v_start hfl rfl (by decide) (Nat.le_of_ble_eq_true rfl) (ls := [some (.ref 0), some (.int (ii c)), some (.int (ii w)), none]) rfl ?_
  refine v_aload_n dX8_candidate_0 rfl ?_
  refine v_iload_n dX8_candidate_1 rfl ?_
  refine v_cV1 dX8_candidate_2 lk_X8_135 (by assumption) (by decide) rfl (c_isCand hfl hL hI.1 hc) (by decide) (Nat.le_of_ble_eq_true rfl) ?_ rfl
  have h01 := icF_01 I c
  refine v_if_ne (tgt := 18) dX8_candidate_5 (by decide) (fun h5 => ?_) (fun h5 => ?_)
  · obtain ⟨k1, k2⟩ := icF_1 h5
    obtain ⟨cn, rfl⟩ := Int.eq_ofNat_of_zero_le k1
    have cn8 : cn < 8 := by omega
    refine v_aload_n dX8_candidate_18 rfl ?_
    refine v_cV0 dX8_candidate_19 lk_X8_174 (by assumption) (by decide) rfl (c_counted hfl hL hI b10) (by decide) (Nat.le_of_ble_eq_true rfl) ?_ rfl
    refine v_astn3 dX8_candidate_22 rfl ?_
    refine v_iload_n dX8_candidate_23 rfl ?_
    rcases (show w = 0 ∨ w = 1 ∨ w = 2 ∨ w = 3 ∨ w = 4 ∨ w = 5 ∨ (w < 0 ∨ 5 < w) by omega) with rfl | rfl | rfl | rfl | rfl | rfl | hw
    · refine v_tabIn (off := 40) (tgt := 64) dX8_candidate_24 (by omega) (by omega) rfl (by decide) ?_
      refine v_aload_n dX8_candidate_64 rfl ?_
      refine v_getr dX8_candidate_65 fr_X8_178 (by assumption) (by decide) rfl (by assumption) ?_
      refine v_getr dX8_candidate_68 fr_X8_222 (by assumption) (by decide) rfl (by assumption) ?_
      refine v_iload_n dX8_candidate_71 rfl ?_
      refine v_iald (j := cn) dX8_candidate_72 (by assumption) (by first | rfl | omega) (by omega) ?_
      exact v_iT dX8_candidate_73 rfl hno (by unfold cdR; (repeat (first | rw [if_pos (by omega)] | rw [if_neg (by omega)])); first | done | rfl)
    · refine v_tabIn (off := 50) (tgt := 74) dX8_candidate_24 (by omega) (by omega) rfl (by decide) ?_
      refine v_aload_n dX8_candidate_74 rfl ?_
      refine v_getr dX8_candidate_75 fr_X8_225 (by assumption) (by decide) rfl (by assumption) ?_
      refine v_getr dX8_candidate_78 fr_X8_229 (by assumption) (by decide) rfl (by assumption) ?_
      refine v_iload_n dX8_candidate_81 rfl ?_
      refine v_iald (j := cn) dX8_candidate_82 (by assumption) (by first | rfl | omega) (by omega) ?_
      exact v_iT dX8_candidate_83 rfl hno (by unfold cdR; (repeat (first | rw [if_pos (by omega)] | rw [if_neg (by omega)])); first | done | rfl)
    · refine v_tabIn (off := 60) (tgt := 84) dX8_candidate_24 (by omega) (by omega) rfl (by decide) ?_
      refine v_aload_n dX8_candidate_84 rfl ?_
      refine v_getr dX8_candidate_85 fr_X8_178 (by assumption) (by decide) rfl (by assumption) ?_
      refine v_iload_n dX8_candidate_88 rfl ?_
      refine v_cV1 dX8_candidate_89 lk_X8_234 (by assumption) (by decide) rfl (c_placeOf hfl hR hRt hCt.2.1 (by omega)) (by decide) (Nat.le_of_ble_eq_true rfl) ?_ rfl
      exact v_iT dX8_candidate_92 rfl hno (by unfold cdR; (repeat (first | rw [if_pos (by omega)] | rw [if_neg (by omega)])); first | done | rfl)
    · refine v_tabIn (off := 69) (tgt := 93) dX8_candidate_24 (by omega) (by omega) rfl (by decide) ?_
      refine v_aload_n dX8_candidate_93 rfl ?_
      refine v_getr dX8_candidate_94 fr_X8_225 (by assumption) (by decide) rfl (by assumption) ?_
      refine v_getr dX8_candidate_97 fr_X8_237 (by assumption) (by decide) rfl (by assumption) ?_
      refine v_iload_n dX8_candidate_100 rfl ?_
      refine v_iald (j := cn) dX8_candidate_101 (by assumption) (by first | rfl | omega) (by omega) ?_
      exact v_iT dX8_candidate_102 rfl hno (by unfold cdR; (repeat (first | rw [if_pos (by omega)] | rw [if_neg (by omega)])); first | done | rfl)
    · refine v_tabIn (off := 79) (tgt := 103) dX8_candidate_24 (by omega) (by omega) rfl (by decide) ?_
      refine v_aload_n dX8_candidate_103 rfl ?_
      refine v_getr dX8_candidate_104 fr_X8_225 (by assumption) (by decide) rfl (by assumption) ?_
      refine v_getr dX8_candidate_107 fr_X8_240 (by assumption) (by decide) rfl (by assumption) ?_
      refine v_iload_n dX8_candidate_110 rfl ?_
      refine v_iald (j := cn) dX8_candidate_111 (by assumption) (by first | rfl | omega) (by omega) ?_
      exact v_iT dX8_candidate_112 rfl hno (by unfold cdR; (repeat (first | rw [if_pos (by omega)] | rw [if_neg (by omega)])); first | done | rfl)
    · refine v_tabIn (off := 89) (tgt := 113) dX8_candidate_24 (by omega) (by omega) rfl (by decide) ?_
      refine v_aload_n dX8_candidate_113 rfl ?_
      refine v_getr dX8_candidate_114 fr_X8_178 (by assumption) (by decide) rfl (by assumption) ?_
      refine v_iload_n dX8_candidate_117 rfl ?_
      refine v_cV1 dX8_candidate_118 lk_X8_243 (by assumption) (by decide) rfl (c_lastVotes hfl hR hRt cn8) (by decide) (Nat.le_of_ble_eq_true rfl) ?_ rfl
      exact v_iT dX8_candidate_121 rfl hno (by unfold cdR; (repeat (first | rw [if_pos (by omega)] | rw [if_neg (by omega)])); first | done | rfl)
    · refine v_tabOut (tgt := 122) dX8_candidate_24 hw (by decide) ?_
      exact v_thT th_X8_246_61 rfl dX8_candidate_122 dX8_candidate_125 (Or.inl dX8_candidate_126) dX8_candidate_128 dX8_candidate_131 (by decide) (Nat.le_of_ble_eq_true rfl) (by decide) (by decide) hno (by unfold cdR; (repeat (first | rw [if_pos (by omega)] | rw [if_neg (by omega)])); first | done | rfl)
  · exact v_thT th_X8_141_139 rfl dX8_candidate_8 dX8_candidate_11 (Or.inl dX8_candidate_12) dX8_candidate_14 dX8_candidate_17 (by decide) (Nat.le_of_ble_eq_true rfl) (by decide) (by decide) hno (by unfold cdR; (repeat (first | rw [if_pos (by omega)] | rw [if_neg (by omega)])); first | done | rfl)

set_option maxRecDepth 100000 in
set_option maxHeartbeats 4000000 in
theorem c_where {l : Launch} {g : GV} {S : SS} {I : II} {X : XX} {z p w : Int} {sl : Nat → Nat} (hfl : l.stackTraces = false) (hno : S.2.2 = false) (hL : LC S sl) (hK : KC I sl) (hz : -2147483648 ≤ z ∧ z < 2147483648) (hp : -2147483648 ≤ p ∧ p < 2147483648) (hw : -2147483648 ≤ w ∧ w < 2147483648)  : CT l g mX8_where 6 1 6 [.ref 0, .int (ii z), .int (ii p), .int (ii w)] S I X (QT (whR I z p w) S X) := by
  obtain ⟨m0, p0, p1, p2, p3, p4, p5, p6, p7, p8, p9, hE1, hE2, hC1, hC2, hT, hH, hR1, hE3, hR2⟩ := id hL
  obtain ⟨y0, y1, y1a, y2, y2a, y3, y3a, y4, y4a, y5, y5a, yr⟩ := id hE1
  obtain ⟨a0, a1, a2, a3⟩ := id hH
  obtain ⟨t0, t1, t1a, t2, t2a⟩ := id hT
  have e20 := hE2.1
  have e30 := hE3.1
  have d10 := hR1.1
  have d20 := hR2.1
  have c10 := hC1.1
  have c20 := hC2.1
  obtain ⟨hI, h24, hI2, hTI, hRd, hRs, hWs, hz01, hSl, b10, b11, b12, b13, hRc⟩ := id hK
  obtain ⟨w0, w1, w2, w3, w4, w5, w6, w7, w8, w9, w10, w11, w12, w13⟩ := id hI.1
  have hCt := ct_CI hI
  have hRt : RI (ctM I) (94 + 1) := ct_RI hI b10 hRc
  have e1t : ctM I 1 = I 1 := ct_1
  obtain ⟨n0, n1, n2, n3, n4, n5, n6, n6a, n7, n7a, n8, n8a, n9, n9a, n10, n10a, hR, hHc, hF, hG, hEc, hsp⟩ := id hC1
  obtain ⟨r0, r1, r1a, r2, r2a, r3, r3a, rr⟩ := id hR
  obtain ⟨f0, f1, f1a, f2, f2a, f3, f3a⟩ := id hF
  obtain ⟨l0, ⟨l1, l1a⟩, ⟨l2, l2a⟩, ⟨l3, l3a⟩, ⟨l4, l4a⟩, ⟨l5, l5a⟩, ⟨l6, l6a⟩, ⟨l7, l7a⟩, ⟨l8, l8a⟩, lr, ⟨l9, l9a⟩, lw⟩ := id hG
  refine v_start hfl rfl (by decide) (Nat.le_of_ble_eq_true rfl) (ls := [some (.ref 0), some (.int (ii z)), some (.int (ii p)), some (.int (ii w)), none]) rfl ?_
  refine v_aload_n dX8_where_0 rfl ?_
  refine v_cV0 dX8_where_1 lk_X8_174 (by assumption) (by decide) rfl (c_counted hfl hL hI b10) (by decide) (Nat.le_of_ble_eq_true rfl) ?_ rfl
  refine v_ast4 dX8_where_4 rfl ?_
  refine v_aload dX8_where_6 rfl ?_
  refine v_getr dX8_where_8 fr_X8_178 (by assumption) (by decide) rfl (by assumption) ?_
  refine v_iload_n dX8_where_11 rfl ?_
  refine v_cV1 dX8_where_12 lk_X8_188 (by assumption) (by decide) rfl (c_hasRound hfl hR hRt hz) (by decide) (Nat.le_of_ble_eq_true rfl) ?_ rfl
  have h01 := hrF_01 (ctM I) (94 + 1) z
  refine v_if_ne (tgt := 28) dX8_where_15 (by decide) (fun h15 => ?_) (fun h15 => ?_)
  · obtain ⟨k1, k2⟩ := hrF_1 h15
    have k3 := hRt.1.2
    obtain ⟨zn, rfl⟩ := Int.eq_ofNat_of_zero_le k1
    have zn9 : zn < 9 := by omega
    refine v_aload_n dX8_where_28 rfl ?_
    refine v_iload_n dX8_where_29 rfl ?_
    refine v_cV1 dX8_where_30 lk_X8_151 (by assumption) (by decide) rfl (c_isPile hfl hL hCt.1 hp) (by decide) (Nat.le_of_ble_eq_true rfl) ?_ rfl
    have i01 := ilF_01 (ctM I) p
    refine v_if_ne (tgt := 46) dX8_where_33 (by decide) (fun h33 => ?_) (fun h33 => ?_)
    · obtain ⟨j1, j2⟩ := ilF_1 h33
      have j3 := hCt.1.2.2.2.1
      obtain ⟨pn, rfl⟩ := Int.eq_ofNat_of_zero_le j1
      have pn25 : pn < 25 := by omega
      have yl := (lr zn zn9).2
      have yw := (lw zn zn9).2
      refine v_iload_n dX8_where_46 rfl ?_
      refine v_if_ne (tgt := 63) dX8_where_47 (by decide) (fun h47 => ?_) (fun h47 => ?_)
      · refine v_iload_n dX8_where_63 rfl ?_
        refine v_iconst dX8_where_64 ?_
        refine v_ic_ne (tgt := 81) dX8_where_65 (by decide) (fun h65 => ?_) (fun h65 => ?_)
        · exact v_thT th_X8_265_61 rfl dX8_where_81 dX8_where_84 (Or.inr dX8_where_85) dX8_where_88 dX8_where_91 (by decide) (Nat.le_of_ble_eq_true rfl) (by decide) (by decide) hno (by unfold whR; (repeat (first | rw [if_pos (by omega)] | rw [if_neg (by omega)])); first | done | rfl)
        · refine v_aload dX8_where_68 rfl ?_
          refine v_getr dX8_where_70 fr_X8_193 (by assumption) (by decide) rfl (by assumption) ?_
          refine v_getr dX8_where_73 fr_X8_262 (by assumption) (by decide) rfl (by assumption) ?_
          refine v_iload_n dX8_where_76 rfl ?_
          refine v_aald22 (j := zn) dX8_where_77 (by assumption) (by first | rfl | omega) (by omega) ((lw zn zn9).1) ?_
          refine v_iload_n dX8_where_78 rfl ?_
          refine v_iald (j := pn) dX8_where_79 (by assumption) (by first | rfl | omega) (by omega) ?_
          exact v_iT dX8_where_80 rfl hno (by unfold whR; (repeat (first | rw [if_pos (by omega)] | rw [if_neg (by omega)])); first | done | rfl)
      · refine v_aload dX8_where_50 rfl ?_
        refine v_getr dX8_where_52 fr_X8_193 (by assumption) (by decide) rfl (by assumption) ?_
        refine v_getr dX8_where_55 fr_X8_259 (by assumption) (by decide) rfl (by assumption) ?_
        refine v_iload_n dX8_where_58 rfl ?_
        refine v_aald22 (j := zn) dX8_where_59 (by assumption) (by first | rfl | omega) (by omega) ((lr zn zn9).1) ?_
        refine v_iload_n dX8_where_60 rfl ?_
        refine v_iald (j := pn) dX8_where_61 (by assumption) (by first | rfl | omega) (by omega) ?_
        exact v_iT dX8_where_62 rfl hno (by unfold whR; (repeat (first | rw [if_pos (by omega)] | rw [if_neg (by omega)])); first | done | rfl)
    · exact v_thT th_X8_154_139 rfl dX8_where_36 dX8_where_39 (Or.inl dX8_where_40) dX8_where_42 dX8_where_45 (by decide) (Nat.le_of_ble_eq_true rfl) (by decide) (by decide) hno (by unfold whR; (repeat (first | rw [if_pos (by omega)] | rw [if_neg (by omega)])); first | done | rfl)
  · exact v_thT th_X8_191_139 rfl dX8_where_18 dX8_where_21 (Or.inl dX8_where_22) dX8_where_24 dX8_where_27 (by decide) (Nat.le_of_ble_eq_true rfl) (by decide) (by decide) hno (by unfold whR; (repeat (first | rw [if_pos (by omega)] | rw [if_neg (by omega)])); first | done | rfl)

set_option maxRecDepth 100000 in
set_option maxHeartbeats 4000000 in
theorem c_preferring {l : Launch} {g : GV} {S : SS} {I : II} {X : XX} {c o : Int} {sl : Nat → Nat} (hfl : l.stackTraces = false) (hno : S.2.2 = false) (hL : LC S sl) (hK : KC I sl) (hc : -2147483648 ≤ c ∧ c < 2147483648) (ho : -2147483648 ≤ o ∧ o < 2147483648)  : CT l g mX8_preferring 6 1 6 [.ref 0, .int (ii c), .int (ii o)] S I X (QT (pfR I c o) S X) := by
  obtain ⟨m0, p0, p1, p2, p3, p4, p5, p6, p7, p8, p9, hE1, hE2, hC1, hC2, hT, hH, hR1, hE3, hR2⟩ := id hL
  obtain ⟨y0, y1, y1a, y2, y2a, y3, y3a, y4, y4a, y5, y5a, yr⟩ := id hE1
  obtain ⟨a0, a1, a2, a3⟩ := id hH
  obtain ⟨t0, t1, t1a, t2, t2a⟩ := id hT
  have e20 := hE2.1
  have e30 := hE3.1
  have d10 := hR1.1
  have d20 := hR2.1
  have c10 := hC1.1
  have c20 := hC2.1
  obtain ⟨hI, h24, hI2, hTI, hRd, hRs, hWs, hz01, hSl, b10, b11, b12, b13, hRc⟩ := id hK
  obtain ⟨w0, w1, w2, w3, w4, w5, w6, w7, w8, w9, w10, w11, w12, w13⟩ := id hI.1
  refine v_start hfl rfl (by decide) (Nat.le_of_ble_eq_true rfl) (ls := [some (.ref 0), some (.int (ii c)), some (.int (ii o))]) rfl ?_
  refine v_aload_n dX8_preferring_0 rfl ?_
  refine v_iload_n dX8_preferring_1 rfl ?_
  refine v_cV1 dX8_preferring_2 lk_X8_135 (by assumption) (by decide) rfl (c_isCand hfl hL hI.1 hc) (by decide) (Nat.le_of_ble_eq_true rfl) ?_ rfl
  have h01 := icF_01 I c
  refine v_if_eq (tgt := 16) dX8_preferring_5 (by decide) (fun h5 => ?_) (fun h5 => ?_)
  · exact v_thT th_X8_141_139 rfl dX8_preferring_16 dX8_preferring_19 (Or.inl dX8_preferring_20) dX8_preferring_22 dX8_preferring_25 (by decide) (Nat.le_of_ble_eq_true rfl) (by decide) (by decide) hno (by unfold pfR; (repeat (first | rw [if_pos (by omega)] | rw [if_neg (by omega)])); first | done | rfl)
  · refine v_aload_n dX8_preferring_8 rfl ?_
    refine v_iload_n dX8_preferring_9 rfl ?_
    refine v_cV1 dX8_preferring_10 lk_X8_135 (by assumption) (by decide) rfl (c_isCand hfl hL hI.1 ho) (by decide) (Nat.le_of_ble_eq_true rfl) ?_ rfl
    have i01 := icF_01 I o
    refine v_if_ne (tgt := 26) dX8_preferring_13 (by decide) (fun h13 => ?_) (fun h13 => ?_)
    · have k1 := icF_1 h5
      have k2 := icF_1 h13
      refine v_aload_n dX8_preferring_26 rfl ?_
      refine v_getr dX8_preferring_27 fr_X8_10 (by assumption) (by decide) rfl (by assumption) ?_
      refine v_iload_n dX8_preferring_30 rfl ?_
      refine v_iload_n dX8_preferring_31 rfl ?_
      refine v_cV2 dX8_preferring_32 lk_X8_276 (by assumption) (by decide) rfl (c_papersPreferring hfl hE1 hI.1 (by omega) (by omega)) (by decide) (Nat.le_of_ble_eq_true rfl) ?_ rfl
      exact v_iT dX8_preferring_35 rfl hno (by unfold pfR; (repeat (first | rw [if_pos (by omega)] | rw [if_neg (by omega)])); first | done | rfl)
    · exact v_thT th_X8_141_139 rfl dX8_preferring_16 dX8_preferring_19 (Or.inl dX8_preferring_20) dX8_preferring_22 dX8_preferring_25 (by decide) (Nat.le_of_ble_eq_true rfl) (by decide) (by decide) hno (by unfold pfR; (repeat (first | rw [if_pos (by omega)] | rw [if_neg (by omega)])); first | done | rfl)
