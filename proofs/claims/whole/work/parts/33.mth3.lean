/-! THE CLASS ITSELF: comparisons, declarations, undo -/
theorem ppF_b {I : II} (h : WfE I 1) (c o : Int) : ∀ n, n ≤ 25 → 0 ≤ ppF I 1 c o n ∧ ppF I 1 c o n ≤ 99 * n
  | 0, _ => by
    show 0 ≤ (0 : Int) ∧ (0 : Int) ≤ 99 * ((0 : Nat) : Int)
    decide
  | n + 1, hn => by
    have ih := ppF_b h c o n (by omega)
    have w := h.2.2.2.2.2.2.1 n (by omega)
    unfold ppF
    split <;> omega

set_option maxRecDepth 100000 in
set_option maxHeartbeats 4000000 in
theorem c_beatsEachOther {l : Launch} {g : GV} {S : SS} {I : II} {X : XX} {c : Nat} {sl : Nat → Nat} (hfl : l.stackTraces = false) (hL : LC S sl) (hI : CI I 94 1) (hc : (c : Int) < I 1 0) : CE l g mX8_beatsEachOther 2 [.ref 0, .int (ii (c : Int))] S I X (some (.int (ii (beF I c (I 1 0).toNat 0)))) I := by
  obtain ⟨m0, p0, p1, p2, p3, p4, p5, p6, p7, p8, p9, hE1, hE2, hC1, hC2, hT, hH, hR1, hE3, hR2⟩ := id hL
  obtain ⟨y0, y1, y1a, y2, y2a, y3, y3a, y4, y4a, y5, y5a, yr⟩ := id hE1
  obtain ⟨w0, w1, w2, w3, w4, w5, w6, w7, w8, w9, w10, w11, w12, w13⟩ := id hI.1
  obtain ⟨u, hu⟩ := Int.eq_ofNat_of_zero_le w4
  have hw2 : I 1 2 = ((I 1 2).toNat : Int) := by omega
  obtain ⟨n, hn⟩ := Int.eq_ofNat_of_zero_le (show 0 ≤ I 1 0 by omega)
  rw [show (I 1 0).toNat = n by rw [hn]; rfl]
  have L : ∀ k : Nat, k ≤ n → V l g mX8_beatsEachOther 2 (Zm g (QE (some (.int (ii (beF I c (n - k) k)))) S I X)) 0 0 2 [some (.ref 0), some (.int (ii (c : Int))), some (.int (ii (k : Int)))] [] S I X := by
    refine loop_up fun k hk ih => ?_
    refine v_iload_n dX8_beatsEachOther_2 rfl ?_
    refine v_aload_n dX8_beatsEachOther_3 rfl ?_
    refine v_getr dX8_beatsEachOther_4 fr_X8_10 (by assumption) (by decide) rfl (by assumption) ?_
    refine v_geti dX8_beatsEachOther_7 fr_X8_70 (by assumption) (by decide) rfl ?_
    refine v_ic_ge (tgt := 61) dX8_beatsEachOther_10 (by decide) (fun h10 => ?_) (fun h10 => ?_)
    · refine v_iconst dX8_beatsEachOther_61 ?_
      exact v_zE dX8_beatsEachOther_62 rfl (by first | exact Or.inl rfl | exact Or.inr rfl | omega) (by rw [show n - k = 0 by omega]; rfl) (rfl)
    · have ex : beF I c (n - k) k = if (k : Int) = c then beF I c (n - (k + 1)) (k + 1) else if ¬ btI (I 1 2).toNat k = 0 then beF I c (n - (k + 1)) (k + 1) else if ppF I 1 c k (I 1 4).toNat ≤ ppF I 1 k c (I 1 4).toNat then 0 else beF I c (n - (k + 1)) (k + 1) := by
        rw [show n - k = (n - (k + 1)) + 1 by omega]
        rfl
      have h01 := btI_01 (I 1 2).toNat k
      have p1 := ppF_b hI.1 c k (I 1 4).toNat (by omega)
      have p2 := ppF_b hI.1 k c (I 1 4).toNat (by omega)
      refine v_iload_n dX8_beatsEachOther_13 rfl ?_
      refine v_iload_n dX8_beatsEachOther_14 rfl ?_
      refine v_ic_eq (tgt := 55) dX8_beatsEachOther_15 (by decide) (fun h15 => ?_) (fun h15 => ?_)
      · refine v_iinc2 dX8_beatsEachOther_55 rfl ?_
        refine v_goto (tgt := 2) dX8_beatsEachOther_58 (by decide) ?_
        rw [ex]
        (repeat (first | rw [if_pos (by omega)] | rw [if_neg (by omega)]))
        exact ih (k + 1) (by omega) (by omega)
      · refine v_aload_n dX8_beatsEachOther_18 rfl ?_
        refine v_getr dX8_beatsEachOther_19 fr_X8_10 (by assumption) (by decide) rfl (by assumption) ?_
        refine v_geti dX8_beatsEachOther_22 fr_X8_144 (by assumption) (by decide) rfl ?_
        rw [hw2]
        refine v_iload_n dX8_beatsEachOther_25 rfl ?_
        refine v_cS2 dX8_beatsEachOther_26 lk_X8_147 (c_contains (s := (I 1 2).toNat) hfl (by omega) (by omega)) (by decide) (Nat.le_of_ble_eq_true rfl) ?_ rfl
        refine v_if_ne (tgt := 55) dX8_beatsEachOther_29 (by decide) (fun h29 => ?_) (fun h29 => ?_)
        · refine v_iinc2 dX8_beatsEachOther_55 rfl ?_
          refine v_goto (tgt := 2) dX8_beatsEachOther_58 (by decide) ?_
          rw [ex]
          (repeat (first | rw [if_pos (by omega)] | rw [if_neg (by omega)]))
          exact ih (k + 1) (by omega) (by omega)
        · refine v_aload_n dX8_beatsEachOther_32 rfl ?_
          refine v_getr dX8_beatsEachOther_33 fr_X8_10 (by assumption) (by decide) rfl (by assumption) ?_
          refine v_iload_n dX8_beatsEachOther_36 rfl ?_
          refine v_iload_n dX8_beatsEachOther_37 rfl ?_
          refine v_cV2 dX8_beatsEachOther_38 lk_X8_276 (by assumption) (by decide) rfl (c_papersPreferring hfl hE1 hI.1 (by omega) (by omega)) (by decide) (Nat.le_of_ble_eq_true rfl) ?_ rfl
          refine v_aload_n dX8_beatsEachOther_41 rfl ?_
          refine v_getr dX8_beatsEachOther_42 fr_X8_10 (by assumption) (by decide) rfl (by assumption) ?_
          refine v_iload_n dX8_beatsEachOther_45 rfl ?_
          refine v_iload_n dX8_beatsEachOther_46 rfl ?_
          refine v_cV2 dX8_beatsEachOther_47 lk_X8_276 (by assumption) (by decide) rfl (c_papersPreferring hfl hE1 hI.1 (by omega) (by omega)) (by decide) (Nat.le_of_ble_eq_true rfl) ?_ rfl
          refine v_ic_gt (tgt := 55) dX8_beatsEachOther_50 (by decide) (fun h50 => ?_) (fun h50 => ?_)
          · refine v_iinc2 dX8_beatsEachOther_55 rfl ?_
            refine v_goto (tgt := 2) dX8_beatsEachOther_58 (by decide) ?_
            rw [ex]
            (repeat (first | rw [if_pos (by omega)] | rw [if_neg (by omega)]))
            exact ih (k + 1) (by omega) (by omega)
          · refine v_iconst dX8_beatsEachOther_53 ?_
            exact v_zE dX8_beatsEachOther_54 rfl (by first | exact Or.inl rfl | exact Or.inr rfl | omega) (by rw [ex]; (repeat (first | rw [if_pos (by omega)] | rw [if_neg (by omega)]))) (rfl)
  refine v_startE hfl rfl (by decide) (Nat.le_of_ble_eq_true rfl) (ls := [some (.ref 0), some (.int (ii (c : Int))), none]) rfl ?_
  refine v_iconst dX8_beatsEachOther_0 ?_
  refine v_istn2 dX8_beatsEachOther_1 rfl ?_
  exact L 0 (Nat.zero_le _)

theorem beF_01 (I : II) (c : Int) : ∀ n k, beF I c n k = 0 ∨ beF I c n k = 1
  | 0, _ => Or.inr rfl
  | n + 1, k => by
    have ih := beF_01 I c n (k + 1)
    unfold beF
    split
    · exact ih
    · split
      · exact ih
      · split
        · exact Or.inl rfl
        · exact ih

set_option maxRecDepth 100000 in
set_option maxHeartbeats 4000000 in
theorem c_beatsAll {l : Launch} {g : GV} {S : SS} {I : II} {X : XX} {sl : Nat → Nat} (hfl : l.stackTraces = false) (hL : LC S sl) (hI : CI I 94 1) : CE l g mX8_beatsAll 6 [.ref 0] S I X (some (.int (ii (baF I (I 1 0).toNat 0)))) I := by
  obtain ⟨m0, p0, p1, p2, p3, p4, p5, p6, p7, p8, p9, hE1, hE2, hC1, hC2, hT, hH, hR1, hE3, hR2⟩ := id hL
  obtain ⟨y0, y1, y1a, y2, y2a, y3, y3a, y4, y4a, y5, y5a, yr⟩ := id hE1
  obtain ⟨w0, w1, w2, w3, w4, w5, w6, w7, w8, w9, w10, w11, w12, w13⟩ := id hI.1
  have hw2 : I 1 2 = ((I 1 2).toNat : Int) := by omega
  obtain ⟨n, hn⟩ := Int.eq_ofNat_of_zero_le (show 0 ≤ I 1 0 by omega)
  rw [show (I 1 0).toNat = n by rw [hn]; rfl]
  have L : ∀ k : Nat, k ≤ n → V l g mX8_beatsAll 6 (Zm g (QE (some (.int (ii (baF I (n - k) k)))) S I X)) 0 0 2 [some (.ref 0), some (.int (ii (k : Int)))] [] S I X := by
    refine loop_up fun k hk ih => ?_
    refine v_iload_n dX8_beatsAll_2 rfl ?_
    refine v_aload_n dX8_beatsAll_3 rfl ?_
    refine v_getr dX8_beatsAll_4 fr_X8_10 (by assumption) (by decide) rfl (by assumption) ?_
    refine v_geti dX8_beatsAll_7 fr_X8_70 (by assumption) (by decide) rfl ?_
    refine v_ic_ge (tgt := 43) dX8_beatsAll_10 (by decide) (fun h10 => ?_) (fun h10 => ?_)
    · refine v_iconst dX8_beatsAll_43 ?_
      exact v_iE dX8_beatsAll_44 rfl (by rw [show n - k = 0 by omega]; rfl) (rfl)
    · have ex : baF I (n - k) k = if ¬ btI (I 1 2).toNat k = 0 then baF I (n - (k + 1)) (k + 1) else if beF I k (I 1 0).toNat 0 = 0 then baF I (n - (k + 1)) (k + 1) else k := by
        rw [show n - k = (n - (k + 1)) + 1 by omega]
        rfl
      have h01 := btI_01 (I 1 2).toNat k
      have i01 := beF_01 I k (I 1 0).toNat 0
      refine v_aload_n dX8_beatsAll_13 rfl ?_
      refine v_getr dX8_beatsAll_14 fr_X8_10 (by assumption) (by decide) rfl (by assumption) ?_
      refine v_geti dX8_beatsAll_17 fr_X8_144 (by assumption) (by decide) rfl ?_
      rw [hw2]
      refine v_iload_n dX8_beatsAll_20 rfl ?_
      refine v_cS2 dX8_beatsAll_21 lk_X8_147 (c_contains (s := (I 1 2).toNat) hfl (by omega) (by omega)) (by decide) (Nat.le_of_ble_eq_true rfl) ?_ rfl
      refine v_if_ne (tgt := 37) dX8_beatsAll_24 (by decide) (fun h24 => ?_) (fun h24 => ?_)
      · refine v_iinc1 dX8_beatsAll_37 rfl ?_
        refine v_goto (tgt := 2) dX8_beatsAll_40 (by decide) ?_
        rw [ex]
        (repeat (first | rw [if_pos (by omega)] | rw [if_neg (by omega)]))
        exact ih (k + 1) (by omega) (by omega)
      · refine v_aload_n dX8_beatsAll_27 rfl ?_
        refine v_iload_n dX8_beatsAll_28 rfl ?_
        refine v_cV1 dX8_beatsAll_29 lk_X8_280 (by assumption) (by decide) rfl (c_beatsEachOther hfl hL hI (by omega)) (by decide) (Nat.le_of_ble_eq_true rfl) ?_ rfl
        refine v_if_eq (tgt := 37) dX8_beatsAll_32 (by decide) (fun h32 => ?_) (fun h32 => ?_)
        · refine v_iinc1 dX8_beatsAll_37 rfl ?_
          refine v_goto (tgt := 2) dX8_beatsAll_40 (by decide) ?_
          rw [ex]
          (repeat (first | rw [if_pos (by omega)] | rw [if_neg (by omega)]))
          exact ih (k + 1) (by omega) (by omega)
        · refine v_iload_n dX8_beatsAll_35 rfl ?_
          exact v_iE dX8_beatsAll_36 rfl (by rw [ex]; (repeat (first | rw [if_pos (by omega)] | rw [if_neg (by omega)]))) (rfl)
  refine v_startE hfl rfl (by decide) (Nat.le_of_ble_eq_true rfl) (ls := [some (.ref 0), none]) rfl ?_
  refine v_iconst dX8_beatsAll_0 ?_
  refine v_istn1 dX8_beatsAll_1 rfl ?_
  exact L 0 (Nat.zero_le _)

set_option maxRecDepth 100000 in
set_option maxHeartbeats 4000000 in
theorem c_points {l : Launch} {g : GV} {S : SS} {I : II} {X : XX} {c : Int} {sl : Nat → Nat} (hfl : l.stackTraces = false) (hno : S.2.2 = false) (hL : LC S sl) (hK : KC I sl) (hc : -2147483648 ≤ c ∧ c < 2147483648)  : CT l g mX8_points 6 1 6 [.ref 0, .int (ii c)] S I X (QT (ptR I c) S X) := by
  obtain ⟨m0, p0, p1, p2, p3, p4, p5, p6, p7, p8, p9, hE1, hE2, hC1, hC2, hT, hH, hR1, hE3, hR2⟩ := id hL
  obtain ⟨y0, y1, y1a, y2, y2a, y3, y3a, y4, y4a, y5, y5a, yr⟩ := id hE1
  obtain ⟨a0, a1, a2, a3⟩ := id hH
  obtain ⟨t0, t1, t1a, t2, t2a⟩ := id hT
  have e20 := hE2.1
  have e30 := hE3.1
  have d10 := hR1.1
  have d20 := hR2.1
  have c10 := hC1.1
  have c20 := hC2.1
  obtain ⟨hI, h24, hI2, hTI, hRd, hRs, hWs, hz01, hSl, b10, b11, b12, b13, hRc⟩ := id hK
  obtain ⟨w0, w1, w2, w3, w4, w5, w6, w7, w8, w9, w10, w11, w12, w13⟩ := id hI.1
  refine v_start hfl rfl (by decide) (Nat.le_of_ble_eq_true rfl) (ls := [some (.ref 0), some (.int (ii c)), none, none]) rfl ?_
  refine v_aload_n dX8_points_0 rfl ?_
  refine v_iload_n dX8_points_1 rfl ?_
  refine v_cV1 dX8_points_2 lk_X8_135 (by assumption) (by decide) rfl (c_isCand hfl hL hI.1 hc) (by decide) (Nat.le_of_ble_eq_true rfl) ?_ rfl
  have h01 := icF_01 I c
  refine v_if_ne (tgt := 18) dX8_points_5 (by decide) (fun h5 => ?_) (fun h5 => ?_)
  · refine v_iconst dX8_points_18 ?_
    refine v_istn2 dX8_points_19 rfl ?_
    refine v_iconst dX8_points_20 ?_
    refine v_istn3 dX8_points_21 rfl ?_
    have hcc : ¬ icF I c = 0 := h5
    have hc1 := icF_1 h5
    obtain ⟨n, hn⟩ := Int.eq_ofNat_of_zero_le (show 0 ≤ I 1 0 by omega)
    have L : ∀ k : Nat, k ≤ n → V l g mX8_points 6 (Zm g (QT (ptR I c) S X)) 1 6 22 [some (.ref 0), some (.int (ii c)), some (.int (ii (ptF I c k))), some (.int (ii (k : Int)))] [] S I X := by
      refine loop_up fun k hk ih => ?_
      refine v_iload_n dX8_points_22 rfl ?_
      refine v_aload_n dX8_points_23 rfl ?_
      refine v_getr dX8_points_24 fr_X8_10 (by assumption) (by decide) rfl (by assumption) ?_
      refine v_geti dX8_points_27 fr_X8_70 (by assumption) (by decide) rfl ?_
      refine v_ic_ge (tgt := 51) dX8_points_30 (by decide) (fun h30 => ?_) (fun h30 => ?_)
      · obtain rfl : k = n := by omega
        refine v_iload_n dX8_points_51 rfl ?_
        exact v_iT dX8_points_52 rfl hno (by unfold ptR; rw [if_neg hcc, hn]; rfl)
      · refine v_iload_n dX8_points_33 rfl ?_
        refine v_aload_n dX8_points_34 rfl ?_
        refine v_getr dX8_points_35 fr_X8_10 (by assumption) (by decide) rfl (by assumption) ?_
        refine v_iload_n dX8_points_38 rfl ?_
        refine v_iload_n dX8_points_39 rfl ?_
        refine v_cV2 dX8_points_40 lk_X8_276 (by assumption) (by decide) rfl (c_papersPreferring hfl hE1 hI.1 (by omega) (by omega)) (by decide) (Nat.le_of_ble_eq_true rfl) ?_ rfl
        refine v_iadd dX8_points_43 ?_
        refine v_istn2 dX8_points_44 rfl ?_
        refine v_iinc3 dX8_points_45 rfl ?_
        refine v_goto (tgt := 22) dX8_points_48 (by decide) ?_
        exact ih (k + 1) (by omega) (by omega)
    exact L 0 (Nat.zero_le _)
  · exact v_thT th_X8_141_139 rfl dX8_points_8 dX8_points_11 (Or.inl dX8_points_12) dX8_points_14 dX8_points_17 (by decide) (Nat.le_of_ble_eq_true rfl) (by decide) (by decide) hno (by unfold ptR; (repeat (first | rw [if_pos (by omega)] | rw [if_neg (by omega)])); first | done | rfl)

set_option maxRecDepth 100000 in
set_option maxHeartbeats 4000000 in
theorem c_declare {l : Launch} {g : GV} {S : SS} {I : II} {X : XX} {sl : Nat → Nat} (hfl : l.stackTraces = false) (hL : LC S sl) (hK : KC I sl) : CE l g mX8_declare 6 [.ref 0] S I X (some (.int (ii (dcM I 451 1)))) (dcM I) := by
  obtain ⟨m0, p0, p1, p2, p3, p4, p5, p6, p7, p8, p9, hE1, hE2, hC1, hC2, hT, hH, hR1, hE3, hR2⟩ := id hL
  obtain ⟨hI, h24, hI2, hTI, hRd, hRs, hWs, hz01, hSl, b10, b11, b12, b13, hRc⟩ := id hK
  obtain ⟨n0, n1, n2, n3, n4, n5, n6, n6a, n7, n7a, n8, n8a, n9, n9a, n10, n10a, hR, hHc, hF, hG, hEc, hsp⟩ := id hC1
  obtain ⟨r0, r1, r1a, r2, r2a, r3, r3a, rr⟩ := id hR
  obtain ⟨f0, f1, f1a, f2, f2a, f3, f3a⟩ := id hF
  obtain ⟨l0, ⟨l1, l1a⟩, ⟨l2, l2a⟩, ⟨l3, l3a⟩, ⟨l4, l4a⟩, ⟨l5, l5a⟩, ⟨l6, l6a⟩, ⟨l7, l7a⟩, ⟨l8, l8a⟩, lr, ⟨l9, l9a⟩, lw⟩ := id hG
  obtain ⟨d0, d1, d1a, d2, d2a, d3, d3a, dd⟩ := id hR1
  refine v_startE hfl rfl (by decide) (Nat.le_of_ble_eq_true rfl) (ls := [some (.ref 0)]) rfl ?_
  refine v_aload_n dX8_declare_0 rfl ?_
  refine v_getr dX8_declare_1 fr_X8_51 (by assumption) (by decide) rfl (by assumption) ?_
  refine v_aload_n dX8_declare_4 rfl ?_
  refine v_cV0 dX8_declare_5 lk_X8_174 (by assumption) (by decide) rfl (c_counted hfl hL hI b10) (by decide) (Nat.le_of_ble_eq_true rfl) ?_ rfl
  refine v_getr dX8_declare_8 fr_X8_178 (by assumption) (by decide) rfl (by assumption) ?_
  refine v_cV1n dX8_declare_11 lk_X8_283 (by assumption) (by decide) rfl (c_copyResult hfl hR hR1) (by decide) (Nat.le_of_ble_eq_true rfl) ?_ rfl
  refine v_aload_n dX8_declare_14 rfl ?_
  refine v_iconst dX8_declare_15 ?_
  refine v_putz dX8_declare_16 fr_X8_82 (by assumption) (by decide) rfl (Or.inr rfl) ?_
  refine v_aload_n dX8_declare_19 rfl ?_
  refine v_getr dX8_declare_20 fr_X8_51 (by assumption) (by decide) rfl (by assumption) ?_
  refine v_geti dX8_declare_23 fr_X8_248 (by assumption) (by decide) rfl ?_
  exact v_iE dX8_declare_26 rfl (rfl) (rfl)

theorem ct_hi {I : II} {x : Nat} (h : 146 ≤ x) (hr : ∀ J : II, runM J 94 1 x = J x) : ctM I x = I x := by
  unfold ctM
  split
  · rw [up_ne (by omega), hr]
  · rfl
theorem sendM_h {I : II} {c e p x : Nat} {r : Int} (h : c + 52 ≤ x) (hW : WfE I e) (hp : p < 25) : sendM I c e p r x = I x := by
  unfold sendM
  split
  · rw [up_ne (by omega), up_ne (by omega), up_ne (by omega), up_ne (by omega)]
  · rw [up_ne (by omega), up_ne (by omega)]
theorem elM_h {I : II} {c q r x : Nat} {rs : Int} (h : c + 52 ≤ x) : elM I c q r rs x = I x := by
  unfold elM elI2
  rw [up_ne (by omega), up_ne (by omega), up_ne (by omega), up_ne (by omega), up_ne (by omega), up_ne (by omega)]
  split
  · rw [up_ne (by omega), up_ne (by omega)]
  · rfl
theorem ew_h {c e r x : Nat} (hx : c + 52 ≤ x) : ∀ k (I : II), ewM c e r k I x = I x
  | 0, _ => rfl
  | k + 1, I => by
    unfold ewM
    split
    · exact chJ_ne (by omega)
    · split
      · exact chJ_ne (by omega)
      · rw [ew_h hx k, elM_h hx, chJ_ne (by omega)]
theorem ea_h {c e r x : Nat} (hx : c + 52 ≤ x) : ∀ k (I : II), eaM c e r k I x = I x
  | 0, _ => rfl
  | k + 1, I => by
    unfold eaM
    split
    · rfl
    · split
      · rw [ea_h hx k, chJ_ne (by omega)]
      · rw [ea_h hx k, elM_h hx, chJ_ne (by omega)]
theorem send_h {I : II} {c e p x : Nat} {r : Int} (h : c + 52 ≤ x) : sendM I c e p r x = I x := by
  unfold sendM
  split
  · rw [up_ne (by omega), up_ne (by omega), up_ne (by omega), up_ne (by omega)]
  · rw [up_ne (by omega), up_ne (by omega)]
theorem ts_h {c e : Nat} {r q pa su sm : Int} {I : II} {x : Nat} (h : c + 52 ≤ x) : ∀ p, (tsF c e r q pa su sm I p).1 x = I x
  | 0 => rfl
  | p + 1 => by
    unfold tsF
    split
    · exact ts_h h p
    · show sendM _ _ _ _ _ x = _
      rw [send_h h]
      unfold tsJ
      rw [up_ne (by omega)]
      exact ts_h h p
theorem tr_h {I : II} {c e q r x : Nat} (h : c + 52 ≤ x) : trM I c e q r x = I x := by
  unfold trM evM
  rw [up_ne (by omega), up_ne (by omega), up_ne (by omega), up_ne (by omega), up_ne (by omega), up_ne (by omega)]
  exact ts_h h _
theorem xwF_h {c e : Nat} {r w : Int} {I : II} {x : Nat} (h : c + 52 ≤ x) : ∀ p, (xwF c e r w I p).1 x = I x
  | 0 => rfl
  | p + 1 => by
    unfold xwF
    split
    · show sendM _ _ _ _ _ x = _
      rw [send_h h]
      exact xwF_h h p
    · exact xwF_h h p
theorem xwM_h {I : II} {c e r x : Nat} (h : c + 52 ≤ x) : xwM I c e r x = I x := by
  unfold xwM
  split
  · exact chJ_ne (by omega)
  · unfold xwL evM
    rw [up_ne (by omega), up_ne (by omega), up_ne (by omega), xwF_h h]
    unfold xwI
    rw [up_ne (by omega), up_ne (by omega), up_ne (by omega), up_ne (by omega), up_ne (by omega), up_ne (by omega), chJ_ne (by omega)]
theorem pr_h {I : II} {c e r x : Nat} (hx : c + 52 ≤ x) : (prF I c e r).2 x = I x := by
  have k : prJ I c e r x = I x := ew_h hx _ _
  unfold prF
  generalize prJ I c e r = J at k ⊢
  split
  · exact k
  · split
    · exact (ea_h hx _ _).trans k
    · show prK J c e r x = _
      unfold prK
      split
      · rw [xwM_h hx, chJ_ne (by omega)]; exact k
      · rw [tr_h hx, chJ_ne (by omega)]; exact k
theorem rb_h {I : II} {c e r x : Nat} (h : c + 52 ≤ x) (hr : r < 9) : rbM I c e r x = I x := by
  unfold rbM logM lgI
  rw [cpy_ne (by omega), cpy_ne (by omega), cpy_ne (by omega), up_ne (by omega), up_ne (by omega), up_ne (by omega), up_ne (by omega), up_ne (by omega), up_ne (by omega), up_ne (by omega), up_ne (by omega), up_ne (by omega)]
theorem rdL_h {c e x : Nat} (hx : c + 52 ≤ x) : ∀ k r (I : II), r + k ≤ 9 → rdL c e k r I x = I x
  | 0, _, _, _ => rfl
  | k + 1, r, I, hk => by
    unfold rdL
    split
    · rw [pr_h hx, rb_h hx (by omega)]
    · rw [rdL_h hx k _ _ (by omega), pr_h hx, rb_h hx (by omega)]
theorem sp_hx {I : II} {c e x : Nat} (h : c + 52 ≤ x) : ∀ k, foldUp (spS c e) (spI I c e) k x = I x
  | 0 => by
    show spI I c e x = I x
    unfold spI
    rw [up_ne (by omega), up_ne (by omega), up_ne (by omega)]
  | k + 1 => by
    show spS c e k _ x = I x
    unfold spS
    rw [send_h h, up_ne (by omega), up_ne (by omega)]
    exact sp_hx h k
theorem sc_hx {I : II} {c e x : Nat} (h1 : c + 52 ≤ x) : ∀ k, foldUp (stS I c e) (up (up (up I c 10 0) c 11 0) (c + 1) 1 0) k x = I x
  | 0 => by
    show up (up (up I c 10 0) c 11 0) (c + 1) 1 0 x = I x
    rw [up_ne (by omega), up_ne (by omega), up_ne (by omega)]
  | k + 1 => by
    show stS I c e k _ x = I x
    unfold stS
    rw [up_ne (by omega), up_ne (by omega), up_ne (by omega), up_ne (by omega), up_ne (by omega), up_ne (by omega)]
    exact sc_hx h1 k
/-- a count leaves the cells behind it -/
theorem run_h {I : II} {c e x : Nat} (hx : c + 52 ≤ x) : runM I c e x = I x := by
  rw [runM_eq, rdL_h hx 9 0 _ (by omega)]
  unfold startPM
  rw [sp_hx hx]
  exact sc_hx hx 8
theorem ct_h {I : II} {x : Nat} (h : 146 ≤ x) : ctM I x = I x := ct_hi h fun J => run_h (by omega)
theorem ct_b {I : II} {k : Nat} (h : k ≠ 10) : ctM I 0 k = I 0 k := by
  unfold ctM
  split
  · rw [up_nk h, run_e (by omega)]
  · rfl

set_option maxRecDepth 100000 in
set_option maxHeartbeats 4000000 in
theorem c_recount {l : Launch} {g : GV} {S : SS} {I : II} {X : XX} {w : Int} {sl : Nat → Nat} (hfl : l.stackTraces = false) (hno : S.2.2 = false) (hL : LC S sl) (hK : KC I sl) (hw : -2147483648 ≤ w ∧ w < 2147483648)  : CT l g mX8_recount 6 1 6 [.ref 0, .int (ii w)] S I X (QT (rcR I w) S X) := by
  obtain ⟨m0, p0, p1, p2, p3, p4, p5, p6, p7, p8, p9, hE1, hE2, hC1, hC2, hT, hH, hR1, hE3, hR2⟩ := id hL
  obtain ⟨y0, y1, y1a, y2, y2a, y3, y3a, y4, y4a, y5, y5a, yr⟩ := id hE1
  obtain ⟨a0, a1, a2, a3⟩ := id hH
  obtain ⟨t0, t1, t1a, t2, t2a⟩ := id hT
  have e20 := hE2.1
  have e30 := hE3.1
  have d10 := hR1.1
  have d20 := hR2.1
  have c10 := hC1.1
  have c20 := hC2.1
  obtain ⟨hI, h24, hI2, hTI, hRd, hRs, hWs, hz01, hSl, b10, b11, b12, b13, hRc⟩ := id hK
  obtain ⟨w0, w1, w2, w3, w4, w5, w6, w7, w8, w9, w10, w11, w12, w13⟩ := id hI.1
  have hCt := ct_CI hI
  have hRt : RI (ctM I) (94 + 1) := ct_RI hI b10 hRc
  have e1t : ctM I 1 = I 1 := ct_1
  obtain ⟨n0, n1, n2, n3, n4, n5, n6, n6a, n7, n7a, n8, n8a, n9, n9a, n10, n10a, hR, hHc, hF, hG, hEc, hsp⟩ := id hC1
  obtain ⟨r0, r1, r1a, r2, r2a, r3, r3a, rr⟩ := id hR
  obtain ⟨f0, f1, f1a, f2, f2a, f3, f3a⟩ := id hF
  obtain ⟨l0, ⟨l1, l1a⟩, ⟨l2, l2a⟩, ⟨l3, l3a⟩, ⟨l4, l4a⟩, ⟨l5, l5a⟩, ⟨l6, l6a⟩, ⟨l7, l7a⟩, ⟨l8, l8a⟩, lr, ⟨l9, l9a⟩, lw⟩ := id hG
  obtain ⟨d0, d1, d1a, d2, d2a, d3, d3a, dd⟩ := id hR1
  have hRd2 : RI (ctM I) 451 := by unfold RI at *; rw [ct_h (by omega)]; exact hRd
  obtain ⟨n, hn⟩ := Int.eq_ofNat_of_zero_le (show 0 ≤ I 1 0 by omega)
  refine v_start hfl rfl (by decide) (Nat.le_of_ble_eq_true rfl) (ls := [some (.ref 0), some (.int (ii w)), none]) rfl ?_
  refine v_iload_n dX8_recount_0 rfl ?_
  refine v_if_lt (tgt := 9) dX8_recount_1 (by decide) (fun h1 => ?_) (fun h1 => ?_)
  · exact v_thT th_X8_286_61 rfl dX8_recount_9 dX8_recount_12 (Or.inr dX8_recount_13) dX8_recount_16 dX8_recount_19 (by decide) (Nat.le_of_ble_eq_true rfl) (by decide) (by decide) hno (by unfold rcR; (repeat (first | rw [if_pos (by omega)] | rw [if_neg (by omega)])); first | done | rfl | (rw [hn]; rfl))
  · refine v_iload_n dX8_recount_4 rfl ?_
    refine v_iconst dX8_recount_5 ?_
    refine v_ic_le (tgt := 20) dX8_recount_6 (by decide) (fun h6 => ?_) (fun h6 => ?_)
    · refine v_aload_n dX8_recount_20 rfl ?_
      refine v_geti dX8_recount_21 fr_X8_82 (by assumption) (by decide) rfl ?_
      refine v_if_ne (tgt := 38) dX8_recount_24 (by decide) (fun h24 => ?_) (fun h24 => ?_)
      · refine v_aload_n dX8_recount_38 rfl ?_
        refine v_cV0 dX8_recount_39 lk_X8_174 (by assumption) (by decide) rfl (c_counted hfl hL hI b10) (by decide) (Nat.le_of_ble_eq_true rfl) ?_ rfl
        refine v_getr dX8_recount_42 fr_X8_178 (by assumption) (by decide) rfl (by assumption) ?_
        refine v_astn2 dX8_recount_45 rfl ?_
        refine v_iload_n dX8_recount_46 rfl ?_
        refine v_if_ne (tgt := 66) dX8_recount_47 (by decide) (fun h47 => ?_) (fun h47 => ?_)
        · refine v_iload_n dX8_recount_66 rfl ?_
          refine v_iconst dX8_recount_67 ?_
          refine v_ic_ne (tgt := 82) dX8_recount_68 (by decide) (fun h68 => ?_) (fun h68 => ?_)
          · refine v_aload_n dX8_recount_82 rfl ?_
            refine v_aload_n dX8_recount_83 rfl ?_
            refine v_getr dX8_recount_84 fr_X8_51 (by assumption) (by decide) rfl (by assumption) ?_
            refine v_aload_n dX8_recount_87 rfl ?_
            refine v_getr dX8_recount_88 fr_X8_10 (by assumption) (by decide) rfl (by assumption) ?_
            refine v_geti dX8_recount_91 fr_X8_70 (by assumption) (by decide) rfl ?_
            rw [e1t, hn]
            refine v_cV2 dX8_recount_94 lk_X8_298 (by assumption) (by decide) rfl (c_firstOtherRound (n := n) hfl hR hR1 hRt hRd2 hCt.2.1 (by omega)) (by decide) (Nat.le_of_ble_eq_true rfl) ?_ rfl
            exact v_iT dX8_recount_97 rfl hno (by unfold rcR; (repeat (first | rw [if_pos (by omega)] | rw [if_neg (by omega)])); first | done | rfl | (rw [hn]; rfl))
          · refine v_aload_n dX8_recount_71 rfl ?_
            refine v_aload_n dX8_recount_72 rfl ?_
            refine v_getr dX8_recount_73 fr_X8_51 (by assumption) (by decide) rfl (by assumption) ?_
            refine v_cV1 dX8_recount_76 lk_X8_294 (by assumption) (by decide) rfl (c_firstOtherPlace hfl hR hR1 hRt hRd2 hCt.2.1) (by decide) (Nat.le_of_ble_eq_true rfl) ?_ rfl
            refine v_goto (tgt := 97) dX8_recount_79 (by decide) ?_
            exact v_iT dX8_recount_97 rfl hno (by unfold rcR; (repeat (first | rw [if_pos (by omega)] | rw [if_neg (by omega)])); first | done | rfl | (rw [hn]; rfl))
        · refine v_aload_n dX8_recount_50 rfl ?_
          refine v_aload_n dX8_recount_51 rfl ?_
          refine v_getr dX8_recount_52 fr_X8_51 (by assumption) (by decide) rfl (by assumption) ?_
          refine v_aload_n dX8_recount_55 rfl ?_
          refine v_getr dX8_recount_56 fr_X8_10 (by assumption) (by decide) rfl (by assumption) ?_
          refine v_geti dX8_recount_59 fr_X8_70 (by assumption) (by decide) rfl ?_
          rw [e1t, hn]
          refine v_cV2 dX8_recount_62 lk_X8_290 (by assumption) (by decide) rfl (c_otherStatuses (n := n) hfl hR hR1 hCt.2.1 (by omega)) (by decide) (Nat.le_of_ble_eq_true rfl) ?_ rfl
          exact v_iT dX8_recount_65 rfl hno (by unfold rcR; (repeat (first | rw [if_pos (by omega)] | rw [if_neg (by omega)])); first | done | rfl | (rw [hn]; rfl))
      · exact v_thT th_X8_288_93 rfl dX8_recount_27 dX8_recount_30 (Or.inr dX8_recount_31) dX8_recount_34 dX8_recount_37 (by decide) (Nat.le_of_ble_eq_true rfl) (by decide) (by decide) hno (by unfold rcR; (repeat (first | rw [if_pos (by omega)] | rw [if_neg (by omega)])); first | done | rfl | (rw [hn]; rfl))
    · exact v_thT th_X8_286_61 rfl dX8_recount_9 dX8_recount_12 (Or.inr dX8_recount_13) dX8_recount_16 dX8_recount_19 (by decide) (Nat.le_of_ble_eq_true rfl) (by decide) (by decide) hno (by unfold rcR; (repeat (first | rw [if_pos (by omega)] | rw [if_neg (by omega)])); first | done | rfl | (rw [hn]; rfl))

set_option maxRecDepth 100000 in
set_option maxHeartbeats 4000000 in
theorem c_count {l : Launch} {g : GV} {S : SS} {I : II} {X : XX} {w : Int} {sl : Nat → Nat} (hfl : l.stackTraces = false) (hno : S.2.2 = false) (hL : LC S sl) (hK : KC I sl) (hw : -2147483648 ≤ w ∧ w < 2147483648)  : CT l g mX8_count 6 1 6 [.ref 0, .int (ii w)] S I X (QT (knR I w) S X) := by
  obtain ⟨m0, p0, p1, p2, p3, p4, p5, p6, p7, p8, p9, hE1, hE2, hC1, hC2, hT, hH, hR1, hE3, hR2⟩ := id hL
  obtain ⟨y0, y1, y1a, y2, y2a, y3, y3a, y4, y4a, y5, y5a, yr⟩ := id hE1
  obtain ⟨a0, a1, a2, a3⟩ := id hH
  obtain ⟨t0, t1, t1a, t2, t2a⟩ := id hT
  have e20 := hE2.1
  have e30 := hE3.1
  have d10 := hR1.1
  have d20 := hR2.1
  have c10 := hC1.1
  have c20 := hC2.1
  obtain ⟨hI, h24, hI2, hTI, hRd, hRs, hWs, hz01, hSl, b10, b11, b12, b13, hRc⟩ := id hK
  obtain ⟨w0, w1, w2, w3, w4, w5, w6, w7, w8, w9, w10, w11, w12, w13⟩ := id hI.1
  obtain ⟨n0, n1, n2, n3, n4, n5, n6, n6a, n7, n7a, n8, n8a, n9, n9a, n10, n10a, hR, hHc, hF, hG, hEc, hsp⟩ := id hC1
  obtain ⟨r0, r1, r1a, r2, r2a, r3, r3a, rr⟩ := id hR
  obtain ⟨f0, f1, f1a, f2, f2a, f3, f3a⟩ := id hF
  obtain ⟨l0, ⟨l1, l1a⟩, ⟨l2, l2a⟩, ⟨l3, l3a⟩, ⟨l4, l4a⟩, ⟨l5, l5a⟩, ⟨l6, l6a⟩, ⟨l7, l7a⟩, ⟨l8, l8a⟩, lr, ⟨l9, l9a⟩, lw⟩ := id hG
  have hw2 : I 1 2 = ((I 1 2).toNat : Int) := by omega
  refine v_start hfl rfl (by decide) (Nat.le_of_ble_eq_true rfl) (ls := [some (.ref 0), some (.int (ii w))]) rfl ?_
  refine v_iload_n dX8_count_0 rfl ?_
  rcases (show w = 0 ∨ w = 1 ∨ w = 2 ∨ w = 3 ∨ w = 4 ∨ w = 5 ∨ w = 6 ∨ (w < 0 ∨ 6 < w) by omega) with rfl | rfl | rfl | rfl | rfl | rfl | rfl | hw
  · refine v_tabIn (off := 43) (tgt := 44) dX8_count_1 (by omega) (by omega) rfl (by decide) ?_
    refine v_aload_n dX8_count_44 rfl ?_
    refine v_getr dX8_count_45 fr_X8_10 (by assumption) (by decide) rfl (by assumption) ?_
    refine v_geti dX8_count_48 fr_X8_70 (by assumption) (by decide) rfl ?_
    exact v_iT dX8_count_51 rfl hno (by first | (exfalso; omega) | (unfold knR; (repeat (first | rw [if_pos (by omega)] | rw [if_neg (by omega)])); first | done | rfl | (rw [hj]; rfl)))
  · refine v_tabIn (off := 51) (tgt := 52) dX8_count_1 (by omega) (by omega) rfl (by decide) ?_
    refine v_aload_n dX8_count_52 rfl ?_
    refine v_getr dX8_count_53 fr_X8_10 (by assumption) (by decide) rfl (by assumption) ?_
    refine v_geti dX8_count_56 fr_X8_324 (by assumption) (by decide) rfl ?_
    exact v_iT dX8_count_59 rfl hno (by first | (exfalso; omega) | (unfold knR; (repeat (first | rw [if_pos (by omega)] | rw [if_neg (by omega)])); first | done | rfl | (rw [hj]; rfl)))
  · refine v_tabIn (off := 59) (tgt := 60) dX8_count_1 (by omega) (by omega) rfl (by decide) ?_
    refine v_aload_n dX8_count_60 rfl ?_
    refine v_getr dX8_count_61 fr_X8_10 (by assumption) (by decide) rfl (by assumption) ?_
    refine v_cV0 dX8_count_64 lk_X8_267 (by assumption) (by decide) rfl (c_papers hfl hE1 hI.1) (by decide) (Nat.le_of_ble_eq_true rfl) ?_ rfl
    exact v_iT dX8_count_67 rfl hno (by first | (exfalso; omega) | (unfold knR; (repeat (first | rw [if_pos (by omega)] | rw [if_neg (by omega)])); first | done | rfl | (rw [hj]; rfl)))
  · refine v_tabIn (off := 67) (tgt := 68) dX8_count_1 (by omega) (by omega) rfl (by decide) ?_
    refine v_aload_n dX8_count_68 rfl ?_
    refine v_cV0 dX8_count_69 lk_X8_174 (by assumption) (by decide) rfl (c_counted hfl hL hI b10) (by decide) (Nat.le_of_ble_eq_true rfl) ?_ rfl
    refine v_getr dX8_count_72 fr_X8_178 (by assumption) (by decide) rfl (by assumption) ?_
    refine v_geti dX8_count_75 fr_X8_248 (by assumption) (by decide) rfl ?_
    exact v_iT dX8_count_78 rfl hno (by first | (exfalso; omega) | (unfold knR; (repeat (first | rw [if_pos (by omega)] | rw [if_neg (by omega)])); first | done | rfl | (rw [hj]; rfl)))
  · refine v_tabIn (off := 78) (tgt := 79) dX8_count_1 (by omega) (by omega) rfl (by decide) ?_
    refine v_aload_n dX8_count_79 rfl ?_
    refine v_getr dX8_count_80 fr_X8_10 (by assumption) (by decide) rfl (by assumption) ?_
    refine v_geti dX8_count_83 fr_X8_144 (by assumption) (by decide) rfl ?_
    rw [hw2]
    refine v_cS1 dX8_count_86 lk_X8_329 (c_bitCount (s := (I 1 2).toNat) hfl (by omega)) (by decide) (Nat.le_of_ble_eq_true rfl) ?_ rfl
    exact v_iT dX8_count_89 rfl hno (by first | (exfalso; omega) | (unfold knR; (repeat (first | rw [if_pos (by omega)] | rw [if_neg (by omega)])); first | done | rfl | (rw [hj]; rfl)))
  · refine v_tabIn (off := 89) (tgt := 90) dX8_count_1 (by omega) (by omega) rfl (by decide) ?_
    refine v_aload_n dX8_count_90 rfl ?_
    refine v_getr dX8_count_91 fr_X8_44 (by assumption) (by decide) rfl (by assumption) ?_
    refine v_geti dX8_count_94 fr_X8_310 (by assumption) (by decide) rfl ?_
    exact v_iT dX8_count_97 rfl hno (by first | (exfalso; omega) | (unfold knR; (repeat (first | rw [if_pos (by omega)] | rw [if_neg (by omega)])); first | done | rfl | (rw [hj]; rfl)))
  · refine v_tabIn (off := 97) (tgt := 98) dX8_count_1 (by omega) (by omega) rfl (by decide) ?_
    refine v_aload_n dX8_count_98 rfl ?_
    refine v_getr dX8_count_99 fr_X8_37 (by assumption) (by decide) rfl (by assumption) ?_
    refine v_geti dX8_count_102 fr_X8_90 (by assumption) (by decide) rfl ?_
    exact v_iT dX8_count_105 rfl hno (by first | (exfalso; omega) | (unfold knR; (repeat (first | rw [if_pos (by omega)] | rw [if_neg (by omega)])); first | done | rfl | (rw [hj]; rfl)))
  · refine v_tabOut (tgt := 106) dX8_count_1 hw (by decide) ?_
    refine v_iload_n dX8_count_106 rfl ?_
    refine v_bipush dX8_count_107 (by decide) ?_
    refine v_ic_lt (tgt := 131) dX8_count_109 (by decide) (fun h109 => ?_) (fun h109 => ?_)
    · refine v_iload_n dX8_count_131 rfl ?_
      refine v_bipush dX8_count_132 (by decide) ?_
      refine v_ic_lt (tgt := 164) dX8_count_134 (by decide) (fun h134 => ?_) (fun h134 => ?_)
      · exact v_thT th_X8_337_61 rfl dX8_count_164 dX8_count_167 (Or.inr dX8_count_168) dX8_count_171 dX8_count_174 (by decide) (Nat.le_of_ble_eq_true rfl) (by decide) (by decide) hno (by first | (exfalso; omega) | (unfold knR; (repeat (first | rw [if_pos (by omega)] | rw [if_neg (by omega)])); first | done | rfl | (rw [hj]; rfl)))
      · refine v_iload_n dX8_count_137 rfl ?_
        refine v_bipush dX8_count_138 (by decide) ?_
        refine v_aload_n dX8_count_140 rfl ?_
        refine v_getr dX8_count_141 fr_X8_10 (by assumption) (by decide) rfl (by assumption) ?_
        refine v_geti dX8_count_144 fr_X8_70 (by assumption) (by decide) rfl ?_
        refine v_iadd dX8_count_147 ?_
        refine v_ic_ge (tgt := 164) dX8_count_148 (by decide) (fun h148 => ?_) (fun h148 => ?_)
        · exact v_thT th_X8_337_61 rfl dX8_count_164 dX8_count_167 (Or.inr dX8_count_168) dX8_count_171 dX8_count_174 (by decide) (Nat.le_of_ble_eq_true rfl) (by decide) (by decide) hno (by first | (exfalso; omega) | (unfold knR; (repeat (first | rw [if_pos (by omega)] | rw [if_neg (by omega)])); first | done | rfl | (rw [hj]; rfl)))
        · refine v_aload_n dX8_count_151 rfl ?_
          refine v_getr dX8_count_152 fr_X8_10 (by assumption) (by decide) rfl (by assumption) ?_
          refine v_getr dX8_count_155 fr_X8_334 (by assumption) (by decide) rfl (by assumption) ?_
          refine v_iload_n dX8_count_158 rfl ?_
          refine v_bipush dX8_count_159 (by decide) ?_
          refine v_isub dX8_count_161 ?_
          obtain ⟨j, hj⟩ : ∃ j : Nat, w - 20 = (j : Int) := Int.eq_ofNat_of_zero_le (by omega)
          refine v_iald (j := j) dX8_count_162 (by assumption) (by first | rfl | omega) (by omega) ?_
          exact v_iT dX8_count_163 rfl hno (by first | (exfalso; omega) | (unfold knR; (repeat (first | rw [if_pos (by omega)] | rw [if_neg (by omega)])); first | done | rfl | (rw [hj]; rfl)))
    · refine v_iload_n dX8_count_112 rfl ?_
      refine v_bipush dX8_count_113 (by decide) ?_
      refine v_ic_ge (tgt := 131) dX8_count_115 (by decide) (fun h115 => ?_) (fun h115 => ?_)
      · refine v_iload_n dX8_count_131 rfl ?_
        refine v_bipush dX8_count_132 (by decide) ?_
        refine v_ic_lt (tgt := 164) dX8_count_134 (by decide) (fun h134 => ?_) (fun h134 => ?_)
        · exact v_thT th_X8_337_61 rfl dX8_count_164 dX8_count_167 (Or.inr dX8_count_168) dX8_count_171 dX8_count_174 (by decide) (Nat.le_of_ble_eq_true rfl) (by decide) (by decide) hno (by first | (exfalso; omega) | (unfold knR; (repeat (first | rw [if_pos (by omega)] | rw [if_neg (by omega)])); first | done | rfl | (rw [hj]; rfl)))
        · refine v_iload_n dX8_count_137 rfl ?_
          refine v_bipush dX8_count_138 (by decide) ?_
          refine v_aload_n dX8_count_140 rfl ?_
          refine v_getr dX8_count_141 fr_X8_10 (by assumption) (by decide) rfl (by assumption) ?_
          refine v_geti dX8_count_144 fr_X8_70 (by assumption) (by decide) rfl ?_
          refine v_iadd dX8_count_147 ?_
          refine v_ic_ge (tgt := 164) dX8_count_148 (by decide) (fun h148 => ?_) (fun h148 => ?_)
          · exact v_thT th_X8_337_61 rfl dX8_count_164 dX8_count_167 (Or.inr dX8_count_168) dX8_count_171 dX8_count_174 (by decide) (Nat.le_of_ble_eq_true rfl) (by decide) (by decide) hno (by first | (exfalso; omega) | (unfold knR; (repeat (first | rw [if_pos (by omega)] | rw [if_neg (by omega)])); first | done | rfl | (rw [hj]; rfl)))
          · refine v_aload_n dX8_count_151 rfl ?_
            refine v_getr dX8_count_152 fr_X8_10 (by assumption) (by decide) rfl (by assumption) ?_
            refine v_getr dX8_count_155 fr_X8_334 (by assumption) (by decide) rfl (by assumption) ?_
            refine v_iload_n dX8_count_158 rfl ?_
            refine v_bipush dX8_count_159 (by decide) ?_
            refine v_isub dX8_count_161 ?_
            obtain ⟨j, hj⟩ : ∃ j : Nat, w - 20 = (j : Int) := Int.eq_ofNat_of_zero_le (by omega)
            refine v_iald (j := j) dX8_count_162 (by assumption) (by first | rfl | omega) (by omega) ?_
            exact v_iT dX8_count_163 rfl hno (by first | (exfalso; omega) | (unfold knR; (repeat (first | rw [if_pos (by omega)] | rw [if_neg (by omega)])); first | done | rfl | (rw [hj]; rfl)))
      · refine v_aload_n dX8_count_118 rfl ?_
        refine v_getr dX8_count_119 fr_X8_10 (by assumption) (by decide) rfl (by assumption) ?_
        refine v_getr dX8_count_122 fr_X8_131 (by assumption) (by decide) rfl (by assumption) ?_
        refine v_iload_n dX8_count_125 rfl ?_
        refine v_bipush dX8_count_126 (by decide) ?_
        refine v_isub dX8_count_128 ?_
        obtain ⟨j, hj⟩ : ∃ j : Nat, w - 10 = (j : Int) := Int.eq_ofNat_of_zero_le (by omega)
        refine v_iald (j := j) dX8_count_129 (by assumption) (by first | rfl | omega) (by omega) ?_
        exact v_iT dX8_count_130 rfl hno (by first | (exfalso; omega) | (unfold knR; (repeat (first | rw [if_pos (by omega)] | rw [if_neg (by omega)])); first | done | rfl | (rw [hj]; rfl)))

set_option maxRecDepth 100000 in
set_option maxHeartbeats 4000000 in
theorem c_undo {l : Launch} {g : GV} {S : SS} {I : II} {X : XX} {zz : Int} {sl : Nat → Nat} (hfl : l.stackTraces = false) (hno : S.2.2 = false) (hL : LC S sl) (hK : KC I sl)   : CT l g mX8_undo 6 1 6 [.ref 0] S I X (QT (udR I sl) S X) := by
  obtain ⟨m0, p0, p1, p2, p3, p4, p5, p6, p7, p8, p9, hE1, hE2, hC1, hC2, hT, hH, hR1, hE3, hR2⟩ := id hL
  obtain ⟨y0, y1, y1a, y2, y2a, y3, y3a, y4, y4a, y5, y5a, yr⟩ := id hE1
  obtain ⟨a0, a1, a2, a3⟩ := id hH
  obtain ⟨t0, t1, t1a, t2, t2a⟩ := id hT
  have e20 := hE2.1
  have e30 := hE3.1
  have d10 := hR1.1
  have d20 := hR2.1
  have c10 := hC1.1
  have c20 := hC2.1
  obtain ⟨hI, h24, hI2, hTI, hRd, hRs, hWs, hz01, hSl, b10, b11, b12, b13, hRc⟩ := id hK
  obtain ⟨w0, w1, w2, w3, w4, w5, w6, w7, w8, w9, w10, w11, w12, w13⟩ := id hI.1
  refine v_start hfl rfl (by decide) (Nat.le_of_ble_eq_true rfl) (ls := [some (.ref 0)]) rfl ?_
  refine v_aload_n dX8_undo_0 rfl ?_
  refine v_getr dX8_undo_1 fr_X8_44 (by assumption) (by decide) rfl (by assumption) ?_
  refine v_geti dX8_undo_4 fr_X8_310 (by assumption) (by decide) rfl ?_
  refine v_if_ne (tgt := 21) dX8_undo_7 (by decide) (fun h7 => ?_) (fun h7 => ?_)
  · obtain ⟨n, hn⟩ : ∃ n : Nat, I 201 1 = (n : Int) + 1 := by
      obtain ⟨m, hm⟩ := Int.eq_ofNat_of_zero_le hz01.1
      exact ⟨m - 1, by omega⟩
    have hn8 : n < 8 := by omega
    refine v_aload_n dX8_undo_21 rfl ?_
    refine v_getr dX8_undo_22 fr_X8_44 (by assumption) (by decide) rfl (by assumption) ?_
    refine v_aload_n dX8_undo_25 rfl ?_
    refine v_getr dX8_undo_26 fr_X8_10 (by assumption) (by decide) rfl (by assumption) ?_
    refine v_cV1n dX8_undo_29 lk_X8_315 (by assumption) (by decide) rfl (c_takeBack (n := n) hfl hH hE1 hn hn8) (by decide) (Nat.le_of_ble_eq_true rfl) ?_ rfl
    refine v_aload_n dX8_undo_32 rfl ?_
    refine v_iconst dX8_undo_33 ?_
    refine v_putz dX8_undo_34 fr_X8_78 (by assumption) (by decide) rfl (by first | exact Or.inl rfl | exact Or.inr rfl | omega) ?_
    refine v_aload_n dX8_undo_37 rfl ?_
    refine v_getr dX8_undo_38 fr_X8_44 (by assumption) (by decide) rfl (by assumption) ?_
    refine v_geti dX8_undo_41 fr_X8_310 (by assumption) (by decide) rfl ?_
    rw [up_ne (by omega), cpyE_e (Or.inr (by omega)), up_eq]
    exact v_iT dX8_undo_44 rfl hno (by unfold udR; rw [if_neg (by omega), show (I 201 1 - 1).toNat = n by omega]; rfl)
  · exact v_thT th_X8_313_93 rfl dX8_undo_10 dX8_undo_13 (Or.inr dX8_undo_14) dX8_undo_17 dX8_undo_20 (by decide) (Nat.le_of_ble_eq_true rfl) (by decide) (by decide) hno (by unfold udR; (repeat (first | rw [if_pos (by omega)] | rw [if_neg (by omega)])); first | done | rfl)

theorem cpyR_e {I : II} {s d x : Nat} (h : x < d ∨ d + 13 ≤ x) : cpyR I s d x = I x := by
  have L : ∀ k, k ≤ 9 → ∀ J : II, J x = I x → foldUp (fun k J => cpy J (s + 4 + k) (d + 4 + k) 0 0 8) J k x = I x := by
    intro k
    induction k with
    | zero => exact fun _ _ h => h
    | succ k ih => exact fun hk J hJ => (cpy_ne (by omega)).trans (ih (by omega) J hJ)
  exact L 9 (Nat.le_refl _) _ (by rw [cpy_ne (by omega), cpy_ne (by omega), up_ne (by omega), up_ne (by omega)])

set_option maxRecDepth 100000 in
set_option maxHeartbeats 4000000 in
theorem c_save {l : Launch} {g : GV} {S : SS} {I : II} {X : XX} {sl : Nat → Nat} (hfl : l.stackTraces = false) (hL : LC S sl) (hK : KC I sl) : CE l g mX8_save 6 [.ref 0] S I X (some (.int (ii (svM I 464 4)))) (svM I) := by
  obtain ⟨m0, p0, p1, p2, p3, p4, p5, p6, p7, p8, p9, hE1, hE2, hC1, hC2, hT, hH, hR1, hE3, hR2⟩ := id hL
  obtain ⟨y0, y1, y1a, y2, y2a, y3, y3a, y4, y4a, y5, y5a, yr⟩ := id hE1
  obtain ⟨hI, h24, hI2, hTI, hRd, hRs, hWs, hz01, hSl, b10, b11, b12, b13, hRc⟩ := id hK
  obtain ⟨d0, d1, d1a, d2, d2a, d3, d3a, dd⟩ := id hR1
  obtain ⟨x0, x1, x1a, x2, x2a, x3, x3a, x4, x4a, x5, x5a, xr⟩ := id hE3
  have hb : cpyR (cpyE I 1 464) 451 495 0 11 = 0 ∨ cpyR (cpyE I 1 464) 451 495 0 11 = 1 := by rw [cpyR_e (Or.inl (by omega)), cpyE_e (Or.inl (by omega))]; exact b11
  have e30 := hE3.1
  have d20 := hR2.1
  refine v_startE hfl rfl (by decide) (Nat.le_of_ble_eq_true rfl) (ls := [some (.ref 0)]) rfl ?_
  refine v_aload_n dX8_save_0 rfl ?_
  refine v_getr dX8_save_1 fr_X8_55 (by assumption) (by decide) rfl (by assumption) ?_
  refine v_aload_n dX8_save_4 rfl ?_
  refine v_getr dX8_save_5 fr_X8_10 (by assumption) (by decide) rfl (by assumption) ?_
  refine v_cV1n dX8_save_8 lk_X8_102 (by assumption) (by decide) rfl (c_copyFrom hfl hE1 hE3) (by decide) (Nat.le_of_ble_eq_true rfl) ?_ rfl
  refine v_aload_n dX8_save_11 rfl ?_
  refine v_getr dX8_save_12 fr_X8_58 (by assumption) (by decide) rfl (by assumption) ?_
  refine v_aload_n dX8_save_15 rfl ?_
  refine v_getr dX8_save_16 fr_X8_51 (by assumption) (by decide) rfl (by assumption) ?_
  refine v_cV1n dX8_save_19 lk_X8_283 (by assumption) (by decide) rfl (c_copyResult hfl hR1 hR2) (by decide) (Nat.le_of_ble_eq_true rfl) ?_ rfl
  refine v_aload_n dX8_save_22 rfl ?_
  refine v_aload_n dX8_save_23 rfl ?_
  refine v_geti dX8_save_24 fr_X8_82 (by assumption) (by decide) rfl ?_
  refine v_putz dX8_save_27 fr_X8_318 (by assumption) (by decide) rfl hb ?_
  refine v_aload_n dX8_save_30 rfl ?_
  refine v_iconst dX8_save_31 ?_
  refine v_putz dX8_save_32 fr_X8_321 (by assumption) (by decide) rfl (Or.inr rfl) ?_
  refine v_aload_n dX8_save_35 rfl ?_
  refine v_getr dX8_save_36 fr_X8_55 (by assumption) (by decide) rfl (by assumption) ?_
  refine v_geti dX8_save_39 fr_X8_324 (by assumption) (by decide) rfl ?_
  exact v_iE dX8_save_42 rfl (rfl) (rfl)

theorem cpE_4 {I : II} {e d : Nat} : cpyE I e d d 4 = I e 4 := by
  have L : ∀ k, k ≤ 25 → ∀ J : II, J d 4 = I e 4 → foldUp (fun p J => cpy J (e + 6 + p) (d + 6 + p) 0 0 8) J k d 4 = I e 4 := by
    intro k
    induction k with
    | zero => exact fun _ _ h => h
    | succ k ih => exact fun hk J hJ => (congrFun (cpy_ne (by omega)) 4).trans (ih (by omega) J hJ)
  refine L 25 (Nat.le_refl _) _ ?_
  rw [cpy_ne (by omega), cpy_ne (by omega), cpy_ne (by omega), cpy_ne (by omega), up_eq]
  by_cases h : e = d
  · subst h; rw [up_nk (by omega), up_nk (by omega)]
  · rw [up_ne h, up_ne h]

set_option maxRecDepth 100000 in
set_option maxHeartbeats 4000000 in
theorem c_restore {l : Launch} {g : GV} {S : SS} {I : II} {X : XX} {zz : Int} {sl : Nat → Nat} (hfl : l.stackTraces = false) (hno : S.2.2 = false) (hL : LC S sl) (hK : KC I sl)   : CT l g mX8_restore 6 1 6 [.ref 0] S I X (QT (rsR I) S X) := by
  obtain ⟨m0, p0, p1, p2, p3, p4, p5, p6, p7, p8, p9, hE1, hE2, hC1, hC2, hT, hH, hR1, hE3, hR2⟩ := id hL
  obtain ⟨y0, y1, y1a, y2, y2a, y3, y3a, y4, y4a, y5, y5a, yr⟩ := id hE1
  obtain ⟨a0, a1, a2, a3⟩ := id hH
  obtain ⟨t0, t1, t1a, t2, t2a⟩ := id hT
  have e20 := hE2.1
  have e30 := hE3.1
  have d10 := hR1.1
  have d20 := hR2.1
  have c10 := hC1.1
  have c20 := hC2.1
  obtain ⟨hI, h24, hI2, hTI, hRd, hRs, hWs, hz01, hSl, b10, b11, b12, b13, hRc⟩ := id hK
  obtain ⟨w0, w1, w2, w3, w4, w5, w6, w7, w8, w9, w10, w11, w12, w13⟩ := id hI.1
  have hb : cpyR (cpyE I 464 1) 495 451 0 13 = 0 ∨ cpyR (cpyE I 464 1) 495 451 0 13 = 1 := by rw [cpyR_e (Or.inl (by omega)), cpyE_e (Or.inl (by omega))]; exact b13
  refine v_start hfl rfl (by decide) (Nat.le_of_ble_eq_true rfl) (ls := [some (.ref 0)]) rfl ?_
  refine v_aload_n dX8_restore_0 rfl ?_
  refine v_geti dX8_restore_1 fr_X8_321 (by assumption) (by decide) rfl ?_
  refine v_if_ne (tgt := 18) dX8_restore_4 (by decide) (fun h4 => ?_) (fun h4 => ?_)
  · refine v_aload_n dX8_restore_18 rfl ?_
    refine v_getr dX8_restore_19 fr_X8_10 (by assumption) (by decide) rfl (by assumption) ?_
    refine v_aload_n dX8_restore_22 rfl ?_
    refine v_getr dX8_restore_23 fr_X8_55 (by assumption) (by decide) rfl (by assumption) ?_
    refine v_cV1n dX8_restore_26 lk_X8_102 (by assumption) (by decide) rfl (c_copyFrom hfl hE3 hE1) (by decide) (Nat.le_of_ble_eq_true rfl) ?_ rfl
    refine v_aload_n dX8_restore_29 rfl ?_
    refine v_getr dX8_restore_30 fr_X8_51 (by assumption) (by decide) rfl (by assumption) ?_
    refine v_aload_n dX8_restore_33 rfl ?_
    refine v_getr dX8_restore_34 fr_X8_58 (by assumption) (by decide) rfl (by assumption) ?_
    refine v_cV1n dX8_restore_37 lk_X8_283 (by assumption) (by decide) rfl (c_copyResult hfl hR2 hR1) (by decide) (Nat.le_of_ble_eq_true rfl) ?_ rfl
    refine v_aload_n dX8_restore_40 rfl ?_
    refine v_aload_n dX8_restore_41 rfl ?_
    refine v_geti dX8_restore_42 fr_X8_318 (by assumption) (by decide) rfl ?_
    refine v_putz dX8_restore_45 fr_X8_82 (by assumption) (by decide) rfl hb ?_
    refine v_aload_n dX8_restore_48 rfl ?_
    refine v_iconst dX8_restore_49 ?_
    refine v_putz dX8_restore_50 fr_X8_78 (by assumption) (by decide) rfl (by first | exact Or.inl rfl | exact Or.inr rfl | omega) ?_
    refine v_aload_n dX8_restore_53 rfl ?_
    refine v_getr dX8_restore_54 fr_X8_44 (by assumption) (by decide) rfl (by assumption) ?_
    refine v_cV0n dX8_restore_57 lk_X8_85 (by assumption) (by decide) rfl (c_forgetAll hfl hH) (by decide) (Nat.le_of_ble_eq_true rfl) ?_ rfl
    refine v_aload_n dX8_restore_60 rfl ?_
    refine v_getr dX8_restore_61 fr_X8_10 (by assumption) (by decide) rfl (by assumption) ?_
    refine v_geti dX8_restore_64 fr_X8_324 (by assumption) (by decide) rfl ?_
    rw [up_ne (by omega), up_ne (by omega), up_ne (by omega), cpyR_e (Or.inl (by omega)), cpE_4]
    exact v_iT dX8_restore_67 rfl hno (by unfold rsR; (repeat (first | rw [if_pos (by omega)] | rw [if_neg (by omega)])); first | done | rfl)
  · exact v_thT th_X8_327_93 rfl dX8_restore_7 dX8_restore_10 (Or.inr dX8_restore_11) dX8_restore_14 dX8_restore_17 (by decide) (Nat.le_of_ble_eq_true rfl) (by decide) (by decide) hno (by unfold rsR; (repeat (first | rw [if_pos (by omega)] | rw [if_neg (by omega)])); first | done | rfl)
