/-! THE CLASS ITSELF: changes -/
section QSs
variable {l : Launch} {g : GV} {mt mt2 : MT} {dp dp2 bc bs pc pc2 idx : Nat} {Z : ZZ} {ls : List (Option Value)} {st : List Value} {S S2 : SS} {I I2 : II} {X : XX} {r : RR}
theorem v_iS {z : Int} (hd : DC (mCc mt) pc .ireturn 1 pc2) (hrt : mRt mt = some .int) (hno : S.2.2 = false) (hS : S = S2) (hr : r = (.inl (some (.int (ii z))), I)) : V l g mt dp (Zm g (QT r S2 X)) bc bs pc ls [.int (ii z)] S I X := by
  subst hS; exact v_iT hd hrt hno hr
theorem v_zS {z : Int} (hd : DC (mCc mt) pc .ireturn 1 pc2) (hrt : mRt mt = some .boolean) (hb : z = 0 ∨ z = 1) (hno : S.2.2 = false) (hS : S = S2) (hr : r = (.inl (some (.int (ii z))), I)) : V l g mt dp (Zm g (QT r S2 X)) bc bs pc ls [.int (ii z)] S I X := by
  subst hS; exact v_zT hd hrt hb hno hr
theorem v_thS {ik is ic p0 p1 p2 p3 p4 : Nat} {cls text : String} {names : List String} (hT : THo (mOwn mt) ik is ic cls text names) (hm : mHh mt = []) (d0 : DC (mCc mt) pc (.new ik) 3 p0) (d3 : DC (mCc mt) p0 .dup 1 p1) (d4 : DC (mCc mt) p1 (.ldc is) 2 p2 ∨ DC (mCc mt) p1 (.ldc_w is) 3 p2) (d6 : DC (mCc mt) p2 (.invokespecial ic) 3 p3) (d9 : DC (mCc mt) p3 .athrow 1 p4)
    (hdp : 6 ≤ dp) (hst : (st.map fun v => v.category).sum ≤ 8) (hbc : 1 ≤ bc) (hbs : 6 ≤ bs) (hno : S.2.2 = false) (hS : S = S2) (hr : r = (.inr cls, I)) : V l g mt dp (Zm g (QT r S2 X)) bc bs pc ls st S I X := by
  subst hS; exact v_thT hT hm d0 d3 d4 d6 d9 hdp hst hbc hbs hno hr
end QSs
theorem isRes_of {S S2 : SS} {r : Nat} (h : isRes S r) (h1 : S2.1 = S.1) (hp : ∀ b, r ≤ b → b < r + 13 → S2.2.1 b = S.2.1 b) : isRes S2 r := by
  unfold isRes at *
  rw [h1, hp r (by omega) (by omega), hp (r + 3) (by omega) (by omega)]
  exact h
theorem isTxt_of {S S2 : SS} {r : Nat} (h : isTxt S r) (h1 : S2.1 = S.1) (hp : ∀ b, r ≤ b → b < r + 3 → S2.2.1 b = S.2.1 b) : isTxt S2 r := by
  unfold isTxt at *
  rw [h1, hp r (by omega) (by omega)]
  exact h
theorem isCnt_of {S S2 : SS} {c e : Nat} (h : isCnt S c e) (h1 : S2.1 = S.1) (hp : ∀ b, b < c + 52 → S2.2.1 b = S.2.1 b) : isCnt S2 c e := by
  obtain ⟨n0, n1, n2, n3, n4, n5, n6, n6a, n7, n7a, n8, n8a, n9, n9a, n10, n10a, hR, hH, hF, hG, hE, hsp⟩ := h
  have hF2 : isFat S2 (c + 15) := by
    unfold isFat at *
    rw [h1, hp (c + 15) (by omega)]
    exact hF
  have hH2 : isChs S2 (c + 14) e (c + 1) := by
    unfold isChs at *
    rw [h1, hp (c + 14) (by omega)]
    exact hH
  have hG2 : isLog S2 (c + 19) := by
    unfold isLog at *
    rw [h1, hp (c + 19) (by omega), hp (c + 19 + 8) (by omega), hp (c + 19 + 18) (by omega)]
    exact hG
  unfold isCnt
  rw [h1, hp c (by omega)]
  exact ⟨n0, n1, n2, n3, n4, n5, n6, n6a, n7, n7a, n8, n8a, n9, n9a, n10, n10a, isRes_of hR h1 (fun b _ _ => hp b (by omega)), hH2, hF2, hG2, isEl_of hE h1 (fun b _ _ => hp b (by omega)), hsp⟩
def reSl (sl : Nat → Nat) (n : Nat) : Nat → Nat := if n < 8 then sl else rotL sl
theorem LC_re {S : SS} {sl : Nat → Nat} {n : Nat} (h : LC S sl) : LC (reS S 201 n) (reSl sl n) := by
  unfold reS reSl
  split
  · exact h
  · obtain ⟨m0, p0, p1, p2, p3, p4, p5, p6, p7, p8, p9, hE1, hE2, hC1, hC2, hT, hH, hR1, hE3, hR2⟩ := h
    have hp : ∀ b, b ≠ 201 + 1 → (rotS S 201).2.1 b = S.2.1 b := fun b hb => rotP_ne hb
    unfold LC
    rw [hp 0 (by omega)]
    exact ⟨m0, p0, p1, p2, p3, p4, p5, p6, p7, p8, p9, isEl_of hE1 rfl (fun b _ _ => hp b (by omega)), isEl_of hE2 rfl (fun b _ _ => hp b (by omega)), isCnt_of hC1 rfl (fun b _ => hp b (by omega)), isCnt_of hC2 rfl (fun b _ => hp b (by omega)), isTxt_of hT rfl (fun b _ _ => hp b (by omega)), isHis_rot hH, isRes_of hR1 rfl (fun b _ _ => hp b (by omega)), isEl_of hE3 rfl (fun b _ _ => hp b (by omega)), isRes_of hR2 rfl (fun b _ _ => hp b (by omega))⟩
/-- what is remembered lies in the history's slots -/
def SlO (sl : Nat → Nat) : Prop := ∀ k, k < 8 → 203 ≤ sl k ∧ sl k + 31 ≤ 451
theorem rf_e {I : II} {n x : Nat} {sl : Nat → Nat} (hs : SlO sl) (h : x < 201 ∨ 451 ≤ x) (h0 : x ≠ 0) : rfM I n sl x = I x := by
  have h1 : 203 ≤ reL sl n ∧ reL sl n + 31 ≤ 451 := by
    unfold reL
    split
    · exact hs n (by assumption)
    · exact hs 0 (by omega)
  unfold rfM reM
  rw [up_ne h0, up_ne (by omega), cpyE_e (by omega)]
  unfold reB
  split
  · rfl
  · rw [up_ne (by omega)]
def xr (h q : Nat) : Nat := if btI h q = 0 then h + 2 ^ q else h - 2 ^ q
theorem xr_b : ∀ h : Nat, h < 256 → ∀ q : Nat, q < 8 → ii ((h : Nat) : Int) ^^^ ii ((2 ^ q : Nat) : Int) = ii ((xr h q : Nat) : Int) := by decide +kernel
theorem xr_lt : ∀ h : Nat, h < 256 → ∀ q : Nat, q < 8 → xr h q < 256 := by decide +kernel
def wdR (I : II) (c : Int) (n : Nat) (sl : Nat → Nat) : RR := if icF I c = 0 then erI IOB I else okI (btI (xr (I 1 2).toNat c.toNat) c.toNat) (up (rfM I n sl) 1 2 (xr (I 1 2).toNat c.toNat : Nat))
def wdS (S : SS) (I : II) (c : Int) (n : Nat) : SS := if icF I c = 0 then S else reS S 201 n
abbrev stB (a b : Int) : Prop := (a < 0 ∨ 4 ≤ a) ∨ (b < lsF a ∨ gsF a < b)
def stR (I : II) (a b : Int) (n : Nat) (sl : Nat → Nat) : RR := if stB a b then erI IAE I else okI (I (1 + 1) a.toNat) (up (rfM I n sl) (1 + 1) a.toNat b)
def stW (S : SS) (a b : Int) (n : Nat) : SS := if stB a b then S else reS S 201 n
theorem ls_rng (a : Int) : 0 ≤ lsF a ∧ lsF a ≤ 1 := by unfold lsF; split <;> omega
theorem gs_rng (a : Int) : 1 ≤ gsF a ∧ gsF a ≤ 7 := by
  unfold gsF
  split
  · omega
  · split <;> omega

set_option maxRecDepth 100000 in
set_option maxHeartbeats 4000000 in
theorem c_withdraw {l : Launch} {g : GV} {S : SS} {I : II} {X : XX} {c : Int} {n : Nat} {sl : Nat → Nat} (hfl : l.stackTraces = false) (hno : S.2.2 = false) (hL : LC S sl) (hK : KC I sl) (hSO : SlO sl) (hn : I 201 1 = (n : Int)) (hc : -2147483648 ≤ c ∧ c < 2147483648) : CT l g mX8_withdraw 6 1 6 [.ref 0, .int (ii c)] S I X (QT (wdR I c n sl) (wdS S I c n) X) := by
  obtain ⟨m0, p0, p1, p2, p3, p4, p5, p6, p7, p8, p9, hE1, hE2, hC1, hC2, hT, hH, hR1, hE3, hR2⟩ := id hL
  obtain ⟨y0, y1, y1a, y2, y2a, y3, y3a, y4, y4a, y5, y5a, yr⟩ := id hE1
  obtain ⟨a0, a1, a2, a3⟩ := id hH
  obtain ⟨t0, t1, t1a, t2, t2a⟩ := id hT
  have e20 := hE2.1
  have e30 := hE3.1
  have d10 := hR1.1
  have d20 := hR2.1
  have c10 := hC1.1
  have c20 := hC2.1
  obtain ⟨hI, h24, hI2, hTI, hRd, hRs, hWs, hz01, hSl, b10, b11, b12, b13, hRc⟩ := id hK
  obtain ⟨w0, w1, w2, w3, w4, w5, w6, w7, w8, w9, w10, w11, w12, w13⟩ := id hI.1
  have hn8 : n ≤ 8 := by omega
  refine v_start hfl rfl (by decide) (Nat.le_of_ble_eq_true rfl) (ls := [some (.ref 0), some (.int (ii c))]) rfl ?_
  refine v_aload_n dX8_withdraw_0 rfl ?_
  refine v_iload_n dX8_withdraw_1 rfl ?_
  refine v_cV1 dX8_withdraw_2 lk_X8_135 (by assumption) (by decide) rfl (c_isCand hfl hL hI.1 hc) (by decide) (Nat.le_of_ble_eq_true rfl) ?_ rfl
  have h01 := icF_01 I c
  refine v_if_ne (tgt := 18) dX8_withdraw_5 (by decide) (fun h5 => ?_) (fun h5 => ?_)
  · have hcc : ¬ icF I c = 0 := h5
    obtain ⟨k1, k2⟩ := icF_1 h5
    obtain ⟨cn, rfl⟩ := Int.eq_ofNat_of_zero_le k1
    have cn8 : cn < 8 := by omega
    have hu : I 1 2 = ((I 1 2).toNat : Int) := by omega
    have hu8 : (I 1 2).toNat < 256 := by omega
    refine v_aload_n dX8_withdraw_18 rfl ?_
    refine v_cV0nS dX8_withdraw_19 lk_X8_114 (by assumption) (by decide) rfl (c_forUndo hfl hL hn hn8) reS_no (by decide) (Nat.le_of_ble_eq_true rfl) ?_ rfl
    have hL2 := LC_re (n := n) hL
    have hno2 : (reS S 201 n).2.2 = false := reS_no.trans hno
    obtain ⟨m0b, p0b, p1b, p2b, p3b, p4b, p5b, p6b, p7b, p8b, p9b, hE1b, hE2b, hC1b, hC2b, hTb, hHb, hR1b, hE3b, hR2b⟩ := id hL2
    obtain ⟨y0b, y1b, y1ab, y2b, y2ab, y3b, y3ab, y4b, y4ab, y5b, y5ab, yrb⟩ := id hE1b
    have g1 : rfM I n sl 1 = I 1 := rf_e hSO (by omega) (by omega)
    have g2 : rfM I n sl (1 + 1) = I (1 + 1) := rf_e hSO (by omega) (by omega)
    refine v_aload_n dX8_withdraw_22 rfl ?_
    refine v_getr dX8_withdraw_23 fr_X8_10 (by assumption) (by decide) rfl (by assumption) ?_
    refine v_dup dX8_withdraw_26 rfl ?_
    refine v_geti dX8_withdraw_27 fr_X8_144 (by assumption) (by decide) rfl ?_
    rw [g1, hu]
    refine v_iconst dX8_withdraw_30 ?_
    refine v_iload_n dX8_withdraw_31 rfl ?_
    refine v_ishl (z := ((2 ^ cn : Nat) : Int)) dX8_withdraw_32 (shl_b cn cn8) ?_
    refine v_ixor (z := ((xr (I 1 2).toNat cn : Nat) : Int)) dX8_withdraw_33 (xr_b _ hu8 cn cn8) ?_
    refine v_puti dX8_withdraw_34 fr_X8_144 (by assumption) (by decide) rfl ?_
    refine v_aload_n dX8_withdraw_37 rfl ?_
    refine v_getr dX8_withdraw_38 fr_X8_10 (by assumption) (by decide) rfl (by assumption) ?_
    refine v_geti dX8_withdraw_41 fr_X8_144 (by assumption) (by decide) rfl ?_
    rw [up_eq]
    refine v_iload_n dX8_withdraw_44 rfl ?_
    refine v_cS2 dX8_withdraw_45 lk_X8_147 (c_contains (s := xr (I 1 2).toNat cn) hfl (xr_lt _ hu8 cn cn8) cn8) (by decide) (Nat.le_of_ble_eq_true rfl) ?_ rfl
    have b01 := btI_01 (xr (I 1 2).toNat cn) cn
    exact v_zS dX8_withdraw_48 rfl (by first | exact Or.inl rfl | exact Or.inr rfl | omega) (hno2) (by unfold wdS; (repeat (first | rw [if_pos (by omega)] | rw [if_neg (by omega)]))) (by unfold wdR; (repeat (first | rw [if_pos (by omega)] | rw [if_neg (by omega)])); first | done | rfl)
  · exact v_thS th_X8_141_139 rfl dX8_withdraw_8 dX8_withdraw_11 (Or.inl dX8_withdraw_12) dX8_withdraw_14 dX8_withdraw_17 (by decide) (Nat.le_of_ble_eq_true rfl) (by decide) (by decide) hno (by unfold wdS; (repeat (first | rw [if_pos (by omega)] | rw [if_neg (by omega)]))) (by unfold wdR; (repeat (first | rw [if_pos (by omega)] | rw [if_neg (by omega)])); first | done | rfl)

set_option maxRecDepth 100000 in
set_option maxHeartbeats 4000000 in
theorem c_set {l : Launch} {g : GV} {S : SS} {I : II} {X : XX} {a b : Int} {n : Nat} {sl : Nat → Nat} (hfl : l.stackTraces = false) (hno : S.2.2 = false) (hL : LC S sl) (hK : KC I sl) (hSO : SlO sl) (hn : I 201 1 = (n : Int)) (ha : -2147483648 ≤ a ∧ a < 2147483648) (hb : -2147483648 ≤ b ∧ b < 2147483648) : CT l g mX8_set 6 1 6 [.ref 0, .int (ii a), .int (ii b)] S I X (QT (stR I a b n sl) (stW S a b n) X) := by
  obtain ⟨m0, p0, p1, p2, p3, p4, p5, p6, p7, p8, p9, hE1, hE2, hC1, hC2, hT, hH, hR1, hE3, hR2⟩ := id hL
  obtain ⟨y0, y1, y1a, y2, y2a, y3, y3a, y4, y4a, y5, y5a, yr⟩ := id hE1
  obtain ⟨a0, a1, a2, a3⟩ := id hH
  obtain ⟨t0, t1, t1a, t2, t2a⟩ := id hT
  have e20 := hE2.1
  have e30 := hE3.1
  have d10 := hR1.1
  have d20 := hR2.1
  have c10 := hC1.1
  have c20 := hC2.1
  obtain ⟨hI, h24, hI2, hTI, hRd, hRs, hWs, hz01, hSl, b10, b11, b12, b13, hRc⟩ := id hK
  obtain ⟨w0, w1, w2, w3, w4, w5, w6, w7, w8, w9, w10, w11, w12, w13⟩ := id hI.1
  have hn8 : n ≤ 8 := by omega
  refine v_start hfl rfl (by decide) (Nat.le_of_ble_eq_true rfl) (ls := [some (.ref 0), some (.int (ii a)), some (.int (ii b)), none]) rfl ?_
  refine v_iload_n dX8_set_0 rfl ?_
  refine v_if_lt (tgt := 9) dX8_set_1 (by decide) (fun h1 => ?_) (fun h1 => ?_)
  · exact v_thS th_X8_120_61 rfl dX8_set_9 dX8_set_12 (Or.inl dX8_set_13) dX8_set_15 dX8_set_18 (by decide) (Nat.le_of_ble_eq_true rfl) (by decide) (by decide) hno (by unfold stW; first | rw [if_neg hbb] | rw [if_pos (by unfold stB; omega)]) (by unfold stR; first | (rw [if_neg hbb]; rfl) | (rw [if_pos (by unfold stB; omega)]; rfl))
  · refine v_iload_n dX8_set_4 rfl ?_
    refine v_iconst dX8_set_5 ?_
    refine v_ic_lt (tgt := 19) dX8_set_6 (by decide) (fun h6 => ?_) (fun h6 => ?_)
    · refine v_iload_n dX8_set_19 rfl ?_
      refine v_iload_n dX8_set_20 rfl ?_
      refine v_cS1 dX8_set_21 lk_X8_122 (c_least hfl ha) (by decide) (Nat.le_of_ble_eq_true rfl) ?_ rfl
      have l1 := ls_rng a
      refine v_ic_lt (tgt := 35) dX8_set_24 (by decide) (fun h24 => ?_) (fun h24 => ?_)
      · exact v_thS th_X8_129_61 rfl dX8_set_35 dX8_set_38 (Or.inl dX8_set_39) dX8_set_41 dX8_set_44 (by decide) (Nat.le_of_ble_eq_true rfl) (by decide) (by decide) hno (by unfold stW; first | rw [if_neg hbb] | rw [if_pos (by unfold stB; omega)]) (by unfold stR; first | (rw [if_neg hbb]; rfl) | (rw [if_pos (by unfold stB; omega)]; rfl))
      · refine v_iload_n dX8_set_27 rfl ?_
        refine v_iload_n dX8_set_28 rfl ?_
        refine v_cS1 dX8_set_29 lk_X8_126 (c_greatest hfl ha) (by decide) (Nat.le_of_ble_eq_true rfl) ?_ rfl
        have l2 := gs_rng a
        refine v_ic_le (tgt := 45) dX8_set_32 (by decide) (fun h32 => ?_) (fun h32 => ?_)
        · have hbb : ¬ stB a b := by unfold stB; omega
          obtain ⟨an, rfl⟩ := Int.eq_ofNat_of_zero_le (show 0 ≤ a by omega)
          refine v_aload_n dX8_set_45 rfl ?_
          refine v_getr dX8_set_46 fr_X8_10 (by assumption) (by decide) rfl (by assumption) ?_
          refine v_getr dX8_set_49 fr_X8_131 (by assumption) (by decide) rfl (by assumption) ?_
          refine v_iload_n dX8_set_52 rfl ?_
          refine v_iald (j := an) dX8_set_53 (by assumption) (by first | rfl | omega) (by omega) ?_
          refine v_istn3 dX8_set_54 rfl ?_
          refine v_aload_n dX8_set_55 rfl ?_
          refine v_cV0nS dX8_set_56 lk_X8_114 (by assumption) (by decide) rfl (c_forUndo hfl hL hn hn8) reS_no (by decide) (Nat.le_of_ble_eq_true rfl) ?_ rfl
          have hL2 := LC_re (n := n) hL
          have hno2 : (reS S 201 n).2.2 = false := reS_no.trans hno
          obtain ⟨m0b, p0b, p1b, p2b, p3b, p4b, p5b, p6b, p7b, p8b, p9b, hE1b, hE2b, hC1b, hC2b, hTb, hHb, hR1b, hE3b, hR2b⟩ := id hL2
          obtain ⟨y0b, y1b, y1ab, y2b, y2ab, y3b, y3ab, y4b, y4ab, y5b, y5ab, yrb⟩ := id hE1b
          have g1 : rfM I n sl 1 = I 1 := rf_e hSO (by omega) (by omega)
          have g2 : rfM I n sl (1 + 1) = I (1 + 1) := rf_e hSO (by omega) (by omega)
          refine v_aload_n dX8_set_59 rfl ?_
          refine v_getr dX8_set_60 fr_X8_10 (by assumption) (by decide) rfl (by assumption) ?_
          refine v_getr dX8_set_63 fr_X8_131 (by assumption) (by decide) rfl (by assumption) ?_
          refine v_iload_n dX8_set_66 rfl ?_
          refine v_iload_n dX8_set_67 rfl ?_
          refine v_iast (j := an) dX8_set_68 (by assumption) (by first | rfl | omega) (by omega) ?_
          refine v_iload_n dX8_set_69 rfl ?_
          exact v_iS dX8_set_70 rfl (hno2) (by unfold stW; first | rw [if_neg hbb] | rw [if_pos (by unfold stB; omega)]) (by unfold stR; first | (rw [if_neg hbb]; rfl) | (rw [if_pos (by unfold stB; omega)]; rfl))
        · exact v_thS th_X8_129_61 rfl dX8_set_35 dX8_set_38 (Or.inl dX8_set_39) dX8_set_41 dX8_set_44 (by decide) (Nat.le_of_ble_eq_true rfl) (by decide) (by decide) hno (by unfold stW; first | rw [if_neg hbb] | rw [if_pos (by unfold stB; omega)]) (by unfold stR; first | (rw [if_neg hbb]; rfl) | (rw [if_pos (by unfold stB; omega)]; rfl))
    · exact v_thS th_X8_120_61 rfl dX8_set_9 dX8_set_12 (Or.inl dX8_set_13) dX8_set_15 dX8_set_18 (by decide) (Nat.le_of_ble_eq_true rfl) (by decide) (by decide) hno (by unfold stW; first | rw [if_neg hbb] | rw [if_pos (by unfold stB; omega)]) (by unfold stR; first | (rw [if_neg hbb]; rfl) | (rw [if_pos (by unfold stB; omega)]; rfl))

/-! append -/
def usF (p : Int) (i : Nat) : Int := ((ii p).toUInt32 >>> ((ii (24 - 8 * (i : Int))).toUInt32 &&& Int32.toUInt32 31)).toInt32.toInt
def sgF (p : Int) (i : Nat) : Int := (ii (usF p i) &&& ii 255).toInt
theorem and255 (x : Int32) : 0 ≤ (x &&& ii 255).toInt ∧ (x &&& ii 255).toInt ≤ 255 := by
  have h : (x &&& ii 255).toInt = ((x.toBitVec.toNat &&& 255 : Nat) : Int) := by
    show (x.toBitVec &&& 255#32).toInt = _
    have h1 : (x.toBitVec &&& 255#32).toNat = x.toBitVec.toNat &&& 255 := BitVec.toNat_and _ _
    have h2 : x.toBitVec.toNat &&& 255 ≤ 255 := Nat.and_le_right
    rw [BitVec.toInt_eq_toNat_of_lt (by rw [h1]; omega), h1]
  have h2 : x.toBitVec.toNat &&& 255 ≤ 255 := Nat.and_le_right
  omega
abbrev bdS (z : Int) : Prop := ¬ z = 0 ∧ (z < 33 ∨ 126 < z)
def cnF (p : Int) : Nat → Int
  | 0 => 0
  | i + 1 => if sgF p i = 0 then cnF p i else cnF p i + 1
def bdF (p : Int) : Nat → Int
  | 0 => 0
  | i + 1 => if bdF p i = 1 ∨ bdS (sgF p i) then 1 else 0
def puJ (p : Int) (I : II) : Nat → II
  | 0 => I
  | i + 1 => if sgF p i = 0 then puJ p I i else up (up (puJ p I i) (198 + 1) (puJ p I i 198 4).toNat (sgF p i)) 198 4 (puJ p I i 198 4 + 1)
def apR (I : II) (p : Int) : RR := if bdF p 4 = 1 then erI IAE I else if 60 < I 198 4 + cnF p 4 then erI ISE I else okI (puJ p I 4 198 4) (puJ p I 4)
theorem bd_up {p : Int} {i : Nat} : ∀ k, bdF p i = 1 → bdF p (i + k) = 1
  | 0, h => h
  | k + 1, h => by
    have ih := bd_up k h
    show (if bdF p (i + k) = 1 ∨ _ then 1 else 0) = 1
    rw [if_pos (Or.inl ih)]
theorem cn_rng (p : Int) : ∀ i, 0 ≤ cnF p i ∧ cnF p i ≤ i
  | 0 => by
    show 0 ≤ (0 : Int) ∧ (0 : Int) ≤ ((0 : Nat) : Int)
    decide
  | i + 1 => by
    have ih := cn_rng p i
    unfold cnF
    split <;> omega
theorem cn_up (p : Int) (i : Nat) : ∀ k, cnF p i ≤ cnF p (i + k)
  | 0 => Int.le_refl _
  | k + 1 => by
    have ih := cn_up p i k
    show cnF p i ≤ if sgF p (i + k) = 0 then cnF p (i + k) else cnF p (i + k) + 1
    split <;> omega
theorem pu_len (p : Int) (I : II) : ∀ i, puJ p I i 198 4 = I 198 4 + cnF p i
  | 0 => (Int.add_zero _).symm
  | i + 1 => by
    have ih := pu_len p I i
    unfold puJ cnF
    split
    · exact ih
    · rw [up_eq, ih]; omega

theorem bd_at {p : Int} {i : Nat} (hi : i < 4) (h : bdS (sgF p i)) : bdF p 4 = 1 := by
  have h1 : bdF p (i + 1) = 1 := if_pos (Or.inr h)
  have h2 := bd_up (3 - i) h1
  rw [show i + 1 + (3 - i) = 4 by omega] at h2
  exact h2

set_option maxRecDepth 100000 in
set_option maxHeartbeats 4000000 in
theorem c_append {l : Launch} {g : GV} {S : SS} {I : II} {X : XX} {p : Int} {sl : Nat → Nat} (hfl : l.stackTraces = false) (hno : S.2.2 = false) (hL : LC S sl) (hK : KC I sl) (hp : -2147483648 ≤ p ∧ p < 2147483648)  : CT l g mX8_append 6 1 6 [.ref 0, .int (ii p)] S I X (QT (apR I p) S X) := by
  obtain ⟨m0, p0, p1, p2, p3, p4, p5, p6, p7, p8, p9, hE1, hE2, hC1, hC2, hT, hH, hR1, hE3, hR2⟩ := id hL
  obtain ⟨y0, y1, y1a, y2, y2a, y3, y3a, y4, y4a, y5, y5a, yr⟩ := id hE1
  obtain ⟨a0, a1, a2, a3⟩ := id hH
  obtain ⟨t0, t1, t1a, t2, t2a⟩ := id hT
  have e20 := hE2.1
  have e30 := hE3.1
  have d10 := hR1.1
  have d20 := hR2.1
  have c10 := hC1.1
  have c20 := hC2.1
  obtain ⟨hI, h24, hI2, hTI, hRd, hRs, hWs, hz01, hSl, b10, b11, b12, b13, hRc⟩ := id hK
  obtain ⟨w0, w1, w2, w3, w4, w5, w6, w7, w8, w9, w10, w11, w12, w13⟩ := id hI.1
  obtain ⟨⟨i1, i2⟩, -⟩ := id hTI
  refine v_start hfl rfl (by decide) (Nat.le_of_ble_eq_true rfl) (ls := [some (.ref 0), some (.int (ii p)), none, none, none]) rfl ?_
  refine v_iconst dX8_append_0 ?_
  refine v_istn2 dX8_append_1 rfl ?_
  refine v_bipush dX8_append_2 (by decide) ?_
  refine v_istn3 dX8_append_4 rfl ?_
  have L : ∀ i : Nat, i ≤ 4 → bdF p i = 0 → V l g mX8_append 6 (Zm g (QT (apR I p) S X)) 1 6 5 [some (.ref 0), some (.int (ii p)), some (.int (ii (cnF p i))), some (.int (ii (24 - 8 * (i : Int)))), none] [] S I X := by
    refine loop_up fun i hi ih => ?_
    intro hbd
    refine v_iload_n dX8_append_5 rfl ?_
    refine v_if_lt (tgt := 56) dX8_append_6 (by decide) (fun h6 => ?_) (fun h6 => ?_)
    · obtain rfl : i = 4 := by omega
      have cr := cn_rng p 4
      refine v_aload_n dX8_append_56 rfl ?_
      refine v_getr dX8_append_57 fr_X8_37 (by assumption) (by decide) rfl (by assumption) ?_
      refine v_geti dX8_append_60 fr_X8_90 (by assumption) (by decide) rfl ?_
      refine v_iload_n dX8_append_63 rfl ?_
      refine v_iadd dX8_append_64 ?_
      refine v_bipush dX8_append_65 (by decide) ?_
      refine v_ic_le (tgt := 80) dX8_append_67 (by decide) (fun h67 => ?_) (fun h67 => ?_)
      · refine v_bipush dX8_append_80 (by decide) ?_
        refine v_istn3 dX8_append_82 rfl ?_
        have L2 : ∀ i : Nat, i ≤ 4 → V l g mX8_append 6 (Zm g (QT (apR I p) S X)) 1 6 83 [some (.ref 0), some (.int (ii p)), some (.int (ii (cnF p 4))), some (.int (ii (24 - 8 * (i : Int)))), none] [] S (puJ p I i) X := by
          refine loop_up fun i hi jh => ?_
          refine v_iload_n dX8_append_83 rfl ?_
          refine v_if_lt (tgt := 116) dX8_append_84 (by decide) (fun h84 => ?_) (fun h84 => ?_)
          · obtain rfl : i = 4 := by omega
            refine v_aload_n dX8_append_116 rfl ?_
            refine v_getr dX8_append_117 fr_X8_37 (by assumption) (by decide) rfl (by assumption) ?_
            refine v_geti dX8_append_120 fr_X8_90 (by assumption) (by decide) rfl ?_
            exact v_iT dX8_append_123 rfl hno (by unfold apR; rw [if_neg (by omega), if_neg (by omega)]; rfl)
          · refine v_iload_n dX8_append_87 rfl ?_
            refine v_iload_n dX8_append_88 rfl ?_
            refine v_iushr (z := usF p i) dX8_append_89 (ii_of _).symm ?_
            refine v_sipush dX8_append_90 (by decide) ?_
            refine v_iand (z := sgF p i) dX8_append_93 (ii_of _).symm ?_
            have s1 : 0 ≤ sgF p i ∧ sgF p i ≤ 255 := and255 _
            refine v_ist4 dX8_append_94 rfl ?_
            refine v_iload dX8_append_96 rfl ?_
            refine v_if_eq (tgt := 110) dX8_append_98 (by decide) (fun h98 => ?_) (fun h98 => ?_)
            · refine v_iinc3 dX8_append_110 rfl ?_
              rw [show (24 - 8 * (i : Int)) + -8 = 24 - 8 * ((i + 1 : Nat) : Int) by omega]
              refine v_goto (tgt := 83) dX8_append_113 (by decide) ?_
              have ej : puJ p I (i + 1) = if sgF p i = 0 then puJ p I i else up (up (puJ p I i) (198 + 1) (puJ p I i 198 4).toNat (sgF p i)) 198 4 (puJ p I i 198 4 + 1) := rfl
              have q9 := jh (i + 1) (by omega) (by omega)
              rw [ej] at q9
              first
                | (rw [if_pos h98] at q9; exact v_fgt2 q9 (fgt_c (Or.inr rfl) (fgt_c (Or.inr rfl) (fgt_c (Or.inr rfl) (fgt_c (Or.inr rfl) (fgt_c (Or.inl rfl) (fgt_n)))))))
                | (rw [if_neg h98, show (puJ p I i 198 4).toNat = m by rw [hm]; rfl] at q9; exact v_fgt2 q9 (fgt_c (Or.inr rfl) (fgt_c (Or.inr rfl) (fgt_c (Or.inr rfl) (fgt_c (Or.inr rfl) (fgt_c (Or.inl rfl) (fgt_n)))))))
            · have pl := pu_len p I i
              have cu := cn_up p (i + 1) (3 - i)
              rw [show i + 1 + (3 - i) = 4 by omega, show cnF p (i + 1) = cnF p i + 1 from if_neg h98] at cu
              have cr := cn_rng p i
              obtain ⟨m, hm⟩ := Int.eq_ofNat_of_zero_le (show 0 ≤ puJ p I i 198 4 by omega)
              have hm6 : m < 60 := by omega
              refine v_aload_n dX8_append_101 rfl ?_
              refine v_getr dX8_append_102 fr_X8_37 (by assumption) (by decide) rfl (by assumption) ?_
              refine v_iload dX8_append_105 rfl ?_
              refine v_cV1n dX8_append_107 lk_X8_98 (by assumption) (by decide) rfl (c_addSign (n := m) hfl hT hm hm6) (by decide) (Nat.le_of_ble_eq_true rfl) ?_ rfl
              refine v_iinc3 dX8_append_110 rfl ?_
              rw [show (24 - 8 * (i : Int)) + -8 = 24 - 8 * ((i + 1 : Nat) : Int) by omega]
              refine v_goto (tgt := 83) dX8_append_113 (by decide) ?_
              have ej : puJ p I (i + 1) = if sgF p i = 0 then puJ p I i else up (up (puJ p I i) (198 + 1) (puJ p I i 198 4).toNat (sgF p i)) 198 4 (puJ p I i 198 4 + 1) := rfl
              have q9 := jh (i + 1) (by omega) (by omega)
              rw [ej] at q9
              first
                | (rw [if_pos h98] at q9; exact v_fgt2 q9 (fgt_c (Or.inr rfl) (fgt_c (Or.inr rfl) (fgt_c (Or.inr rfl) (fgt_c (Or.inr rfl) (fgt_c (Or.inl rfl) (fgt_n)))))))
                | (rw [if_neg h98, show (puJ p I i 198 4).toNat = m by rw [hm]; rfl] at q9; exact v_fgt2 q9 (fgt_c (Or.inr rfl) (fgt_c (Or.inr rfl) (fgt_c (Or.inr rfl) (fgt_c (Or.inr rfl) (fgt_c (Or.inl rfl) (fgt_n)))))))
        exact v_fgt2 (L2 0 (Nat.zero_le _)) (fgt_c (Or.inr rfl) (fgt_c (Or.inr rfl) (fgt_c (Or.inr rfl) (fgt_c (Or.inr rfl) (fgt_c (Or.inl rfl) (fgt_n))))))
      · exact v_thT th_X8_95_93 rfl dX8_append_70 dX8_append_73 (Or.inl dX8_append_74) dX8_append_76 dX8_append_79 (by decide) (Nat.le_of_ble_eq_true rfl) (by decide) (by decide) hno (by unfold apR; rw [if_neg (by omega), if_pos (by omega)]; rfl)
    · have cr := cn_rng p i
      refine v_iload_n dX8_append_9 rfl ?_
      refine v_iload_n dX8_append_10 rfl ?_
      refine v_iushr (z := usF p i) dX8_append_11 (ii_of _).symm ?_
      refine v_sipush dX8_append_12 (by decide) ?_
      refine v_iand (z := sgF p i) dX8_append_15 (ii_of _).symm ?_
      have s1 : 0 ≤ sgF p i ∧ sgF p i ≤ 255 := and255 _
      refine v_ist4 dX8_append_16 rfl ?_
      refine v_iload dX8_append_18 rfl ?_
      refine v_if_eq (tgt := 50) dX8_append_20 (by decide) (fun h20 => ?_) (fun h20 => ?_)
      · refine v_iinc3 dX8_append_50 rfl ?_
        rw [show (24 - 8 * (i : Int)) + -8 = 24 - 8 * ((i + 1 : Nat) : Int) by omega]
        refine v_goto (tgt := 5) dX8_append_53 (by decide) ?_
        have ec : cnF p (i + 1) = if sgF p i = 0 then cnF p i else cnF p i + 1 := rfl
        have eb : bdF p (i + 1) = if bdF p i = 1 ∨ bdS (sgF p i) then 1 else 0 := rfl
        have q9 := ih (i + 1) (by omega) (by omega) (by rw [eb, if_neg (by unfold bdS; omega)])
        rw [ec] at q9
        first
          | (rw [if_pos (by omega)] at q9; exact v_fgt2 q9 (fgt_c (Or.inr rfl) (fgt_c (Or.inr rfl) (fgt_c (Or.inr rfl) (fgt_c (Or.inr rfl) (fgt_c (Or.inl rfl) (fgt_n)))))))
          | (rw [if_neg (by omega)] at q9; exact v_fgt2 q9 (fgt_c (Or.inr rfl) (fgt_c (Or.inr rfl) (fgt_c (Or.inr rfl) (fgt_c (Or.inr rfl) (fgt_c (Or.inl rfl) (fgt_n)))))))
      · refine v_iload dX8_append_23 rfl ?_
        refine v_bipush dX8_append_25 (by decide) ?_
        refine v_ic_lt (tgt := 37) dX8_append_27 (by decide) (fun h27 => ?_) (fun h27 => ?_)
        · exact v_thT th_X8_88_61 rfl dX8_append_37 dX8_append_40 (Or.inl dX8_append_41) dX8_append_43 dX8_append_46 (by decide) (Nat.le_of_ble_eq_true rfl) (by decide) (by decide) hno (by unfold apR; rw [if_pos (bd_at (i := i) (by omega) (by unfold bdS; omega))]; rfl)
        · refine v_iload dX8_append_30 rfl ?_
          refine v_bipush dX8_append_32 (by decide) ?_
          refine v_ic_le (tgt := 47) dX8_append_34 (by decide) (fun h34 => ?_) (fun h34 => ?_)
          · refine v_iinc2 dX8_append_47 rfl ?_
            refine v_iinc3 dX8_append_50 rfl ?_
            rw [show (24 - 8 * (i : Int)) + -8 = 24 - 8 * ((i + 1 : Nat) : Int) by omega]
            refine v_goto (tgt := 5) dX8_append_53 (by decide) ?_
            have ec : cnF p (i + 1) = if sgF p i = 0 then cnF p i else cnF p i + 1 := rfl
            have eb : bdF p (i + 1) = if bdF p i = 1 ∨ bdS (sgF p i) then 1 else 0 := rfl
            have q9 := ih (i + 1) (by omega) (by omega) (by rw [eb, if_neg (by unfold bdS; omega)])
            rw [ec] at q9
            first
              | (rw [if_pos (by omega)] at q9; exact v_fgt2 q9 (fgt_c (Or.inr rfl) (fgt_c (Or.inr rfl) (fgt_c (Or.inr rfl) (fgt_c (Or.inr rfl) (fgt_c (Or.inl rfl) (fgt_n)))))))
              | (rw [if_neg (by omega)] at q9; exact v_fgt2 q9 (fgt_c (Or.inr rfl) (fgt_c (Or.inr rfl) (fgt_c (Or.inr rfl) (fgt_c (Or.inr rfl) (fgt_c (Or.inl rfl) (fgt_n)))))))
          · exact v_thT th_X8_88_61 rfl dX8_append_37 dX8_append_40 (Or.inl dX8_append_41) dX8_append_43 dX8_append_46 (by decide) (Nat.le_of_ble_eq_true rfl) (by decide) (by decide) hno (by unfold apR; rw [if_pos (bd_at (i := i) (by omega) (by unfold bdS; omega))]; rfl)
  exact v_fgt2 (L 0 (Nat.zero_le _) rfl) (fgt_c (Or.inr rfl) (fgt_c (Or.inr rfl) (fgt_c (Or.inr rfl) (fgt_c (Or.inr rfl) (fgt_c (Or.inl rfl) (fgt_n))))))
