/-! THE CLASS ITSELF: its layout, what holds of its cells, what its methods answer -/
abbrev IAE : String := "java/lang/IllegalArgumentException"
abbrev ISE : String := "java/lang/IllegalStateException"
abbrev IOB : String := "java/lang/IndexOutOfBoundsException"
abbrev ARI : String := "java/lang/ArithmeticException"
abbrev NSE : String := "java/util/NoSuchElementException"
abbrev RR : Type := (Option Value ⊕ String) × II
def okI (z : Int) (I : II) : RR := (.inl (some (.int (ii z))), I)
def erI (E : String) (I : II) : RR := (.inr E, I)
def QT (r : RR) (S : SS) (X : XX) : QQ := fun o S3 I3 X3 => o = r.1 ∧ S3 = S ∧ I3 = r.2 ∧ X3 = X
theorem S_eta {S : SS} (h : S.2.2 = false) : (S.1, S.2.1, false) = S := by
  rw [← h]
section QTs
variable {l : Launch} {g : GV} {mt mt2 : MT} {dp dp2 bc bs pc pc2 idx : Nat} {Z : ZZ} {ls : List (Option Value)} {st : List Value} {S S2 : SS} {I I2 : II} {X : XX} {r : RR}
theorem v_iT {z : Int} (hd : DC (mCc mt) pc .ireturn 1 pc2) (hrt : mRt mt = some .int) (hno : S.2.2 = false) (hr : r = (.inl (some (.int (ii z))), I)) : V l g mt dp (Zm g (QT r S X)) bc bs pc ls [.int (ii z)] S I X :=
  v_iret hd hrt ⟨by rw [hr], rfl, by rw [hr], rfl⟩ (fun h => by rw [hno] at h; cases h)
theorem v_zT {z : Int} (hd : DC (mCc mt) pc .ireturn 1 pc2) (hrt : mRt mt = some .boolean) (hb : z = 0 ∨ z = 1) (hno : S.2.2 = false) (hr : r = (.inl (some (.int (ii z))), I)) : V l g mt dp (Zm g (QT r S X)) bc bs pc ls [.int (ii z)] S I X :=
  v_zret hd hrt hb ⟨by rw [hr], rfl, by rw [hr], rfl⟩ (fun h => by rw [hno] at h; cases h)
theorem v_thT {ik is ic p0 p1 p2 p3 p4 : Nat} {cls text : String} {names : List String} (hT : THo (mOwn mt) ik is ic cls text names) (hm : mHh mt = []) (d0 : DC (mCc mt) pc (.new ik) 3 p0) (d3 : DC (mCc mt) p0 .dup 1 p1) (d4 : DC (mCc mt) p1 (.ldc is) 2 p2 ∨ DC (mCc mt) p1 (.ldc_w is) 3 p2) (d6 : DC (mCc mt) p2 (.invokespecial ic) 3 p3) (d9 : DC (mCc mt) p3 .athrow 1 p4)
    (hdp : 6 ≤ dp) (hst : (st.map fun v => v.category).sum ≤ 8) (hbc : 1 ≤ bc) (hbs : 6 ≤ bs) (hno : S.2.2 = false) (hr : r = (.inr cls, I)) : V l g mt dp (Zm g (QT r S X)) bc bs pc ls st S I X :=
  v_throw hT hm d0 d3 d4 d6 d9 hdp hst hbc hbs ⟨by rw [hr], S_eta hno, by rw [hr], rfl⟩
end QTs
def LC (S : SS) (sl : Nat → Nat) : Prop := S.1[0]? = some (8, 14) ∧ S.2.1 0 0 = some 1 ∧ S.2.1 0 1 = some 32 ∧ S.2.1 0 2 = some 63 ∧ S.2.1 0 3 = some 94 ∧ S.2.1 0 4 = some 146 ∧ S.2.1 0 5 = some 198 ∧ S.2.1 0 6 = some 201 ∧ S.2.1 0 7 = some 451 ∧ S.2.1 0 8 = some 464 ∧ S.2.1 0 9 = some 495 ∧ isEl S 1 ∧ isEl S 32 ∧ isCnt S 94 1 ∧ isCnt S 146 63 ∧ isTxt S 198 ∧ isHis S 201 sl ∧ isRes S 451 ∧ isEl S 464 ∧ isRes S 495
def lsF (z : Int) : Int := if z = 3 then 1 else 0
def gsF (z : Int) : Int := if z = 3 then 7 else if z = 0 then 3 else 1
def icF (I : II) (z : Int) : Int := if 0 ≤ z ∧ z < I 1 0 then 1 else 0
def ilF (I : II) (z : Int) : Int := if 0 ≤ z ∧ z < I 1 4 then 1 else 0
theorem icF_01 (I : II) (z : Int) : icF I z = 0 ∨ icF I z = 1 := by unfold icF; split <;> omega
theorem ilF_01 (I : II) (z : Int) : ilF I z = 0 ∨ ilF I z = 1 := by unfold ilF; split <;> omega
theorem icF_1 {I : II} {z : Int} (h : ¬ icF I z = 0) : 0 ≤ z ∧ z < I 1 0 := by
  unfold icF at h
  split at h
  · assumption
  · exact absurd rfl h
theorem icF_0 {I : II} {z : Int} (h : icF I z = 0) : ¬ (0 ≤ z ∧ z < I 1 0) := by
  unfold icF at h
  split at h
  · cases h
  · assumption
theorem ilF_1 {I : II} {z : Int} (h : ¬ ilF I z = 0) : 0 ≤ z ∧ z < I 1 4 := by
  unfold ilF at h
  split at h
  · assumption
  · exact absurd rfl h
theorem ilF_0 {I : II} {z : Int} (h : ilF I z = 0) : ¬ (0 ≤ z ∧ z < I 1 4) := by
  unfold ilF at h
  split at h
  · cases h
  · assumption
/-- the count, where it is wanted -/
def ctM (I : II) : II := if I 0 10 = 0 then up (runM I 94 1) 0 10 1 else I

set_option maxRecDepth 100000 in
set_option maxHeartbeats 4000000 in
theorem c_least {l : Launch} {g : GV} {S : SS} {I : II} {X : XX} {z : Int} (hfl : l.stackTraces = false) (hz : -2147483648 ≤ z ∧ z < 2147483648) : CE l g mX8_leastSetting 0 [.int (ii z)] S I X (some (.int (ii (lsF z)))) I := by
  refine v_startE hfl rfl (by decide) (Nat.le_of_ble_eq_true rfl) (ls := [some (.int (ii z))]) rfl ?_
  refine v_iload_n dX8_leastSetting_0 rfl ?_
  refine v_iconst dX8_leastSetting_1 ?_
  refine v_ic_ne (tgt := 9) dX8_leastSetting_2 (by decide) (fun h2 => ?_) (fun h2 => ?_)
  · refine v_iconst dX8_leastSetting_9 ?_
    exact v_iE dX8_leastSetting_10 rfl (by unfold lsF; (repeat (first | rw [if_pos (by omega)] | rw [if_neg (by omega)])); first | done | rfl) (rfl)
  · refine v_iconst dX8_leastSetting_5 ?_
    refine v_goto (tgt := 10) dX8_leastSetting_6 (by decide) ?_
    exact v_iE dX8_leastSetting_10 rfl (by unfold lsF; (repeat (first | rw [if_pos (by omega)] | rw [if_neg (by omega)])); first | done | rfl) (rfl)

set_option maxRecDepth 100000 in
set_option maxHeartbeats 4000000 in
theorem c_greatest {l : Launch} {g : GV} {S : SS} {I : II} {X : XX} {z : Int} (hfl : l.stackTraces = false) (hz : -2147483648 ≤ z ∧ z < 2147483648) : CE l g mX8_greatestSetting 0 [.int (ii z)] S I X (some (.int (ii (gsF z)))) I := by
  refine v_startE hfl rfl (by decide) (Nat.le_of_ble_eq_true rfl) (ls := [some (.int (ii z))]) rfl ?_
  refine v_iload_n dX8_greatestSetting_0 rfl ?_
  refine v_iconst dX8_greatestSetting_1 ?_
  refine v_ic_ne (tgt := 8) dX8_greatestSetting_2 (by decide) (fun h2 => ?_) (fun h2 => ?_)
  · refine v_iload_n dX8_greatestSetting_8 rfl ?_
    refine v_if_ne (tgt := 16) dX8_greatestSetting_9 (by decide) (fun h9 => ?_) (fun h9 => ?_)
    · refine v_iconst dX8_greatestSetting_16 ?_
      exact v_iE dX8_greatestSetting_17 rfl (by unfold gsF; (repeat (first | rw [if_pos (by omega)] | rw [if_neg (by omega)])); first | done | rfl) (rfl)
    · refine v_iconst dX8_greatestSetting_12 ?_
      refine v_goto (tgt := 17) dX8_greatestSetting_13 (by decide) ?_
      exact v_iE dX8_greatestSetting_17 rfl (by unfold gsF; (repeat (first | rw [if_pos (by omega)] | rw [if_neg (by omega)])); first | done | rfl) (rfl)
  · refine v_bipush dX8_greatestSetting_5 (by decide) ?_
    exact v_iE dX8_greatestSetting_7 rfl (by unfold gsF; (repeat (first | rw [if_pos (by omega)] | rw [if_neg (by omega)])); first | done | rfl) (rfl)

set_option maxRecDepth 100000 in
set_option maxHeartbeats 4000000 in
theorem c_isCand {l : Launch} {g : GV} {S : SS} {I : II} {X : XX} {z : Int} {sl : Nat → Nat} (hfl : l.stackTraces = false) (hL : LC S sl) (hW : WfE I 1) (hz : -2147483648 ≤ z ∧ z < 2147483648) : CE l g mX8_isCandidate 0 [.ref 0, .int (ii z)] S I X (some (.int (ii (icF I z)))) I := by
  obtain ⟨m0, p0, p1, p2, p3, p4, p5, p6, p7, p8, p9, hE1, hE2, hC1, hC2, hT, hH, hR1, hE3, hR2⟩ := id hL
  obtain ⟨y0, y1, y1a, y2, y2a, y3, y3a, y4, y4a, y5, y5a, yr⟩ := id hE1
  obtain ⟨b1, b2⟩ := And.intro hW.1 hW.2.1
  refine v_startE hfl rfl (by decide) (Nat.le_of_ble_eq_true rfl) (ls := [some (.ref 0), some (.int (ii z))]) rfl ?_
  refine v_iload_n dX8_isCandidate_0 rfl ?_
  refine v_if_lt (tgt := 19) dX8_isCandidate_1 (by decide) (fun h1 => ?_) (fun h1 => ?_)
  · refine v_iconst dX8_isCandidate_19 ?_
    exact v_zE dX8_isCandidate_20 rfl (by first | exact Or.inl rfl | exact Or.inr rfl | omega) (by unfold icF; (repeat (first | rw [if_pos (by omega)] | rw [if_neg (by omega)])); first | done | rfl) (rfl)
  · refine v_iload_n dX8_isCandidate_4 rfl ?_
    refine v_aload_n dX8_isCandidate_5 rfl ?_
    refine v_getr dX8_isCandidate_6 fr_X8_10 (by assumption) (by decide) rfl (by assumption) ?_
    refine v_geti dX8_isCandidate_9 fr_X8_70 (by assumption) (by decide) rfl ?_
    refine v_ic_ge (tgt := 19) dX8_isCandidate_12 (by decide) (fun h12 => ?_) (fun h12 => ?_)
    · refine v_iconst dX8_isCandidate_19 ?_
      exact v_zE dX8_isCandidate_20 rfl (by first | exact Or.inl rfl | exact Or.inr rfl | omega) (by unfold icF; (repeat (first | rw [if_pos (by omega)] | rw [if_neg (by omega)])); first | done | rfl) (rfl)
    · refine v_iconst dX8_isCandidate_15 ?_
      refine v_goto (tgt := 20) dX8_isCandidate_16 (by decide) ?_
      exact v_zE dX8_isCandidate_20 rfl (by first | exact Or.inl rfl | exact Or.inr rfl | omega) (by unfold icF; (repeat (first | rw [if_pos (by omega)] | rw [if_neg (by omega)])); first | done | rfl) (rfl)

set_option maxRecDepth 100000 in
set_option maxHeartbeats 4000000 in
theorem c_isPile {l : Launch} {g : GV} {S : SS} {I : II} {X : XX} {z : Int} {sl : Nat → Nat} (hfl : l.stackTraces = false) (hL : LC S sl) (hW : WfE I 1) (hz : -2147483648 ≤ z ∧ z < 2147483648) : CE l g mX8_isPile 0 [.ref 0, .int (ii z)] S I X (some (.int (ii (ilF I z)))) I := by
  obtain ⟨m0, p0, p1, p2, p3, p4, p5, p6, p7, p8, p9, hE1, hE2, hC1, hC2, hT, hH, hR1, hE3, hR2⟩ := id hL
  obtain ⟨y0, y1, y1a, y2, y2a, y3, y3a, y4, y4a, y5, y5a, yr⟩ := id hE1
  obtain ⟨b1, b2⟩ := And.intro hW.2.2.1 hW.2.2.2.1
  refine v_startE hfl rfl (by decide) (Nat.le_of_ble_eq_true rfl) (ls := [some (.ref 0), some (.int (ii z))]) rfl ?_
  refine v_iload_n dX8_isPile_0 rfl ?_
  refine v_if_lt (tgt := 19) dX8_isPile_1 (by decide) (fun h1 => ?_) (fun h1 => ?_)
  · refine v_iconst dX8_isPile_19 ?_
    exact v_zE dX8_isPile_20 rfl (by first | exact Or.inl rfl | exact Or.inr rfl | omega) (by unfold ilF; (repeat (first | rw [if_pos (by omega)] | rw [if_neg (by omega)])); first | done | rfl) (rfl)
  · refine v_iload_n dX8_isPile_4 rfl ?_
    refine v_aload_n dX8_isPile_5 rfl ?_
    refine v_getr dX8_isPile_6 fr_X8_10 (by assumption) (by decide) rfl (by assumption) ?_
    refine v_geti dX8_isPile_9 fr_X8_324 (by assumption) (by decide) rfl ?_
    refine v_ic_ge (tgt := 19) dX8_isPile_12 (by decide) (fun h12 => ?_) (fun h12 => ?_)
    · refine v_iconst dX8_isPile_19 ?_
      exact v_zE dX8_isPile_20 rfl (by first | exact Or.inl rfl | exact Or.inr rfl | omega) (by unfold ilF; (repeat (first | rw [if_pos (by omega)] | rw [if_neg (by omega)])); first | done | rfl) (rfl)
    · refine v_iconst dX8_isPile_15 ?_
      refine v_goto (tgt := 20) dX8_isPile_16 (by decide) ?_
      exact v_zE dX8_isPile_20 rfl (by first | exact Or.inl rfl | exact Or.inr rfl | omega) (by unfold ilF; (repeat (first | rw [if_pos (by omega)] | rw [if_neg (by omega)])); first | done | rfl) (rfl)

set_option maxRecDepth 100000 in
set_option maxHeartbeats 4000000 in
theorem c_counted {l : Launch} {g : GV} {S : SS} {I : II} {X : XX} {sl : Nat → Nat} (hfl : l.stackTraces = false) (hL : LC S sl) (hI : CI I 94 1) (hb : I 0 10 = 0 ∨ I 0 10 = 1) : CE l g mX8_counted 5 [.ref 0] S I X (some (.ref 94)) (ctM I) := by
  obtain ⟨m0, p0, p1, p2, p3, p4, p5, p6, p7, p8, p9, hE1, hE2, hC1, hC2, hT, hH, hR1, hE3, hR2⟩ := id hL
  obtain ⟨n0, n1, n2, n3, n4, n5, n6, n6a, n7, n7a, n8, n8a, n9, n9a, n10, n10a, hR, hHc, hF, hG, hEc, hsp⟩ := id hC1
  refine v_startE hfl rfl (by decide) (Nat.le_of_ble_eq_true rfl) (ls := [some (.ref 0)]) rfl ?_
  refine v_aload_n dX8_counted_0 rfl ?_
  refine v_geti dX8_counted_1 fr_X8_78 (by assumption) (by decide) rfl ?_
  refine v_if_ne (tgt := 19) dX8_counted_4 (by decide) (fun h4 => ?_) (fun h4 => ?_)
  · refine v_aload_n dX8_counted_19 rfl ?_
    refine v_getr dX8_counted_20 fr_X8_27 (by assumption) (by decide) rfl (by assumption) ?_
    exact v_aE dX8_counted_23 rfl (by first | exact Or.inl ⟨_, rfl⟩ | exact Or.inr ⟨_, rfl⟩) (rfl) (by unfold ctM; first | rw [if_pos (by omega)] | rw [if_neg (by omega)])
  · refine v_aload_n dX8_counted_7 rfl ?_
    refine v_getr dX8_counted_8 fr_X8_27 (by assumption) (by decide) rfl (by assumption) ?_
    refine v_cV0n dX8_counted_11 lk_X8_307 (by assumption) (by decide) rfl (c_run hfl hC1 hI) (by decide) (Nat.le_of_ble_eq_true rfl) ?_ rfl
    refine v_aload_n dX8_counted_14 rfl ?_
    refine v_iconst dX8_counted_15 ?_
    refine v_putz dX8_counted_16 fr_X8_78 (by assumption) (by decide) rfl (by first | exact Or.inl rfl | exact Or.inr rfl | omega) ?_
    refine v_aload_n dX8_counted_19 rfl ?_
    refine v_getr dX8_counted_20 fr_X8_27 (by assumption) (by decide) rfl (by assumption) ?_
    exact v_aE dX8_counted_23 rfl (by first | exact Or.inl ⟨_, rfl⟩ | exact Or.inr ⟨_, rfl⟩) (rfl) (by unfold ctM; first | rw [if_pos (by omega)] | rw [if_neg (by omega)])

def rfM (I : II) (n : Nat) (sl : Nat → Nat) : II := up (reM I 201 1 n sl) 0 10 0
theorem reS_no {S : SS} {h n : Nat} : (reS S h n).2.2 = S.2.2 := by unfold reS; split <;> rfl
theorem reS_1 {S : SS} {h n : Nat} : (reS S h n).1 = S.1 := by unfold reS; split <;> rfl
theorem reS_p {S : SS} {h n b : Nat} (hb : b ≠ h + 1) : (reS S h n).2.1 b = S.2.1 b := by
  unfold reS
  split
  · rfl
  · exact rotP_ne hb

set_option maxRecDepth 100000 in
set_option maxHeartbeats 4000000 in
theorem c_forUndo {l : Launch} {g : GV} {S : SS} {I : II} {X : XX} {n : Nat} {sl : Nat → Nat} (hfl : l.stackTraces = false) (hL : LC S sl) (hn : I 201 1 = (n : Int)) (hn8 : n ≤ 8) : CT l g mX8_rememberForUndo 3 0 0 [.ref 0] S I X (QE none (reS S 201 n) (rfM I n sl) X) := by
  obtain ⟨m0, p0, p1, p2, p3, p4, p5, p6, p7, p8, p9, hE1, hE2, hC1, hC2, hT, hH, hR1, hE3, hR2⟩ := id hL
  obtain ⟨a0, a1, a2, a3⟩ := id hH
  obtain ⟨y0, y1, y1a, y2, y2a, y3, y3a, y4, y4a, y5, y5a, yr⟩ := id hE1
  refine v_start hfl rfl (by decide) (Nat.le_of_ble_eq_true rfl) (ls := [some (.ref 0)]) rfl ?_
  refine v_aload_n dX8_rememberForUndo_0 rfl ?_
  refine v_getr dX8_rememberForUndo_1 fr_X8_44 (by assumption) (by decide) rfl (by assumption) ?_
  refine v_aload_n dX8_rememberForUndo_4 rfl ?_
  refine v_getr dX8_rememberForUndo_5 fr_X8_10 (by assumption) (by decide) rfl (by assumption) ?_
  refine v_cV1nS dX8_rememberForUndo_8 lk_X8_339 (by assumption) (by decide) rfl (c_remember hfl hH hE1 (Or.inr (by omega)) hn hn8) reS_no (by decide) (Nat.le_of_ble_eq_true rfl) ?_ rfl
  have m0b : (reS S 201 n).1[0]? = some (8, 14) := by rw [reS_1]; exact m0
  refine v_aload_n dX8_rememberForUndo_11 rfl ?_
  refine v_iconst dX8_rememberForUndo_12 ?_
  refine v_putz dX8_rememberForUndo_13 fr_X8_78 (by assumption) (by decide) rfl (by first | exact Or.inl rfl | exact Or.inr rfl | omega) ?_
  exact v_vret dX8_rememberForUndo_16 rfl ⟨rfl, rfl, rfl, rfl⟩ (fun _ => rfl)

def cvR (I : II) (z c : Int) : RR := if hrF I 95 z = 0 then erI IOB I else if icF I c = 0 then erI IOB I else okI (I (95 + 4 + z.toNat) c.toNat) I
theorem hrF_1 {I : II} {r : Nat} {z : Int} (h : ¬ hrF I r z = 0) : 0 ≤ z ∧ z < I r 0 := by
  unfold hrF at h
  split at h
  · assumption
  · exact absurd rfl h
theorem hrF_01 (I : II) (r : Nat) (z : Int) : hrF I r z = 0 ∨ hrF I r z = 1 := by unfold hrF; split <;> omega

set_option maxRecDepth 100000 in
set_option maxHeartbeats 4000000 in
theorem c_checkedVotes {l : Launch} {g : GV} {S : SS} {I : II} {X : XX} {z c : Int} {sl : Nat → Nat} (hfl : l.stackTraces = false) (hno : S.2.2 = false) (hL : LC S sl) (hW : WfE I 1) (hRI : RI I 95) (hz : -2147483648 ≤ z ∧ z < 2147483648) (hc : -2147483648 ≤ c ∧ c < 2147483648) : CT l g mX8_checkedVotes 6 1 6 [.ref 0, .ref 95, .int (ii z), .int (ii c)] S I X (QT (cvR I z c) S X) := by
  obtain ⟨m0, p0, p1, p2, p3, p4, p5, p6, p7, p8, p9, hE1, hE2, hC1, hC2, hT, hH, hR1, hE3, hR2⟩ := id hL
  obtain ⟨n0, n1, n2, n3, n4, n5, n6, n6a, n7, n7a, n8, n8a, n9, n9a, n10, n10a, hR, hHc, hF, hG, hEc, hsp⟩ := id hC1
  obtain ⟨r0, r1, r1a, r2, r2a, r3, r3a, rr⟩ := id hR
  refine v_start hfl rfl (by decide) (Nat.le_of_ble_eq_true rfl) (ls := [some (.ref 0), some (.ref 95), some (.int (ii z)), some (.int (ii c))]) rfl ?_
  refine v_aload_n dX8_checkedVotes_0 rfl ?_
  refine v_iload_n dX8_checkedVotes_1 rfl ?_
  refine v_cV1 dX8_checkedVotes_2 lk_X8_188 (by assumption) (by decide) rfl (c_hasRound hfl hR hRI hz) (by decide) (Nat.le_of_ble_eq_true rfl) ?_ rfl
  have h01 := hrF_01 I 95 z
  refine v_if_ne (tgt := 18) dX8_checkedVotes_5 (by decide) (fun h5 => ?_) (fun h5 => ?_)
  · refine v_aload_n dX8_checkedVotes_18 rfl ?_
    refine v_iload_n dX8_checkedVotes_19 rfl ?_
    refine v_cV1 dX8_checkedVotes_20 lk_X8_135 (by assumption) (by decide) rfl (c_isCand hfl hL hW hc) (by decide) (Nat.le_of_ble_eq_true rfl) ?_ rfl
    have i01 := icF_01 I c
    refine v_if_ne (tgt := 36) dX8_checkedVotes_23 (by decide) (fun h23 => ?_) (fun h23 => ?_)
    · obtain ⟨k1, k2⟩ := hrF_1 h5
      obtain ⟨j1, j2⟩ := icF_1 h23
      obtain ⟨zn, ez⟩ := Int.eq_ofNat_of_zero_le k1
      obtain ⟨cn, ec⟩ := Int.eq_ofNat_of_zero_le j1
      have q0 := hRI.1.2
      have q1 := hW.2.1
      have yq := (rr zn (by omega)).2
      refine v_aload_n dX8_checkedVotes_36 rfl ?_
      refine v_getr dX8_checkedVotes_37 fr_X8_342 (by assumption) (by decide) rfl (by assumption) ?_
      refine v_iload_n dX8_checkedVotes_40 rfl ?_
      refine v_aald22 (j := zn) dX8_checkedVotes_41 (by assumption) (by first | rfl | omega) (by omega) ((rr zn (by omega)).1) ?_
      refine v_iload_n dX8_checkedVotes_42 rfl ?_
      refine v_iald (j := cn) dX8_checkedVotes_43 (by assumption) (by first | rfl | omega) (by omega) ?_
      exact v_iT dX8_checkedVotes_44 rfl hno (by unfold cvR; rw [if_neg h5, if_neg h23, ez, ec]; rfl)
    · exact v_thT th_X8_141_139 rfl dX8_checkedVotes_26 dX8_checkedVotes_29 (Or.inl dX8_checkedVotes_30) dX8_checkedVotes_32 dX8_checkedVotes_35 (by decide) (Nat.le_of_ble_eq_true rfl) (by decide) (by decide) hno (by unfold cvR; rw [if_neg (by omega), if_pos (by omega)]; rfl)
  · exact v_thT th_X8_191_139 rfl dX8_checkedVotes_8 dX8_checkedVotes_11 (Or.inl dX8_checkedVotes_12) dX8_checkedVotes_14 dX8_checkedVotes_17 (by decide) (Nat.le_of_ble_eq_true rfl) (by decide) (by decide) hno (by unfold cvR; rw [if_pos (by omega)]; rfl)
