/-! THE CLASS ITSELF: its methods -/
def KC (I : II) (sl : Nat → Nat) : Prop := CI I 94 1 ∧ I 1 4 ≤ 24 ∧ CI I 146 63 ∧ TI0 I 198 ∧ RI I 451 ∧ RI I 495 ∧ WfT I 464 ∧ (0 ≤ I 201 1 ∧ I 201 1 ≤ 8) ∧ (∀ k : Nat, (k : Int) < I 201 1 → WfT I (sl k)) ∧ (I 0 10 = 0 ∨ I 0 10 = 1) ∧ (I 0 11 = 0 ∨ I 0 11 = 1) ∧ (I 0 12 = 0 ∨ I 0 12 = 1) ∧ (I 0 13 = 0 ∨ I 0 13 = 1) ∧ (I 0 10 = 1 → RI I 95)
/-! the number of rounds -/
theorem send_r {I : II} {c e p : Nat} {r : Int} (hsp : e + 31 ≤ c) : sendM I c e p r (c + 1) = I (c + 1) := by
  unfold sendM
  split
  · rw [up_ne (by omega), up_ne (by omega), up_ne (by omega), up_ne (by omega)]
  · rw [up_ne (by omega), up_ne (by omega)]
theorem el_r {I : II} {c q r : Nat} {rs : Int} : elM I c q r rs (c + 1) 0 = I (c + 1) 0 := by
  unfold elM elI2
  rw [up_ne (by omega), up_ne (by omega), up_ne (by omega), up_ne (by omega), up_ne (by omega), up_ne (by omega)]
  split
  · rw [up_nk (by omega), up_ne (by omega)]
  · rfl
theorem ew_r {c e r : Nat} : ∀ k (I : II), ewM c e r k I (c + 1) 0 = I (c + 1) 0
  | 0, _ => rfl
  | k + 1, I => by
    unfold ewM
    split
    · rw [chJ_ne (by omega)]
    · split
      · rw [chJ_ne (by omega)]
      · rw [ew_r k, el_r, chJ_ne (by omega)]
theorem ea_r {c e r : Nat} : ∀ k (I : II), eaM c e r k I (c + 1) 0 = I (c + 1) 0
  | 0, _ => rfl
  | k + 1, I => by
    unfold eaM
    split
    · rfl
    · split
      · rw [ea_r k, chJ_ne (by omega)]
      · rw [ea_r k, el_r, chJ_ne (by omega)]
theorem ts_r {c e : Nat} {r q pa su sm : Int} {I : II} (hsp : e + 31 ≤ c) : ∀ p, (tsF c e r q pa su sm I p).1 (c + 1) = I (c + 1)
  | 0 => rfl
  | p + 1 => by
    unfold tsF
    split
    · exact ts_r hsp p
    · show sendM _ _ _ _ _ (c + 1) = _
      rw [send_r hsp]
      unfold tsJ
      rw [up_ne (by omega)]
      exact ts_r hsp p
theorem tr_r {I : II} {c e q r : Nat} (hsp : e + 31 ≤ c) : trM I c e q r (c + 1) 0 = I (c + 1) 0 := by
  unfold trM evM
  rw [up_ne (by omega), up_ne (by omega), up_ne (by omega), up_ne (by omega), up_ne (by omega), up_ne (by omega)]
  exact congrFun (ts_r hsp _) 0
theorem xwF_r {c e : Nat} {r w : Int} {I : II} (hsp : e + 31 ≤ c) : ∀ p, (xwF c e r w I p).1 (c + 1) = I (c + 1)
  | 0 => rfl
  | p + 1 => by
    unfold xwF
    split
    · show sendM _ _ _ _ _ (c + 1) = _
      rw [send_r hsp]
      exact xwF_r hsp p
    · exact xwF_r hsp p
theorem xw_r {I : II} {c e r : Nat} (hsp : e + 31 ≤ c) : xwM I c e r (c + 1) 0 = I (c + 1) 0 := by
  unfold xwM
  split
  · rw [chJ_ne (by omega)]
  · unfold xwL evM
    rw [up_ne (by omega), up_ne (by omega), up_ne (by omega), xwF_r hsp]
    unfold xwI
    rw [up_ne (by omega), up_ne (by omega), up_ne (by omega), up_ne (by omega), up_ne (by omega), up_ne (by omega), chJ_ne (by omega)]
theorem pr_r {I : II} {c e r : Nat} (hsp : e + 31 ≤ c) : (prF I c e r).2 (c + 1) 0 = I (c + 1) 0 := by
  have k : prJ I c e r (c + 1) 0 = I (c + 1) 0 := ew_r _ _
  unfold prF
  generalize prJ I c e r = J at k ⊢
  split
  · exact k
  · split
    · exact (ea_r _ _).trans k
    · show prK J c e r (c + 1) 0 = _
      unfold prK
      split
      · rw [xw_r hsp, chJ_ne (by omega)]; exact k
      · rw [tr_r hsp, chJ_ne (by omega)]; exact k
theorem rb_r {I : II} {c e r : Nat} (hr : r < 9) : rbM I c e r (c + 1) 0 = (r : Int) + 1 := by
  unfold rbM logM lgI
  rw [cpy_ne (by omega), cpy_ne (by omega), cpy_ne (by omega), up_ne (by omega), up_ne (by omega), up_ne (by omega), up_ne (by omega), up_ne (by omega), up_ne (by omega), up_ne (by omega), up_ne (by omega), up_eq]
theorem rd_r {c e : Nat} (hsp : e + 31 ≤ c) : ∀ k r (I : II), r + k ≤ 9 → 1 ≤ k → 1 ≤ rdL c e k r I (c + 1) 0 ∧ rdL c e k r I (c + 1) 0 ≤ 9
  | 0, _, _, _, h => by omega
  | k + 1, r, I, hk, _ => by
    have h1 : (prF (rbM I c e r) c e r).2 (c + 1) 0 = (r : Int) + 1 := (pr_r hsp).trans (rb_r (by omega))
    unfold rdL
    split
    · omega
    · cases k with
      | zero =>
        show 1 ≤ (prF (rbM I c e r) c e r).2 (c + 1) 0 ∧ (prF (rbM I c e r) c e r).2 (c + 1) 0 ≤ 9
        omega
      | succ k => exact rd_r hsp (k + 1) (r + 1) _ (by omega) (by omega)
theorem RI_run {I : II} {c e : Nat} (h : CI I c e) (hsp : e + 31 ≤ c) : RI (runM I c e) (c + 1) := by
  have h1 := CI_run h hsp
  have h2 : 1 ≤ runM I c e (c + 1) 0 ∧ runM I c e (c + 1) 0 ≤ 9 := by
    rw [runM_eq]
    exact rd_r hsp 9 0 _ (by omega) (by omega)
  exact ⟨⟨by omega, h2.2⟩, h1.2.2.2.2.1⟩
theorem rdL_e {c e x : Nat} (hx : x < c) : ∀ k r (I : II), rdL c e k r I x = I x
  | 0, _, _ => rfl
  | k + 1, r, I => by
    unfold rdL
    split
    · rw [pr_e hx, rb_e hx]
    · rw [rdL_e hx k, pr_e hx, rb_e hx]
theorem run_e {I : II} {c e x : Nat} (hx : x < c) : runM I c e x = I x := by
  rw [runM_eq, rdL_e hx]
  unfold startPM
  rw [sp_e hx, sc_e hx]
theorem ct_CI {I : II} (h : CI I 94 1) : CI (ctM I) 94 1 := by
  unfold ctM
  split
  · exact CI_up (CI_run h (by omega)) (by omega) (Or.inl (by omega)) (by omega) (fun q => by omega) (fun q => by omega) (fun q => by omega) (fun q => by omega)
  · exact h
theorem ct_RI {I : II} (h : CI I 94 1) (hb : I 0 10 = 0 ∨ I 0 10 = 1) (hR : I 0 10 = 1 → RI I 95) : RI (ctM I) 95 := by
  unfold ctM
  split
  · have := RI_run h (by omega)
    unfold RI at *
    rw [up_ne (by omega)]
    exact this
  · exact hR (by omega)
theorem ct_1 {I : II} : ctM I 1 = I 1 := by
  unfold ctM
  split
  · rw [up_ne (by omega), run_e (by omega)]
  · rfl
/-! the answers -/
def bgR (I : II) (a b : Int) : RR := if a < 2 ∨ 8 < a then erI IAE I else if b < 1 ∨ 7 < b then erI IAE I else okI (I 1 0) (up (up (up (startM I 1 a b) 0 10 0) 0 11 0) 201 1 0)
def plR (I : II) (z w : Int) : RR := if ilF I z = 0 then erI IOB I else if w = 0 then okI (I (1 + 3) z.toNat) I else if w = 1 then okI (I (1 + 4) z.toNat) I else if w < 10 ∨ 10 + I (1 + 4) z.toNat ≤ w then erI IAE I else okI (I (1 + 6 + z.toNat) (w - 10).toNat) I
def dgF (I : II) (p : Nat) : Int := if 9 < I (1 + 3) p then 2 else 1
def sgR (I : II) (p : Nat) (x : Int) : Int := if x < dgF I p then 48 + (if dgF I p = 2 ∧ x = 0 then dvI (I (1 + 3) p) 10 else I (1 + 3) p - dvI (I (1 + 3) p) 10 * 10) else if x - dgF I p - 1 < 0 then 58 else if x - dgF I p - 1 < I (1 + 4) p then 97 + I (1 + 6 + p) (x - dgF I p - 1).toNat else 59
def chR (I : II) (z x : Int) : RR := if ilF I z = 0 then erI IOB I else if x < -1 ∨ dgF I z.toNat + I (1 + 4) z.toNat + 2 ≤ x then erI IOB I else if x = -1 then okI (dgF I z.toNat + I (1 + 4) z.toNat + 2) I else okI (sgR I z.toNat x) I
def rdR (I : II) (z w : Int) : RR := if hrF (ctM I) (94 + 1) z = 0 then erI IOB (ctM I) else if w < 0 ∨ 6 < w then erI IAE (ctM I) else okI (ctM I (94 + 19 + 1 + w.toNat) z.toNat) (ctM I)
def cdR (I : II) (c w : Int) : RR := if icF I c = 0 then erI IOB I else if w < 0 ∨ 5 < w then erI IAE (ctM I) else
  okI (if w = 0 then ctM I (94 + 1 + 2) c.toNat else if w = 1 then ctM I (94 + 15 + 1) c.toNat else if w = 2 then plF (ctM I (94 + 1 + 1)) c (ctM I (94 + 1) 1).toNat 0 else if w = 3 then ctM I (94 + 15 + 2) c.toNat else if w = 4 then ctM I (94 + 15 + 3) c.toNat else lvF (ctM I) (94 + 1) c.toNat) (ctM I)
def whR (I : II) (z p w : Int) : RR := if hrF (ctM I) (94 + 1) z = 0 then erI IOB (ctM I) else if ilF (ctM I) p = 0 then erI IOB (ctM I) else if w = 0 then okI (ctM I (94 + 19 + 9 + z.toNat) p.toNat) (ctM I) else if w = 1 then okI (ctM I (94 + 19 + 19 + z.toNat) p.toNat) (ctM I) else erI IAE (ctM I)
def pfR (I : II) (c o : Int) : RR := if icF I c = 0 then erI IOB I else if icF I o = 0 then erI IOB I else okI (ppF I 1 c o (I 1 4).toNat) I
def ptF (I : II) (c : Int) : Nat → Int
  | 0 => 0
  | k + 1 => ptF I c k + ppF I 1 c k (I 1 4).toNat
def ptR (I : II) (c : Int) : RR := if icF I c = 0 then erI IOB I else okI (ptF I c (I 1 0).toNat) I
/-- does a candidate beat those from k on -/
def beF (I : II) (c : Int) : Nat → Nat → Int
  | 0, _ => 1
  | n + 1, k => if (k : Int) = c then beF I c n (k + 1) else if ¬ btI (I 1 2).toNat k = 0 then beF I c n (k + 1) else if ppF I 1 c k (I 1 4).toNat ≤ ppF I 1 k c (I 1 4).toNat then 0 else beF I c n (k + 1)
def baF (I : II) : Nat → Nat → Int
  | 0, _ => -1
  | n + 1, k => if ¬ btI (I 1 2).toNat k = 0 then baF I n (k + 1) else if beF I k (I 1 0).toNat 0 = 0 then baF I n (k + 1) else k
def dcM (I : II) : II := up (cpyR (ctM I) 95 451) 0 11 1
def rcR (I : II) (w : Int) : RR := if w < 0 ∨ 2 < w then erI IAE I else if I 0 11 = 0 then erI ISE I else
  okI (if w = 0 then osF (ctM I (95 + 2)) (ctM I (451 + 2)) (I 1 0).toNat else if w = 1 then fpF (ctM I) 95 451 else frF (ctM I) 95 451 (I 1 0).toNat) (ctM I)
def svM (I : II) : II := up (up (cpyR (cpyE I 1 464) 451 495) 0 13 (cpyR (cpyE I 1 464) 451 495 0 11)) 0 12 1
def rsR (I : II) : RR := if I 0 12 = 0 then erI ISE I else okI (I 464 4) (up (up (up (cpyR (cpyE I 464 1) 495 451) 0 11 (cpyR (cpyE I 464 1) 495 451 0 13)) 0 10 0) 201 1 0)
def udR (I : II) (sl : Nat → Nat) : RR := if I 201 1 = 0 then erI ISE I else okI (I 201 1 - 1) (up (cpyE (up I 201 1 (I 201 1 - 1)) (sl (I 201 1 - 1).toNat) 1) 0 10 0)
def knR (I : II) (w : Int) : RR := if w = 0 then okI (I 1 0) I else if w = 1 then okI (I 1 4) I else if w = 2 then okI (sumTo (I (1 + 3)) (I 1 4).toNat) I else if w = 3 then okI (ctM I 95 1) (ctM I) else if w = 4 then okI (pop8 (I 1 2).toNat : Nat) I else if w = 5 then okI (I 201 1) I else if w = 6 then okI (I 198 4) I else
  if 10 ≤ w ∧ w < 14 then okI (I (1 + 1) (w - 10).toNat) I else if 20 ≤ w ∧ w < 20 + I 1 0 then okI (I (1 + 2) (w - 20).toNat) I else erI IAE I

set_option maxRecDepth 100000 in
set_option maxHeartbeats 4000000 in
theorem c_begin {l : Launch} {g : GV} {S : SS} {I : II} {X : XX} {a b : Int} {sl : Nat → Nat} (hfl : l.stackTraces = false) (hno : S.2.2 = false) (hL : LC S sl) (hK : KC I sl) (ha : -2147483648 ≤ a ∧ a < 2147483648) (hb : -2147483648 ≤ b ∧ b < 2147483648)  : CT l g mX8_begin 6 1 6 [.ref 0, .int (ii a), .int (ii b)] S I X (QT (bgR I a b) S X) := by
  obtain ⟨m0, p0, p1, p2, p3, p4, p5, p6, p7, p8, p9, hE1, hE2, hC1, hC2, hT, hH, hR1, hE3, hR2⟩ := id hL
  obtain ⟨y0, y1, y1a, y2, y2a, y3, y3a, y4, y4a, y5, y5a, yr⟩ := id hE1
  obtain ⟨a0, a1, a2, a3⟩ := id hH
  obtain ⟨t0, t1, t1a, t2, t2a⟩ := id hT
  have e20 := hE2.1
  have e30 := hE3.1
  have d10 := hR1.1
  have d20 := hR2.1
  have c10 := hC1.1
  have c20 := hC2.1
  obtain ⟨hI, h24, hI2, hTI, hRd, hRs, hWs, hz01, hSl, b10, b11, b12, b13, hRc⟩ := id hK
  obtain ⟨w0, w1, w2, w3, w4, w5, w6, w7, w8, w9, w10, w11, w12, w13⟩ := id hI.1
  refine v_start hfl rfl (by decide) (Nat.le_of_ble_eq_true rfl) (ls := [some (.ref 0), some (.int (ii a)), some (.int (ii b)), none]) rfl ?_
  refine v_iload_n dX8_begin_0 rfl ?_
  refine v_iconst dX8_begin_1 ?_
  refine v_ic_lt (tgt := 11) dX8_begin_2 (by decide) (fun h2 => ?_) (fun h2 => ?_)
  · exact v_thT th_X8_63_61 rfl dX8_begin_11 dX8_begin_14 (Or.inl dX8_begin_15) dX8_begin_17 dX8_begin_20 (by decide) (Nat.le_of_ble_eq_true rfl) (by decide) (by decide) hno (by unfold bgR; (repeat (first | rw [if_pos (by omega)] | rw [if_neg (by omega)])); first | done | rfl)
  · refine v_iload_n dX8_begin_5 rfl ?_
    refine v_bipush dX8_begin_6 (by decide) ?_
    refine v_ic_le (tgt := 21) dX8_begin_8 (by decide) (fun h8 => ?_) (fun h8 => ?_)
    · refine v_iload_n dX8_begin_21 rfl ?_
      refine v_iconst dX8_begin_22 ?_
      refine v_ic_lt (tgt := 32) dX8_begin_23 (by decide) (fun h23 => ?_) (fun h23 => ?_)
      · exact v_thT th_X8_68_61 rfl dX8_begin_32 dX8_begin_35 (Or.inl dX8_begin_36) dX8_begin_38 dX8_begin_41 (by decide) (Nat.le_of_ble_eq_true rfl) (by decide) (by decide) hno (by unfold bgR; (repeat (first | rw [if_pos (by omega)] | rw [if_neg (by omega)])); first | done | rfl)
      · refine v_iload_n dX8_begin_26 rfl ?_
        refine v_bipush dX8_begin_27 (by decide) ?_
        refine v_ic_le (tgt := 42) dX8_begin_29 (by decide) (fun h29 => ?_) (fun h29 => ?_)
        · refine v_aload_n dX8_begin_42 rfl ?_
          refine v_getr dX8_begin_43 fr_X8_10 (by assumption) (by decide) rfl (by assumption) ?_
          refine v_geti dX8_begin_46 fr_X8_70 (by assumption) (by decide) rfl ?_
          refine v_istn3 dX8_begin_49 rfl ?_
          refine v_aload_n dX8_begin_50 rfl ?_
          refine v_getr dX8_begin_51 fr_X8_10 (by assumption) (by decide) rfl (by assumption) ?_
          refine v_iload_n dX8_begin_54 rfl ?_
          refine v_iload_n dX8_begin_55 rfl ?_
          refine v_cV2n dX8_begin_56 lk_X8_74 (by assumption) (by decide) rfl (c_startAgain hfl hE1) (by decide) (Nat.le_of_ble_eq_true rfl) ?_ rfl
          refine v_aload_n dX8_begin_59 rfl ?_
          refine v_iconst dX8_begin_60 ?_
          refine v_putz dX8_begin_61 fr_X8_78 (by assumption) (by decide) rfl (by first | exact Or.inl rfl | exact Or.inr rfl | omega) ?_
          refine v_aload_n dX8_begin_64 rfl ?_
          refine v_iconst dX8_begin_65 ?_
          refine v_putz dX8_begin_66 fr_X8_82 (by assumption) (by decide) rfl (by first | exact Or.inl rfl | exact Or.inr rfl | omega) ?_
          refine v_aload_n dX8_begin_69 rfl ?_
          refine v_getr dX8_begin_70 fr_X8_44 (by assumption) (by decide) rfl (by assumption) ?_
          refine v_cV0n dX8_begin_73 lk_X8_85 (by assumption) (by decide) rfl (c_forgetAll hfl hH) (by decide) (Nat.le_of_ble_eq_true rfl) ?_ rfl
          refine v_iload_n dX8_begin_76 rfl ?_
          exact v_iT dX8_begin_77 rfl hno (by unfold bgR; (repeat (first | rw [if_pos (by omega)] | rw [if_neg (by omega)])); first | done | rfl)
        · exact v_thT th_X8_68_61 rfl dX8_begin_32 dX8_begin_35 (Or.inl dX8_begin_36) dX8_begin_38 dX8_begin_41 (by decide) (Nat.le_of_ble_eq_true rfl) (by decide) (by decide) hno (by unfold bgR; (repeat (first | rw [if_pos (by omega)] | rw [if_neg (by omega)])); first | done | rfl)
    · exact v_thT th_X8_63_61 rfl dX8_begin_11 dX8_begin_14 (Or.inl dX8_begin_15) dX8_begin_17 dX8_begin_20 (by decide) (Nat.le_of_ble_eq_true rfl) (by decide) (by decide) hno (by unfold bgR; (repeat (first | rw [if_pos (by omega)] | rw [if_neg (by omega)])); first | done | rfl)

set_option maxRecDepth 100000 in
set_option maxHeartbeats 4000000 in
theorem c_pile {l : Launch} {g : GV} {S : SS} {I : II} {X : XX} {z w : Int} {sl : Nat → Nat} (hfl : l.stackTraces = false) (hno : S.2.2 = false) (hL : LC S sl) (hK : KC I sl) (hz : -2147483648 ≤ z ∧ z < 2147483648) (hw : -2147483648 ≤ w ∧ w < 2147483648)  : CT l g mX8_pile 6 1 6 [.ref 0, .int (ii z), .int (ii w)] S I X (QT (plR I z w) S X) := by
  obtain ⟨m0, p0, p1, p2, p3, p4, p5, p6, p7, p8, p9, hE1, hE2, hC1, hC2, hT, hH, hR1, hE3, hR2⟩ := id hL
  obtain ⟨y0, y1, y1a, y2, y2a, y3, y3a, y4, y4a, y5, y5a, yr⟩ := id hE1
  obtain ⟨a0, a1, a2, a3⟩ := id hH
  obtain ⟨t0, t1, t1a, t2, t2a⟩ := id hT
  have e20 := hE2.1
  have e30 := hE3.1
  have d10 := hR1.1
  have d20 := hR2.1
  have c10 := hC1.1
  have c20 := hC2.1
  obtain ⟨hI, h24, hI2, hTI, hRd, hRs, hWs, hz01, hSl, b10, b11, b12, b13, hRc⟩ := id hK
  obtain ⟨w0, w1, w2, w3, w4, w5, w6, w7, w8, w9, w10, w11, w12, w13⟩ := id hI.1
  refine v_start hfl rfl (by decide) (Nat.le_of_ble_eq_true rfl) (ls := [some (.ref 0), some (.int (ii z)), some (.int (ii w))]) rfl ?_
  refine v_aload_n dX8_pile_0 rfl ?_
  refine v_iload_n dX8_pile_1 rfl ?_
  refine v_cV1 dX8_pile_2 lk_X8_151 (by assumption) (by decide) rfl (c_isPile hfl hL hI.1 hz) (by decide) (Nat.le_of_ble_eq_true rfl) ?_ rfl
  have h01 := ilF_01 I z
  refine v_if_ne (tgt := 18) dX8_pile_5 (by decide) (fun h5 => ?_) (fun h5 => ?_)
  · obtain ⟨k1, k2⟩ := ilF_1 h5
    obtain ⟨zn, ez⟩ := Int.eq_ofNat_of_zero_le k1
    have w7z := w7 zn (by omega)
    have yq := (yr zn (by omega)).2
    have hzn : z.toNat = zn := by rw [ez]; rfl
    refine v_iload_n dX8_pile_18 rfl ?_
    refine v_if_ne (tgt := 32) dX8_pile_19 (by decide) (fun h19 => ?_) (fun h19 => ?_)
    · refine v_iload_n dX8_pile_32 rfl ?_
      refine v_iconst dX8_pile_33 ?_
      refine v_ic_ne (tgt := 47) dX8_pile_34 (by decide) (fun h34 => ?_) (fun h34 => ?_)
      · refine v_iload_n dX8_pile_47 rfl ?_
        refine v_bipush dX8_pile_48 (by decide) ?_
        refine v_ic_lt (tgt := 69) dX8_pile_50 (by decide) (fun h50 => ?_) (fun h50 => ?_)
        · exact v_thT th_X8_162_61 rfl dX8_pile_69 dX8_pile_72 (Or.inl dX8_pile_73) dX8_pile_75 dX8_pile_78 (by decide) (Nat.le_of_ble_eq_true rfl) (by decide) (by decide) hno (by unfold plR; rw [hzn]; (repeat (first | rw [if_pos (by omega)] | rw [if_neg (by omega)])); first | done | rfl)
        · refine v_iload_n dX8_pile_53 rfl ?_
          refine v_bipush dX8_pile_54 (by decide) ?_
          refine v_aload_n dX8_pile_56 rfl ?_
          refine v_getr dX8_pile_57 fr_X8_10 (by assumption) (by decide) rfl (by assumption) ?_
          refine v_getr dX8_pile_60 fr_X8_159 (by assumption) (by decide) rfl (by assumption) ?_
          refine v_iload_n dX8_pile_63 rfl ?_
          refine v_iald (j := zn) dX8_pile_64 (by assumption) (by first | rfl | omega) (by omega) ?_
          refine v_iadd dX8_pile_65 ?_
          refine v_ic_lt (tgt := 79) dX8_pile_66 (by decide) (fun h66 => ?_) (fun h66 => ?_)
          · refine v_aload_n dX8_pile_79 rfl ?_
            refine v_getr dX8_pile_80 fr_X8_10 (by assumption) (by decide) rfl (by assumption) ?_
            refine v_getr dX8_pile_83 fr_X8_164 (by assumption) (by decide) rfl (by assumption) ?_
            refine v_iload_n dX8_pile_86 rfl ?_
            refine v_aald22 (j := zn) dX8_pile_87 (by assumption) (by first | rfl | omega) (by omega) ((yr zn (by omega)).1) ?_
            refine v_iload_n dX8_pile_88 rfl ?_
            refine v_bipush dX8_pile_89 (by decide) ?_
            refine v_isub dX8_pile_91 ?_
            obtain ⟨j, hj⟩ : ∃ j : Nat, w - 10 = (j : Int) := Int.eq_ofNat_of_zero_le (by omega)
            refine v_iald (j := j) dX8_pile_92 (by assumption) (by first | rfl | omega) (by omega) ?_
            exact v_iT dX8_pile_93 rfl hno (by unfold plR; rw [hzn]; (repeat (first | rw [if_pos (by omega)] | rw [if_neg (by omega)])); rw [hj]; rfl)
          · exact v_thT th_X8_162_61 rfl dX8_pile_69 dX8_pile_72 (Or.inl dX8_pile_73) dX8_pile_75 dX8_pile_78 (by decide) (Nat.le_of_ble_eq_true rfl) (by decide) (by decide) hno (by unfold plR; rw [hzn]; (repeat (first | rw [if_pos (by omega)] | rw [if_neg (by omega)])); first | done | rfl)
      · refine v_aload_n dX8_pile_37 rfl ?_
        refine v_getr dX8_pile_38 fr_X8_10 (by assumption) (by decide) rfl (by assumption) ?_
        refine v_getr dX8_pile_41 fr_X8_159 (by assumption) (by decide) rfl (by assumption) ?_
        refine v_iload_n dX8_pile_44 rfl ?_
        refine v_iald (j := zn) dX8_pile_45 (by assumption) (by first | rfl | omega) (by omega) ?_
        exact v_iT dX8_pile_46 rfl hno (by unfold plR; rw [hzn]; (repeat (first | rw [if_pos (by omega)] | rw [if_neg (by omega)])); first | done | rfl)
    · refine v_aload_n dX8_pile_22 rfl ?_
      refine v_getr dX8_pile_23 fr_X8_10 (by assumption) (by decide) rfl (by assumption) ?_
      refine v_getr dX8_pile_26 fr_X8_156 (by assumption) (by decide) rfl (by assumption) ?_
      refine v_iload_n dX8_pile_29 rfl ?_
      refine v_iald (j := zn) dX8_pile_30 (by assumption) (by first | rfl | omega) (by omega) ?_
      exact v_iT dX8_pile_31 rfl hno (by unfold plR; rw [hzn]; (repeat (first | rw [if_pos (by omega)] | rw [if_neg (by omega)])); first | done | rfl)
  · exact v_thT th_X8_154_139 rfl dX8_pile_8 dX8_pile_11 (Or.inl dX8_pile_12) dX8_pile_14 dX8_pile_17 (by decide) (Nat.le_of_ble_eq_true rfl) (by decide) (by decide) hno (by unfold plR; (repeat (first | rw [if_pos (by omega)] | rw [if_neg (by omega)])); first | done | rfl)

set_option maxRecDepth 100000 in
set_option maxHeartbeats 4000000 in
theorem c_signOfPile {l : Launch} {g : GV} {S : SS} {I : II} {X : XX} {zn : Nat} {x : Int} {sl : Nat → Nat} (hfl : l.stackTraces = false) (hL : LC S sl) (hI : CI I 94 1) (hzn : zn < 25) (hx : -1 ≤ x ∧ x ≤ 12) : CE l g mX8_signOfPile 0 [.ref 0, .int (ii (zn : Int)), .int (ii x), .int (ii (dgF I zn))] S I X (some (.int (ii (sgR I zn x)))) I := by
  obtain ⟨m0, p0, p1, p2, p3, p4, p5, p6, p7, p8, p9, hE1, hE2, hC1, hC2, hT, hH, hR1, hE3, hR2⟩ := id hL
  obtain ⟨y0, y1, y1a, y2, y2a, y3, y3a, y4, y4a, y5, y5a, yr⟩ := id hE1
  obtain ⟨w0, w1, w2, w3, w4, w5, w6, w7, w8, w9, w10, w11, w12, w13⟩ := id hI.1
  have w6z := w6 zn hzn
  have w7z := w7 zn hzn
  have yq := (yr zn hzn).2
  have hd : dgF I zn = 1 ∨ dgF I zn = 2 := by unfold dgF; split <;> omega
  refine v_startE hfl rfl (by decide) (Nat.le_of_ble_eq_true rfl) (ls := [some (.ref 0), some (.int (ii (zn : Int))), some (.int (ii x)), some (.int (ii (dgF I zn))), none, none]) rfl ?_
  refine v_aload_n dX8_signOfPile_0 rfl ?_
  refine v_getr dX8_signOfPile_1 fr_X8_10 (by assumption) (by decide) rfl (by assumption) ?_
  refine v_getr dX8_signOfPile_4 fr_X8_156 (by assumption) (by decide) rfl (by assumption) ?_
  refine v_iload_n dX8_signOfPile_7 rfl ?_
  refine v_iald (j := zn) dX8_signOfPile_8 (by assumption) (by first | rfl | omega) (by omega) ?_
  refine v_ist4 dX8_signOfPile_9 rfl ?_
  refine v_iload_n dX8_signOfPile_11 rfl ?_
  refine v_iload_n dX8_signOfPile_12 rfl ?_
  refine v_ic_ge (tgt := 42) dX8_signOfPile_13 (by decide) (fun h13 => ?_) (fun h13 => ?_)
  · refine v_iload_n dX8_signOfPile_42 rfl ?_
    refine v_iload_n dX8_signOfPile_43 rfl ?_
    refine v_isub dX8_signOfPile_44 ?_
    refine v_iconst dX8_signOfPile_45 ?_
    refine v_isub dX8_signOfPile_46 ?_
    refine v_ist5 dX8_signOfPile_47 rfl ?_
    refine v_iload dX8_signOfPile_49 rfl ?_
    refine v_if_ge (tgt := 57) dX8_signOfPile_51 (by decide) (fun h51 => ?_) (fun h51 => ?_)
    · refine v_iload dX8_signOfPile_57 rfl ?_
      refine v_aload_n dX8_signOfPile_59 rfl ?_
      refine v_getr dX8_signOfPile_60 fr_X8_10 (by assumption) (by decide) rfl (by assumption) ?_
      refine v_getr dX8_signOfPile_63 fr_X8_159 (by assumption) (by decide) rfl (by assumption) ?_
      refine v_iload_n dX8_signOfPile_66 rfl ?_
      refine v_iald (j := zn) dX8_signOfPile_67 (by assumption) (by first | rfl | omega) (by omega) ?_
      refine v_ic_ge (tgt := 89) dX8_signOfPile_68 (by decide) (fun h68 => ?_) (fun h68 => ?_)
      · refine v_bipush dX8_signOfPile_89 (by decide) ?_
        exact v_iE dX8_signOfPile_91 rfl (by unfold sgR; (repeat (first | rw [if_pos (by omega)] | rw [if_neg (by omega)])); first | done | (rw [hj]; rfl)) (rfl)
      · refine v_bipush dX8_signOfPile_71 (by decide) ?_
        refine v_aload_n dX8_signOfPile_73 rfl ?_
        refine v_getr dX8_signOfPile_74 fr_X8_10 (by assumption) (by decide) rfl (by assumption) ?_
        refine v_getr dX8_signOfPile_77 fr_X8_164 (by assumption) (by decide) rfl (by assumption) ?_
        refine v_iload_n dX8_signOfPile_80 rfl ?_
        refine v_aald22 (j := zn) dX8_signOfPile_81 (by assumption) (by first | rfl | omega) (by omega) ((yr zn (by omega)).1) ?_
        refine v_iload dX8_signOfPile_82 rfl ?_
        obtain ⟨j, hj⟩ : ∃ j : Nat, x - dgF I zn - 1 = (j : Int) := Int.eq_ofNat_of_zero_le (by omega)
        refine v_iald (j := j) dX8_signOfPile_84 (by assumption) (by first | rfl | omega) (by omega) ?_
        refine v_iadd dX8_signOfPile_85 ?_
        refine v_goto (tgt := 91) dX8_signOfPile_86 (by decide) ?_
        exact v_iE dX8_signOfPile_91 rfl (by unfold sgR; (repeat (first | rw [if_pos (by omega)] | rw [if_neg (by omega)])); first | done | (rw [hj]; rfl)) (rfl)
    · refine v_bipush dX8_signOfPile_54 (by decide) ?_
      exact v_iE dX8_signOfPile_56 rfl (by unfold sgR; (repeat (first | rw [if_pos (by omega)] | rw [if_neg (by omega)]))) (rfl)
  · refine v_bipush dX8_signOfPile_16 (by decide) ?_
    refine v_iload_n dX8_signOfPile_18 rfl ?_
    refine v_iconst dX8_signOfPile_19 ?_
    refine v_ic_ne (tgt := 35) dX8_signOfPile_20 (by decide) (fun h20 => ?_) (fun h20 => ?_)
    · refine v_iload dX8_signOfPile_35 rfl ?_
      refine v_bipush dX8_signOfPile_37 (by decide) ?_
      refine v_irem (z := I (1 + 3) zn - dvI (I (1 + 3) zn) 10 * 10) dX8_signOfPile_39 (ii_ne0 (by omega) (by omega)) (by rw [dvI_ii, ← ii_mul, ← ii_sub]) ?_
      refine v_iadd dX8_signOfPile_40 ?_
      exact v_iE dX8_signOfPile_41 rfl (by unfold sgR; (repeat (first | rw [if_pos (by omega)] | rw [if_neg (by omega)])); first | done | rfl) (rfl)
    · refine v_iload_n dX8_signOfPile_23 rfl ?_
      refine v_if_ne (tgt := 35) dX8_signOfPile_24 (by decide) (fun h24 => ?_) (fun h24 => ?_)
      · refine v_iload dX8_signOfPile_35 rfl ?_
        refine v_bipush dX8_signOfPile_37 (by decide) ?_
        refine v_irem (z := I (1 + 3) zn - dvI (I (1 + 3) zn) 10 * 10) dX8_signOfPile_39 (ii_ne0 (by omega) (by omega)) (by rw [dvI_ii, ← ii_mul, ← ii_sub]) ?_
        refine v_iadd dX8_signOfPile_40 ?_
        exact v_iE dX8_signOfPile_41 rfl (by unfold sgR; (repeat (first | rw [if_pos (by omega)] | rw [if_neg (by omega)])); first | done | rfl) (rfl)
      · refine v_iload dX8_signOfPile_27 rfl ?_
        refine v_bipush dX8_signOfPile_29 (by decide) ?_
        refine v_idiv dX8_signOfPile_31 (ii_ne0 (by omega) (by omega)) (dvI_ii _ _) ?_
        refine v_goto (tgt := 40) dX8_signOfPile_32 (by decide) ?_
        refine v_iadd dX8_signOfPile_40 ?_
        exact v_iE dX8_signOfPile_41 rfl (by unfold sgR; (repeat (first | rw [if_pos (by omega)] | rw [if_neg (by omega)])); first | done | rfl) (rfl)

set_option maxRecDepth 100000 in
set_option maxHeartbeats 4000000 in
theorem c_character {l : Launch} {g : GV} {S : SS} {I : II} {X : XX} {z x : Int} {sl : Nat → Nat} (hfl : l.stackTraces = false) (hno : S.2.2 = false) (hL : LC S sl) (hK : KC I sl) (hz : -2147483648 ≤ z ∧ z < 2147483648) (hx : -2147483648 ≤ x ∧ x < 2147483648)  : CT l g mX8_character 6 1 6 [.ref 0, .int (ii z), .int (ii x)] S I X (QT (chR I z x) S X) := by
  obtain ⟨m0, p0, p1, p2, p3, p4, p5, p6, p7, p8, p9, hE1, hE2, hC1, hC2, hT, hH, hR1, hE3, hR2⟩ := id hL
  obtain ⟨y0, y1, y1a, y2, y2a, y3, y3a, y4, y4a, y5, y5a, yr⟩ := id hE1
  obtain ⟨a0, a1, a2, a3⟩ := id hH
  obtain ⟨t0, t1, t1a, t2, t2a⟩ := id hT
  have e20 := hE2.1
  have e30 := hE3.1
  have d10 := hR1.1
  have d20 := hR2.1
  have c10 := hC1.1
  have c20 := hC2.1
  obtain ⟨hI, h24, hI2, hTI, hRd, hRs, hWs, hz01, hSl, b10, b11, b12, b13, hRc⟩ := id hK
  obtain ⟨w0, w1, w2, w3, w4, w5, w6, w7, w8, w9, w10, w11, w12, w13⟩ := id hI.1
  refine v_start hfl rfl (by decide) (Nat.le_of_ble_eq_true rfl) (ls := [some (.ref 0), some (.int (ii z)), some (.int (ii x)), none, none]) rfl ?_
  refine v_aload_n dX8_character_0 rfl ?_
  refine v_iload_n dX8_character_1 rfl ?_
  refine v_cV1 dX8_character_2 lk_X8_151 (by assumption) (by decide) rfl (c_isPile hfl hL hI.1 hz) (by decide) (Nat.le_of_ble_eq_true rfl) ?_ rfl
  have h01 := ilF_01 I z
  refine v_if_ne (tgt := 18) dX8_character_5 (by decide) (fun h5 => ?_) (fun h5 => ?_)
  · obtain ⟨k1, k2⟩ := ilF_1 h5
    obtain ⟨zn, ez⟩ := Int.eq_ofNat_of_zero_le k1
    have w6z := w6 zn (by omega)
    have w7z := w7 zn (by omega)
    have hzn : z.toNat = zn := by rw [ez]; rfl
    refine v_aload_n dX8_character_18 rfl ?_
    refine v_getr dX8_character_19 fr_X8_10 (by assumption) (by decide) rfl (by assumption) ?_
    refine v_getr dX8_character_22 fr_X8_156 (by assumption) (by decide) rfl (by assumption) ?_
    refine v_iload_n dX8_character_25 rfl ?_
    refine v_iald (j := zn) dX8_character_26 (by assumption) (by first | rfl | omega) (by omega) ?_
    refine v_bipush dX8_character_27 (by decide) ?_
    refine v_ic_le (tgt := 36) dX8_character_29 (by decide) (fun h29 => ?_) (fun h29 => ?_)
    · refine v_iconst dX8_character_36 ?_
      have hdg : dgF I zn = 1 := by unfold dgF; (repeat (first | rw [if_pos (by omega)] | rw [if_neg (by omega)]))
      rw [← hdg]
      refine v_istn3 dX8_character_37 rfl ?_
      refine v_iload_n dX8_character_38 rfl ?_
      refine v_aload_n dX8_character_39 rfl ?_
      refine v_getr dX8_character_40 fr_X8_10 (by assumption) (by decide) rfl (by assumption) ?_
      refine v_getr dX8_character_43 fr_X8_159 (by assumption) (by decide) rfl (by assumption) ?_
      refine v_iload_n dX8_character_46 rfl ?_
      refine v_iald (j := zn) dX8_character_47 (by assumption) (by first | rfl | omega) (by omega) ?_
      refine v_iadd dX8_character_48 ?_
      refine v_iconst dX8_character_49 ?_
      refine v_iadd dX8_character_50 ?_
      refine v_ist4 dX8_character_51 rfl ?_
      refine v_iload_n dX8_character_53 rfl ?_
      refine v_iconst dX8_character_54 ?_
      refine v_ic_lt (tgt := 64) dX8_character_55 (by decide) (fun h55 => ?_) (fun h55 => ?_)
      · exact v_thT th_X8_168_139 rfl dX8_character_64 dX8_character_67 (Or.inl dX8_character_68) dX8_character_70 dX8_character_73 (by decide) (Nat.le_of_ble_eq_true rfl) (by decide) (by decide) hno (by unfold chR; rw [hzn]; (repeat (first | rw [if_pos (by omega)] | rw [if_neg (by omega)])); first | done | rfl)
      · refine v_iload_n dX8_character_58 rfl ?_
        refine v_iload dX8_character_59 rfl ?_
        refine v_ic_lt (tgt := 74) dX8_character_61 (by decide) (fun h61 => ?_) (fun h61 => ?_)
        · refine v_iload_n dX8_character_74 rfl ?_
          refine v_iconst dX8_character_75 ?_
          refine v_ic_ne (tgt := 82) dX8_character_76 (by decide) (fun h76 => ?_) (fun h76 => ?_)
          · refine v_aload_n dX8_character_82 rfl ?_
            subst ez
            refine v_iload_n dX8_character_83 rfl ?_
            refine v_iload_n dX8_character_84 rfl ?_
            refine v_iload_n dX8_character_85 rfl ?_
            refine v_cV3 dX8_character_86 lk_X8_170 (by assumption) (by decide) rfl (c_signOfPile hfl hL hI (by omega) (by omega)) (by decide) (Nat.le_of_ble_eq_true rfl) ?_ rfl
            exact v_iT dX8_character_89 rfl hno (by unfold chR; rw [hzn]; (repeat (first | rw [if_pos (by omega)] | rw [if_neg (by omega)])); first | done | rfl)
          · refine v_iload dX8_character_79 rfl ?_
            exact v_iT dX8_character_81 rfl hno (by unfold chR; rw [hzn]; (repeat (first | rw [if_pos (by omega)] | rw [if_neg (by omega)])); first | done | rfl)
        · exact v_thT th_X8_168_139 rfl dX8_character_64 dX8_character_67 (Or.inl dX8_character_68) dX8_character_70 dX8_character_73 (by decide) (Nat.le_of_ble_eq_true rfl) (by decide) (by decide) hno (by unfold chR; rw [hzn]; (repeat (first | rw [if_pos (by omega)] | rw [if_neg (by omega)])); first | done | rfl)
    · refine v_iconst dX8_character_32 ?_
      refine v_goto (tgt := 37) dX8_character_33 (by decide) ?_
      have hdg : dgF I zn = 2 := by unfold dgF; (repeat (first | rw [if_pos (by omega)] | rw [if_neg (by omega)]))
      rw [← hdg]
      refine v_istn3 dX8_character_37 rfl ?_
      refine v_iload_n dX8_character_38 rfl ?_
      refine v_aload_n dX8_character_39 rfl ?_
      refine v_getr dX8_character_40 fr_X8_10 (by assumption) (by decide) rfl (by assumption) ?_
      refine v_getr dX8_character_43 fr_X8_159 (by assumption) (by decide) rfl (by assumption) ?_
      refine v_iload_n dX8_character_46 rfl ?_
      refine v_iald (j := zn) dX8_character_47 (by assumption) (by first | rfl | omega) (by omega) ?_
      refine v_iadd dX8_character_48 ?_
      refine v_iconst dX8_character_49 ?_
      refine v_iadd dX8_character_50 ?_
      refine v_ist4 dX8_character_51 rfl ?_
      refine v_iload_n dX8_character_53 rfl ?_
      refine v_iconst dX8_character_54 ?_
      refine v_ic_lt (tgt := 64) dX8_character_55 (by decide) (fun h55 => ?_) (fun h55 => ?_)
      · exact v_thT th_X8_168_139 rfl dX8_character_64 dX8_character_67 (Or.inl dX8_character_68) dX8_character_70 dX8_character_73 (by decide) (Nat.le_of_ble_eq_true rfl) (by decide) (by decide) hno (by unfold chR; rw [hzn]; (repeat (first | rw [if_pos (by omega)] | rw [if_neg (by omega)])); first | done | rfl)
      · refine v_iload_n dX8_character_58 rfl ?_
        refine v_iload dX8_character_59 rfl ?_
        refine v_ic_lt (tgt := 74) dX8_character_61 (by decide) (fun h61 => ?_) (fun h61 => ?_)
        · refine v_iload_n dX8_character_74 rfl ?_
          refine v_iconst dX8_character_75 ?_
          refine v_ic_ne (tgt := 82) dX8_character_76 (by decide) (fun h76 => ?_) (fun h76 => ?_)
          · refine v_aload_n dX8_character_82 rfl ?_
            subst ez
            refine v_iload_n dX8_character_83 rfl ?_
            refine v_iload_n dX8_character_84 rfl ?_
            refine v_iload_n dX8_character_85 rfl ?_
            refine v_cV3 dX8_character_86 lk_X8_170 (by assumption) (by decide) rfl (c_signOfPile hfl hL hI (by omega) (by omega)) (by decide) (Nat.le_of_ble_eq_true rfl) ?_ rfl
            exact v_iT dX8_character_89 rfl hno (by unfold chR; rw [hzn]; (repeat (first | rw [if_pos (by omega)] | rw [if_neg (by omega)])); first | done | rfl)
          · refine v_iload dX8_character_79 rfl ?_
            exact v_iT dX8_character_81 rfl hno (by unfold chR; rw [hzn]; (repeat (first | rw [if_pos (by omega)] | rw [if_neg (by omega)])); first | done | rfl)
        · exact v_thT th_X8_168_139 rfl dX8_character_64 dX8_character_67 (Or.inl dX8_character_68) dX8_character_70 dX8_character_73 (by decide) (Nat.le_of_ble_eq_true rfl) (by decide) (by decide) hno (by unfold chR; rw [hzn]; (repeat (first | rw [if_pos (by omega)] | rw [if_neg (by omega)])); first | done | rfl)
  · exact v_thT th_X8_154_139 rfl dX8_character_8 dX8_character_11 (Or.inl dX8_character_12) dX8_character_14 dX8_character_17 (by decide) (Nat.le_of_ble_eq_true rfl) (by decide) (by decide) hno (by unfold chR; (repeat (first | rw [if_pos (by omega)] | rw [if_neg (by omega)])); first | done | rfl)
