/-! COUNTING: exclusions, a round, the count -/
def xwI (I : II) (c w r : Nat) : II := up (up (up (up (up (up I (c + 1 + 2) w 2) (c + 15 + 1) w r) (c + 15 + 2) w (I (c + 14) 2)) (c + 15 + 3) w (I (c + 14) 3)) c 10 (clr (I c 10).toNat w)) (c + 47) w 0
def xwF (c e : Nat) (r w : Int) (I : II) : Nat → II × Int
  | 0 => (I, 0)
  | p + 1 => if (xwF c e r w I p).1 (c + 48) p = w then (sendM (xwF c e r w I p).1 c e p r, (xwF c e r w I p).2 + unitsF (xwF c e r w I p).1 c e p) else xwF c e r w I p
def xwL (I : II) (c e w r : Nat) : II := evM (xwF c e r w (xwI I c w r) (I e 4).toNat).1 c r 2 w (xwF c e r w (xwI I c w r) (I e 4).toNat).2
def xwM (I : II) (c e r : Nat) : II := if chV I c e (I c 10).toNat r 0 = -1 then chJ I c e (I c 10).toNat r 0 else xwL (chJ I c e (I c 10).toNat r 0) c e (chV I c e (I c 10).toNat r 0).toNat r
theorem xw_e {c e : Nat} {r w : Int} {I : II} {x : Nat} (h : x < c) : ∀ p, (xwF c e r w I p).1 x = I x
  | 0 => rfl
  | p + 1 => by
    unfold xwF
    split
    · show sendM _ _ _ _ _ x = _
      rw [sendM_e h]
      exact xw_e h p
    · exact xw_e h p
theorem xw_ci {c e : Nat} {r w : Int} {I : II} (h : CI I c e) (hsp : e + 31 ≤ c) (hr : -2147483648 ≤ r ∧ r < 2147483648) : ∀ p, p ≤ 25 → CI (xwF c e r w I p).1 c e
  | 0, _ => h
  | p + 1, hp => by
    have ih := xw_ci (w := w) h hsp hr p (by omega)
    unfold xwF
    split
    · exact CI_send ih hsp (by omega) hr
    · exact ih
theorem CI_xwI {I : II} {c e w r : Nat} (h : CI I c e) (hsp : e + 31 ≤ c) (hw : w < 8) (hr : r < 9) : CI (xwI I c w r) c e := by
  obtain ⟨g1, g2, g3, g4, g5, g6, g7⟩ := id h
  have o3 := clr_lt (I c 10).toNat (by omega) w hw
  unfold xwI
  refine CI_far (CI_up (CI_far (CI_far (CI_far (CI_far h hsp (by omega) (by omega) (by omega) (by omega) (by omega)) hsp (by omega) (by omega) (by omega) (by omega) (by omega)) hsp (g2 _ _) (by omega) (by omega) (by omega) (by omega)) hsp (g2 _ _) (by omega) (by omega) (by omega) (by omega)) (by omega) (Or.inr (by omega)) hsp (fun _ _ => by omega) (fun q => by omega) (fun q => by omega) (fun q => by omega)) hsp (by omega) (by omega) (by omega) (by omega) (by omega)
theorem CI_xwL {I : II} {c e w r : Nat} (h : CI I c e) (hsp : e + 31 ≤ c) (hw : w < 8) (hr : r < 9) : CI (xwL I c e w r) c e := by
  have w9 := h.1
  obtain ⟨w0, w1, w2, w3, -⟩ := w9
  exact CI_ev (xw_ci (CI_xwI h hsp hw hr) hsp (by omega) _ (by omega)) hsp (by omega) (by omega)
theorem CI_xw {I : II} {c e r : Nat} (h : CI I c e) (hsp : e + 31 ≤ c) (hr : r < 9) : CI (xwM I c e r) c e := by
  have hV := chV_ok (c := c) (s := (I c 10).toNat) (r := r) (m := 0) h.1
  unfold xwM
  split
  · exact CI_chJ h hsp hr
  · exact CI_xwL (CI_chJ h hsp hr) hsp (by omega) hr
theorem xwI_e {I : II} {c w r x : Nat} (h : x < c) : xwI I c w r x = I x := by
  unfold xwI
  rw [up_ne (by omega), up_ne (by omega), up_ne (by omega), up_ne (by omega), up_ne (by omega), up_ne (by omega)]
theorem xwM_e {I : II} {c e r x : Nat} (h : x < c) : xwM I c e r x = I x := by
  unfold xwM
  split
  · exact chJ_ne (by omega)
  · unfold xwL evM
    rw [up_ne (by omega), up_ne (by omega), up_ne (by omega), xw_e h, xwI_e h, chJ_ne (by omega)]

set_option maxRecDepth 100000 in
set_option maxHeartbeats 4000000 in
theorem c_xwLoop {l : Launch} {g : GV} {S : SS} {I : II} {X : XX} {c e w r n : Nat} {KK : II} (hfl : l.stackTraces = false) (hC : isCnt S c e) (hI : CI I c e) (hw : w < 8) (hr : r < 9) (hn : I e 4 = (n : Int)) (hn25 : n ≤ 25) (hfin : KK = evM (xwF c e r w I n).1 c r 2 w (xwF c e r w I n).2) : ∀ p : Nat, p ≤ n → V l g mX1_excludeWeakest 2 (Zm g (QE none S KK X)) 0 0 98 [some (.ref c), some (.int (ii (r : Int))), some (.int (ii (w : Int))), some (.int (ii (xwF c e r w I p).2)), some (.int (ii (p : Int)))] [] S (xwF c e r w I p).1 X := by
  obtain ⟨n0, n1, n2, n3, n4, n5, n6, n6a, n7, n7a, n8, n8a, n9, n9a, n10, n10a, hR, hH, hF, hG, hE, hsp⟩ := id hC
  obtain ⟨r0, r1, r1a, r2, r2a, r3, r3a, rr⟩ := id hR
  obtain ⟨k0, k1, k2⟩ := id hH
  obtain ⟨f0, f1, f1a, f2, f2a, f3, f3a⟩ := id hF
  obtain ⟨l0, ⟨l1, l1a⟩, ⟨l2, l2a⟩, ⟨l3, l3a⟩, ⟨l4, l4a⟩, ⟨l5, l5a⟩, ⟨l6, l6a⟩, ⟨l7, l7a⟩, ⟨l8, l8a⟩, lr, ⟨l9, l9a⟩, lw⟩ := id hG
  obtain ⟨y0, y1, y1a, y2, y2a, y3, y3a, y4, y4a, y5, y5a, yr⟩ := id hE
  refine loop_up fun p hp ih => ?_
  have hT := xw_ci (w := w) hI hsp (show -2147483648 ≤ (r : Int) ∧ (r : Int) < 2147483648 by omega) p (by omega)
  have hTe := xw_e (c := c) (e := e) (r := r) (w := w) (I := I) (x := e) (by omega) p
  have ex : xwF c e r w I (p + 1) = if (xwF c e r w I p).1 (c + 48) p = w then (sendM (xwF c e r w I p).1 c e p r, (xwF c e r w I p).2 + unitsF (xwF c e r w I p).1 c e p) else xwF c e r w I p := rfl
  have kE : (xwF c e r w I p).1 c 10 = (((xwF c e r w I p).1 c 10).toNat : Int) := by have := hT.2.2.1; omega
  have kH : ((xwF c e r w I p).1 c 10).toNat < 256 := by have := hT.2.2.1; omega
  have g9 := hT.2.1 (c + 48) p
  refine v_iload dX1_excludeWeakest_98 rfl ?_
  refine v_aload_n dX1_excludeWeakest_100 rfl ?_
  refine v_getr dX1_excludeWeakest_101 fr_X1_9 (by assumption) (by decide) rfl (by assumption) ?_
  refine v_geti dX1_excludeWeakest_104 fr_X1_130 (by assumption) (by decide) rfl ?_
  rw [hTe]
  refine v_ic_ge (tgt := 137) dX1_excludeWeakest_107 (by decide) (fun h107 => ?_) (fun h107 => ?_)
  · obtain rfl : p = n := by omega
    refine v_aload_n dX1_excludeWeakest_137 rfl ?_
    refine v_iload_n dX1_excludeWeakest_138 rfl ?_
    refine v_iconst dX1_excludeWeakest_139 ?_
    refine v_iload_n dX1_excludeWeakest_140 rfl ?_
    refine v_iload_n dX1_excludeWeakest_141 rfl ?_
    refine v_cV4n dX1_excludeWeakest_142 lk_X1_223 (by assumption) (by decide) rfl (c_logEvent hfl hC hr) (by decide) (Nat.le_of_ble_eq_true rfl) ?_ rfl
    exact v_vE dX1_excludeWeakest_145 rfl (hfin.symm)
  · refine v_aload_n dX1_excludeWeakest_110 rfl ?_
    refine v_getr dX1_excludeWeakest_111 fr_X1_49 (by assumption) (by decide) rfl (by assumption) ?_
    refine v_iload dX1_excludeWeakest_114 rfl ?_
    refine v_iald (j := p) dX1_excludeWeakest_116 (by assumption) (by first | rfl | omega) (by omega) ?_
    refine v_iload_n dX1_excludeWeakest_117 rfl ?_
    refine v_ic_ne (tgt := 131) dX1_excludeWeakest_118 (by decide) (fun h118 => ?_) (fun h118 => ?_)
    · refine v_iinc4 dX1_excludeWeakest_131 rfl ?_
      refine v_goto (tgt := 98) dX1_excludeWeakest_134 (by decide) ?_
      have q9 := ih (p + 1) (by omega) (by omega)
      rw [ex] at q9
      first
        | (rw [if_pos (by omega)] at q9; exact q9)
        | (rw [if_neg (by omega)] at q9; exact q9)
    · refine v_iload_n dX1_excludeWeakest_121 rfl ?_
      refine v_aload_n dX1_excludeWeakest_122 rfl ?_
      refine v_iload dX1_excludeWeakest_123 rfl ?_
      refine v_iload_n dX1_excludeWeakest_125 rfl ?_
      refine v_cV2 dX1_excludeWeakest_126 lk_X1_133 (by assumption) (by decide) rfl (c_sendOn hfl hC hT.1 (by omega) kE kH (hT.2.2.2.2.2.1 p)) (by decide) (Nat.le_of_ble_eq_true rfl) ?_ rfl
      refine v_iadd dX1_excludeWeakest_129 ?_
      refine v_istn3 dX1_excludeWeakest_130 rfl ?_
      refine v_iinc4 dX1_excludeWeakest_131 rfl ?_
      refine v_goto (tgt := 98) dX1_excludeWeakest_134 (by decide) ?_
      have q9 := ih (p + 1) (by omega) (by omega)
      rw [ex] at q9
      first
        | (rw [if_pos (by omega)] at q9; exact q9)
        | (rw [if_neg (by omega)] at q9; exact q9)

set_option maxRecDepth 100000 in
set_option maxHeartbeats 4000000 in
theorem c_excludeWeakest {l : Launch} {g : GV} {S : SS} {I : II} {X : XX} {c e r : Nat} (hfl : l.stackTraces = false) (hC : isCnt S c e) (hI : CI I c e) (hr : r < 9) : CE l g mX1_excludeWeakest 2 [.ref c, .int (ii (r : Int))] S I X none (xwM I c e r) := by
  obtain ⟨n0, n1, n2, n3, n4, n5, n6, n6a, n7, n7a, n8, n8a, n9, n9a, n10, n10a, hR, hH, hF, hG, hE, hsp⟩ := id hC
  obtain ⟨r0, r1, r1a, r2, r2a, r3, r3a, rr⟩ := id hR
  obtain ⟨k0, k1, k2⟩ := id hH
  obtain ⟨f0, f1, f1a, f2, f2a, f3, f3a⟩ := id hF
  obtain ⟨l0, ⟨l1, l1a⟩, ⟨l2, l2a⟩, ⟨l3, l3a⟩, ⟨l4, l4a⟩, ⟨l5, l5a⟩, ⟨l6, l6a⟩, ⟨l7, l7a⟩, ⟨l8, l8a⟩, lr, ⟨l9, l9a⟩, lw⟩ := id hG
  obtain ⟨y0, y1, y1a, y2, y2a, y3, y3a, y4, y4a, y5, y5a, yr⟩ := id hE
  obtain ⟨g1, g2, g3, g4, g5, g6, g7⟩ := id hI
  obtain ⟨w0, w1, w2, w3, -⟩ := id g1
  obtain ⟨n, hn⟩ := Int.eq_ofNat_of_zero_le w2
  obtain ⟨h, hh⟩ := Int.eq_ofNat_of_zero_le g3.1
  have ehh : (I c 10).toNat = h := by rw [hh]; rfl
  have hh8 : h < 256 := by omega
  have hV := chV_ok (c := c) (s := h) (r := r) (m := 0) g1
  refine v_startE hfl rfl (by decide) (Nat.le_of_ble_eq_true rfl) (ls := [some (.ref c), some (.int (ii (r : Int))), none, none, none]) rfl ?_
  refine v_aload_n dX1_excludeWeakest_0 rfl ?_
  refine v_getr dX1_excludeWeakest_1 fr_X1_27 (by assumption) (by decide) rfl (by assumption) ?_
  refine v_aload_n dX1_excludeWeakest_4 rfl ?_
  refine v_geti dX1_excludeWeakest_5 fr_X1_86 (by assumption) (by decide) rfl ?_
  rw [hh]
  refine v_iload_n dX1_excludeWeakest_8 rfl ?_
  refine v_iconst dX1_excludeWeakest_9 ?_
  refine v_cV3 dX1_excludeWeakest_10 lk_X1_192 (by assumption) (by decide) rfl (c_choose2 hfl hC hI hh8 hr (Or.inl rfl)) (by decide) (Nat.le_of_ble_eq_true rfl) ?_ rfl
  refine v_istn2 dX1_excludeWeakest_13 rfl ?_
  refine v_iload_n dX1_excludeWeakest_14 rfl ?_
  refine v_iconst dX1_excludeWeakest_15 ?_
  refine v_ic_ne (tgt := 20) dX1_excludeWeakest_16 (by decide) (fun h16 => ?_) (fun h16 => ?_)
  · obtain ⟨w, hq⟩ : ∃ w : Nat, chV I c e h r 0 = (w : Int) := Int.eq_ofNat_of_zero_le (by omega)
    rw [hq] at hV ⊢
    have hCJ := CI_chJ (s := h) (r := r) (m := 0) hI hsp hr
    generalize hJ : chJ I c e h r 0 = J at hCJ ⊢
    have kE : J c 10 = ((J c 10).toNat : Int) := by have := hCJ.2.2.1; omega
    have kH : (J c 10).toNat < 256 := by have := hCJ.2.2.1; omega
    refine v_aload_n dX1_excludeWeakest_20 rfl ?_
    refine v_getr dX1_excludeWeakest_21 fr_X1_18 (by assumption) (by decide) rfl (by assumption) ?_
    refine v_getr dX1_excludeWeakest_24 fr_X1_107 (by assumption) (by decide) rfl (by assumption) ?_
    refine v_iload_n dX1_excludeWeakest_27 rfl ?_
    refine v_iconst dX1_excludeWeakest_28 ?_
    refine v_iast (j := w) dX1_excludeWeakest_29 (by assumption) (by first | rfl | omega) (by omega) ?_
    refine v_aload_n dX1_excludeWeakest_30 rfl ?_
    refine v_getr dX1_excludeWeakest_31 fr_X1_34 (by assumption) (by decide) rfl (by assumption) ?_
    refine v_getr dX1_excludeWeakest_34 fr_X1_110 (by assumption) (by decide) rfl (by assumption) ?_
    refine v_iload_n dX1_excludeWeakest_37 rfl ?_
    refine v_iload_n dX1_excludeWeakest_38 rfl ?_
    refine v_iast (j := w) dX1_excludeWeakest_39 (by assumption) (by first | rfl | omega) (by omega) ?_
    refine v_aload_n dX1_excludeWeakest_40 rfl ?_
    refine v_getr dX1_excludeWeakest_41 fr_X1_34 (by assumption) (by decide) rfl (by assumption) ?_
    refine v_getr dX1_excludeWeakest_44 fr_X1_113 (by assumption) (by decide) rfl (by assumption) ?_
    refine v_iload_n dX1_excludeWeakest_47 rfl ?_
    refine v_aload_n dX1_excludeWeakest_48 rfl ?_
    refine v_getr dX1_excludeWeakest_49 fr_X1_27 (by assumption) (by decide) rfl (by assumption) ?_
    refine v_geti dX1_excludeWeakest_52 fr_X1_234 (by assumption) (by decide) rfl ?_
    rw [up_ne (by omega), up_ne (by omega)]
    refine v_iast (j := w) dX1_excludeWeakest_55 (by assumption) (by first | rfl | omega) (by omega) ?_
    refine v_aload_n dX1_excludeWeakest_56 rfl ?_
    refine v_getr dX1_excludeWeakest_57 fr_X1_34 (by assumption) (by decide) rfl (by assumption) ?_
    refine v_getr dX1_excludeWeakest_60 fr_X1_116 (by assumption) (by decide) rfl (by assumption) ?_
    refine v_iload_n dX1_excludeWeakest_63 rfl ?_
    refine v_aload_n dX1_excludeWeakest_64 rfl ?_
    refine v_getr dX1_excludeWeakest_65 fr_X1_27 (by assumption) (by decide) rfl (by assumption) ?_
    refine v_geti dX1_excludeWeakest_68 fr_X1_236 (by assumption) (by decide) rfl ?_
    rw [up_ne (by omega), up_ne (by omega), up_ne (by omega)]
    refine v_iast (j := w) dX1_excludeWeakest_71 (by assumption) (by first | rfl | omega) (by omega) ?_
    refine v_aload_n dX1_excludeWeakest_72 rfl ?_
    refine v_dup dX1_excludeWeakest_73 rfl ?_
    refine v_geti dX1_excludeWeakest_74 fr_X1_86 (by assumption) (by decide) rfl ?_
    rw [up_ne (by omega), up_ne (by omega), up_ne (by omega), up_ne (by omega), kE]
    refine v_iconst dX1_excludeWeakest_77 ?_
    refine v_iload_n dX1_excludeWeakest_78 rfl ?_
    refine v_ishl (z := ((2 ^ w : Nat) : Int)) dX1_excludeWeakest_79 (shl_b w (by omega)) ?_
    refine v_iconst dX1_excludeWeakest_80 ?_
    refine v_ixor dX1_excludeWeakest_81 (ii_of _).symm ?_
    refine v_iand (z := ((clr (J c 10).toNat w : Nat) : Int)) dX1_excludeWeakest_82 (by rw [ii_of]; exact clr_b _ kH w (by omega)) ?_
    refine v_puti dX1_excludeWeakest_83 fr_X1_86 (by assumption) (by decide) rfl ?_
    refine v_aload_n dX1_excludeWeakest_86 rfl ?_
    refine v_getr dX1_excludeWeakest_87 fr_X1_45 (by assumption) (by decide) rfl (by assumption) ?_
    refine v_iload_n dX1_excludeWeakest_90 rfl ?_
    refine v_iconst dX1_excludeWeakest_91 ?_
    refine v_iast (j := w) dX1_excludeWeakest_92 (by assumption) (by first | rfl | omega) (by omega) ?_
    refine v_iconst dX1_excludeWeakest_93 ?_
    refine v_istn3 dX1_excludeWeakest_94 rfl ?_
    refine v_iconst dX1_excludeWeakest_95 ?_
    refine v_ist4 dX1_excludeWeakest_96 rfl ?_
    exact c_xwLoop (I := xwI J c w r) hfl hC (CI_xwI hCJ hsp (by omega) hr) (by omega) hr (by rw [xwI_e (by omega), ← hJ, chJ_ne (by omega)]; exact hn) (by omega) (by unfold xwM; rw [ehh, if_neg (by omega), hq, Int.toNat_natCast, hJ]; unfold xwL; rw [← hJ, chJ_ne (by omega), hn]; rfl) 0 (Nat.zero_le _)
  · exact v_vE dX1_excludeWeakest_19 rfl (by unfold xwM; rw [ehh, if_pos (by omega)])

theorem elM_e {I : II} {c q r x : Nat} {rs : Int} (h : x < c) : elM I c q r rs x = I x := by
  unfold elM elI2
  rw [up_ne (by omega), up_ne (by omega), up_ne (by omega), up_ne (by omega), up_ne (by omega), up_ne (by omega)]
  split
  · rw [up_ne (by omega), up_ne (by omega)]
  · rfl
theorem CI_ew {c e r : Nat} (hsp : e + 31 ≤ c) (hr : r < 9) : ∀ k (I : II), CI I c e → CI (ewM c e r k I) c e
  | 0, _, h => h
  | k + 1, I, h => by
    have hV := chV_ok (c := c) (s := (I c 10).toNat) (r := r) (m := 1) h.1
    unfold ewM
    split
    · exact CI_chJ h hsp hr
    · split
      · exact CI_chJ h hsp hr
      · exact CI_ew hsp hr k _ (CI_el (CI_chJ h hsp hr) hsp (by omega) hr (by omega))
theorem CI_ea {c e r : Nat} (hsp : e + 31 ≤ c) (hr : r < 9) : ∀ k (I : II), CI I c e → CI (eaM c e r k I) c e
  | 0, _, h => h
  | k + 1, I, h => by
    have hV := chV_ok (c := c) (s := (I c 10).toNat) (r := r) (m := 1) h.1
    unfold eaM
    split
    · exact h
    · split
      · exact CI_ea hsp hr k _ (CI_chJ h hsp hr)
      · exact CI_ea hsp hr k _ (CI_el (CI_chJ h hsp hr) hsp (by omega) hr (by omega))
theorem ew_e {c e r x : Nat} (hx : x < c) : ∀ k (I : II), ewM c e r k I x = I x
  | 0, _ => rfl
  | k + 1, I => by
    unfold ewM
    split
    · exact chJ_ne (by omega)
    · split
      · exact chJ_ne (by omega)
      · rw [ew_e hx k, elM_e hx, chJ_ne (by omega)]
theorem ea_e {c e r x : Nat} (hx : x < c) : ∀ k (I : II), eaM c e r k I x = I x
  | 0, _ => rfl
  | k + 1, I => by
    unfold eaM
    split
    · rfl
    · split
      · rw [ea_e hx k, chJ_ne (by omega)]
      · rw [ea_e hx k, elM_e hx, chJ_ne (by omega)]
def prJ (I : II) (c e r : Nat) : II := ewM c e r (I (e + 1) 3 - I (c + 1) 1).toNat I
def prK (J : II) (c e r : Nat) : II := if chV J c e (wmF J c 8) r 1 = -1 then xwM (chJ J c e (wmF J c 8) r 1) c e r else trM (chJ J c e (wmF J c 8) r 1) c e (chV J c e (wmF J c 8) r 1).toNat r
/-- whether another round follows, and the cells -/
def prF (I : II) (c e r : Nat) : Int × II := if I (e + 1) 3 - prJ I c e r (c + 1) 1 ≤ 0 then (0, prJ I c e r) else if (pop8 (prJ I c e r c 10).toNat : Int) ≤ I (e + 1) 3 - prJ I c e r (c + 1) 1 then (0, eaM c e r 8 (prJ I c e r)) else (1, prK (prJ I c e r) c e r)
theorem CI_pr {I : II} {c e r : Nat} (h : CI I c e) (hsp : e + 31 ≤ c) (hr : r < 9) : CI (prF I c e r).2 c e := by
  have k : CI (prJ I c e r) c e := CI_ew hsp hr _ _ h
  unfold prF
  generalize prJ I c e r = J at k ⊢
  have hV := chV_ok (c := c) (s := wmF J c 8) (r := r) (m := 1) k.1
  split
  · exact k
  · split
    · exact CI_ea hsp hr _ _ k
    · show CI (prK J c e r) c e
      unfold prK
      split
      · exact CI_xw (CI_chJ k hsp hr) hsp hr
      · exact CI_tr (CI_chJ k hsp hr) hsp (by omega) hr
theorem pr_e {I : II} {c e r x : Nat} (hx : x < c) : (prF I c e r).2 x = I x := by
  have k : prJ I c e r x = I x := ew_e hx _ _
  unfold prF
  generalize prJ I c e r = J at k ⊢
  split
  · exact k
  · split
    · exact (ea_e hx _ _).trans k
    · show prK J c e r x = _
      unfold prK
      split
      · rw [xwM_e hx, chJ_ne (by omega)]; exact k
      · rw [tr_e hx, chJ_ne (by omega)]; exact k

set_option maxRecDepth 100000 in
set_option maxHeartbeats 4000000 in
theorem c_playRound {l : Launch} {g : GV} {S : SS} {I : II} {X : XX} {c e r : Nat} (hfl : l.stackTraces = false) (hC : isCnt S c e) (hI : CI I c e) (hr : r < 9) : CE l g mX1_playRound 3 [.ref c, .int (ii (r : Int))] S I X (some (.int (ii (prF I c e r).1))) (prF I c e r).2 := by
  obtain ⟨n0, n1, n2, n3, n4, n5, n6, n6a, n7, n7a, n8, n8a, n9, n9a, n10, n10a, hR, hH, hF, hG, hE, hsp⟩ := id hC
  obtain ⟨r0, r1, r1a, r2, r2a, r3, r3a, rr⟩ := id hR
  obtain ⟨k0, k1, k2⟩ := id hH
  obtain ⟨f0, f1, f1a, f2, f2a, f3, f3a⟩ := id hF
  obtain ⟨l0, ⟨l1, l1a⟩, ⟨l2, l2a⟩, ⟨l3, l3a⟩, ⟨l4, l4a⟩, ⟨l5, l5a⟩, ⟨l6, l6a⟩, ⟨l7, l7a⟩, ⟨l8, l8a⟩, lr, ⟨l9, l9a⟩, lw⟩ := id hG
  obtain ⟨y0, y1, y1a, y2, y2a, y3, y3a, y4, y4a, y5, y5a, yr⟩ := id hE
  obtain ⟨g1, g2, g3, g4, g5, g6, g7⟩ := id hI
  obtain ⟨w0, w1, w2, w3, w4, w5, w6, w7, w8, w9, w10, w11, w12, w13, w14⟩ := id g1
  refine v_startE hfl rfl (by decide) (Nat.le_of_ble_eq_true rfl) (ls := [some (.ref c), some (.int (ii (r : Int))), none, none, none]) rfl ?_
  refine v_aload_n dX1_playRound_0 rfl ?_
  refine v_getr dX1_playRound_1 fr_X1_9 (by assumption) (by decide) rfl (by assumption) ?_
  refine v_getr dX1_playRound_4 fr_X1_137 (by assumption) (by decide) rfl (by assumption) ?_
  refine v_iconst dX1_playRound_7 ?_
  refine v_iald (j := 3) dX1_playRound_8 (by assumption) (by first | rfl | omega) (by omega) ?_
  have s9 := g1.2.2.2.2.2.2.2.2.2.2.2.2.2
  refine v_istn2 dX1_playRound_9 rfl ?_
  refine v_aload_n dX1_playRound_10 rfl ?_
  refine v_iload_n dX1_playRound_11 rfl ?_
  refine v_iload_n dX1_playRound_12 rfl ?_
  refine v_aload_n dX1_playRound_13 rfl ?_
  refine v_getr dX1_playRound_14 fr_X1_18 (by assumption) (by decide) rfl (by assumption) ?_
  refine v_geti dX1_playRound_17 fr_X1_92 (by assumption) (by decide) rfl ?_
  refine v_isub dX1_playRound_20 ?_
  refine v_cV2n dX1_playRound_21 lk_X1_176 (by assumption) (by decide) rfl (c_electWithQuota hfl hC hI hr (by omega)) (by decide) (Nat.le_of_ble_eq_true rfl) ?_ rfl
  have hCJ : CI (prJ I c e r) c e := CI_ew hsp hr _ _ hI
  have ex : prF I c e r = if I (e + 1) 3 - prJ I c e r (c + 1) 1 ≤ 0 then (0, prJ I c e r) else if (pop8 (prJ I c e r c 10).toNat : Int) ≤ I (e + 1) 3 - prJ I c e r (c + 1) 1 then (0, eaM c e r 8 (prJ I c e r)) else (1, prK (prJ I c e r) c e r) := rfl
  rw [show ewM c e r (I (e + 1) 3 - I (c + 1) 1).toNat I = prJ I c e r from rfl]
  generalize prJ I c e r = J at hCJ ex ⊢
  have g9 := hCJ.2.2.2.2.1
  have kE : J c 10 = ((J c 10).toNat : Int) := by have := hCJ.2.2.1; omega
  have kH : (J c 10).toNat < 256 := by have := hCJ.2.2.1; omega
  have hu : J c 11 = ((J c 11).toNat : Int) := by have := hCJ.2.2.2.1; omega
  have hu8 : (J c 11).toNat < 256 := by have := hCJ.2.2.2.1; omega
  have pl := pop8_le (J c 10).toNat
  have hV := chV_ok (c := c) (s := wmF J c 8) (r := r) (m := 1) hCJ.1
  refine v_iload_n dX1_playRound_24 rfl ?_
  refine v_aload_n dX1_playRound_25 rfl ?_
  refine v_getr dX1_playRound_26 fr_X1_18 (by assumption) (by decide) rfl (by assumption) ?_
  refine v_geti dX1_playRound_29 fr_X1_92 (by assumption) (by decide) rfl ?_
  refine v_isub dX1_playRound_32 ?_
  refine v_istn3 dX1_playRound_33 rfl ?_
  refine v_iload_n dX1_playRound_34 rfl ?_
  refine v_if_gt (tgt := 40) dX1_playRound_35 (by decide) (fun h35 => ?_) (fun h35 => ?_)
  · refine v_aload_n dX1_playRound_40 rfl ?_
    refine v_geti dX1_playRound_41 fr_X1_86 (by assumption) (by decide) rfl ?_
    rw [kE]
    refine v_cS1 dX1_playRound_44 lk_X1_180 (c_bitCount hfl kH) (by decide) (Nat.le_of_ble_eq_true rfl) ?_ rfl
    refine v_iload_n dX1_playRound_47 rfl ?_
    refine v_ic_gt (tgt := 58) dX1_playRound_48 (by decide) (fun h48 => ?_) (fun h48 => ?_)
    · refine v_aload_n dX1_playRound_58 rfl ?_
      refine v_getr dX1_playRound_59 fr_X1_27 (by assumption) (by decide) rfl (by assumption) ?_
      refine v_aload_n dX1_playRound_62 rfl ?_
      refine v_cV0 dX1_playRound_63 lk_X1_189 (by assumption) (by decide) rfl (c_withMore hfl hC hCJ.2.1 hu hu8) (by decide) (Nat.le_of_ble_eq_true rfl) ?_ rfl
      refine v_iload_n dX1_playRound_66 rfl ?_
      refine v_iconst dX1_playRound_67 ?_
      refine v_cV3 dX1_playRound_68 lk_X1_192 (by assumption) (by decide) rfl (c_choose2 hfl hC hCJ (wmF_lt _ _ 8 (by omega)) hr (Or.inr rfl)) (by decide) (Nat.le_of_ble_eq_true rfl) ?_ rfl
      refine v_ist4 dX1_playRound_71 rfl ?_
      refine v_iload dX1_playRound_73 rfl ?_
      refine v_iconst dX1_playRound_75 ?_
      refine v_ic_eq (tgt := 89) dX1_playRound_76 (by decide) (fun h76 => ?_) (fun h76 => ?_)
      · refine v_aload_n dX1_playRound_89 rfl ?_
        refine v_iload_n dX1_playRound_90 rfl ?_
        refine v_cV1n dX1_playRound_91 lk_X1_199 (by assumption) (by decide) rfl (c_excludeWeakest hfl hC (CI_chJ hCJ hsp hr) hr) (by decide) (Nat.le_of_ble_eq_true rfl) ?_ rfl
        refine v_iconst dX1_playRound_94 ?_
        exact v_zE dX1_playRound_95 rfl (by first | exact Or.inl rfl | exact Or.inr rfl | omega) (by rw [ex, if_neg (by omega), if_neg (by omega)]) (by rw [ex, if_neg (by omega), if_neg (by omega)]; show _ = prK J c e r; unfold prK; first | rw [if_pos (by omega)] | rw [if_neg (by omega), hw]; rfl)
      · obtain ⟨w, hw⟩ : ∃ w : Nat, chV J c e (wmF J c 8) r 1 = (w : Int) := Int.eq_ofNat_of_zero_le (by omega)
        rw [hw] at hV ⊢
        refine v_aload_n dX1_playRound_79 rfl ?_
        refine v_iload dX1_playRound_80 rfl ?_
        refine v_iload_n dX1_playRound_82 rfl ?_
        refine v_cV2n dX1_playRound_83 lk_X1_196 (by assumption) (by decide) rfl (c_transferSurplus hfl hC (CI_chJ hCJ hsp hr) (by omega) hr) (by decide) (Nat.le_of_ble_eq_true rfl) ?_ rfl
        refine v_goto (tgt := 94) dX1_playRound_86 (by decide) ?_
        refine v_iconst dX1_playRound_94 ?_
        exact v_zE dX1_playRound_95 rfl (by first | exact Or.inl rfl | exact Or.inr rfl | omega) (by rw [ex, if_neg (by omega), if_neg (by omega)]) (by rw [ex, if_neg (by omega), if_neg (by omega)]; show _ = prK J c e r; unfold prK; first | rw [if_pos (by omega)] | rw [if_neg (by omega), hw]; rfl)
    · refine v_aload_n dX1_playRound_51 rfl ?_
      refine v_iload_n dX1_playRound_52 rfl ?_
      refine v_cV1n dX1_playRound_53 lk_X1_186 (by assumption) (by decide) rfl (c_electAllHopeful hfl hC hCJ hr) (by decide) (Nat.le_of_ble_eq_true rfl) ?_ rfl
      refine v_iconst dX1_playRound_56 ?_
      exact v_zE dX1_playRound_57 rfl (by first | exact Or.inl rfl | exact Or.inr rfl | omega) (by rw [ex, if_neg (by omega), if_pos (by omega)]) (by rw [ex, if_neg (by omega), if_pos (by omega)])
  · refine v_iconst dX1_playRound_38 ?_
    exact v_zE dX1_playRound_39 rfl (by first | exact Or.inl rfl | exact Or.inr rfl | omega) (by rw [ex, if_pos (by omega)]) (by rw [ex, if_pos (by omega)])
