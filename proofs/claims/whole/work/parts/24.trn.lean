/-! COUNTING: transfers, exclusions, the count -/
theorem jj_div (a b : Int) (ha : -9223372036854775808 ≤ a ∧ a < 9223372036854775808) (hb : -9223372036854775808 ≤ b ∧ b < 9223372036854775808) : jj a / jj b = jj (a.tdiv b) := by
  rw [← Int64.toInt_inj, Int64.toInt_div, jj_toInt ha, jj_toInt hb]
  exact (Int64.toInt_ofInt).symm
theorem jj_ne0 {b : Int} (h : -9223372036854775808 ≤ b ∧ b < 9223372036854775808) (h0 : b ≠ 0) : ¬ jj b = 0 := fun q => h0 ((jj_eq h (by omega)).mp (q.trans (by decide)))
theorem jj_w (z : Int) : (jj z).toInt32 = ii z := Int64.toInt32_ofInt
theorem v_l2iw {l : Launch} {g : GV} {mt : MT} {dp bc bs pc pc2 : Nat} {Z : ZZ} {ls : List (Option Value)} {st : List Value} {S : SS} {I : II} {X : XX} {z : Int} (hd : DC (mCc mt) pc (.l2i) 1 pc2) (k : V l g mt dp Z bc bs pc2 ls (.int (ii z) :: st) S I X) : V l g mt dp Z bc bs pc ls (.long (jj z) :: st) S I X := by
  obtain ⟨hd1, rfl⟩ := hd
  intro p e s m args below meth c H locs cells slots R lsA hv
  exact lv_l2i hv.1.1 hv.1.2.1 hd1 (jj_w z) (k p e s m args below meth c H locs cells slots R lsA hv)
theorem tdiv_rng {a b : Int} (ha : -4611686018427387904 ≤ a ∧ a ≤ 4611686018427387904) : -4611686018427387904 ≤ a.tdiv b ∧ a.tdiv b ≤ 4611686018427387904 := by
  have h1 : (a.tdiv b).natAbs ≤ a.natAbs := by rw [Int.natAbs_tdiv]; exact Nat.div_le_self _ _
  omega
theorem mul_rng {a b : Int} (ha : -2147483648 ≤ a ∧ a < 2147483648) (hb : -2147483648 ≤ b ∧ b < 2147483648) : -4611686018427387904 ≤ a * b ∧ a * b ≤ 4611686018427387904 := by
  have h1 : (a * b).natAbs = a.natAbs * b.natAbs := Int.natAbs_mul a b
  have h2 : a.natAbs * b.natAbs ≤ 2147483648 * 2147483648 := Nat.mul_le_mul (by omega) (by omega)
  omega
def rwF (old su sm : Int) : Int := if sm ≤ 0 then 0 else wr (mnI old ((old * su).tdiv sm))
theorem rwF_rng (old su sm : Int) : -2147483648 ≤ rwF old su sm ∧ rwF old su sm < 2147483648 := by
  unfold rwF
  split
  · omega
  · exact wr_rng _

set_option maxRecDepth 100000 in
set_option maxHeartbeats 4000000 in
theorem c_reducedWorth {l : Launch} {g : GV} {S : SS} {I : II} {X : XX} {old su sm : Int} (hfl : l.stackTraces = false) (h1 : -2147483648 ≤ old ∧ old < 2147483648) (h2 : -2147483648 ≤ su ∧ su < 2147483648) (h3 : -2147483648 ≤ sm ∧ sm < 2147483648) : CE l g mX1_reducedWorth 1 [.int (ii old), .int (ii su), .int (ii sm)] S I X (some (.int (ii (rwF old su sm)))) I := by
  have m1 := mul_rng h1 h2
  have m2 := tdiv_rng (b := sm) m1
  refine v_startE hfl rfl (by decide) (Nat.le_of_ble_eq_true rfl) (ls := [some (.int (ii old)), some (.int (ii su)), some (.int (ii sm))]) rfl ?_
  refine v_iload_n dX1_reducedWorth_0 rfl ?_
  refine v_if_gt (tgt := 6) dX1_reducedWorth_1 (by decide) (fun h1 => ?_) (fun h1 => ?_)
  · refine v_iload_n dX1_reducedWorth_6 rfl ?_
    refine v_i2l dX1_reducedWorth_7 ?_
    refine v_iload_n dX1_reducedWorth_8 rfl ?_
    refine v_i2l dX1_reducedWorth_9 ?_
    refine v_iload_n dX1_reducedWorth_10 rfl ?_
    refine v_i2l dX1_reducedWorth_11 ?_
    refine v_lmul dX1_reducedWorth_12 ?_
    refine v_iload_n dX1_reducedWorth_13 rfl ?_
    refine v_i2l dX1_reducedWorth_14 ?_
    refine v_ldiv (z := (old * su).tdiv sm) dX1_reducedWorth_15 (jj_ne0 (by omega) (by omega)) (jj_div _ _ (by omega) (by omega)) ?_
    refine v_mminL dX1_reducedWorth_16 lk_X1_230 (by decide) (Nat.le_of_ble_eq_true rfl) ?_
    refine v_l2iw dX1_reducedWorth_19 ?_
    refine v_wr ?_
    exact v_iE dX1_reducedWorth_20 rfl (by unfold rwF; rw [if_neg (by omega)]) rfl
  · refine v_iconst dX1_reducedWorth_4 ?_
    exact v_iE dX1_reducedWorth_5 rfl (by unfold rwF; rw [if_pos h1]) (rfl)

def tsJ (c p : Nat) (su sm : Int) (J : II) : II := up J (c + 51) p (rwF (J (c + 51) p) su sm)
/-- the piles of a parcel go on: the cells, the units moved -/
def tsF (c e : Nat) (r q pa su sm : Int) (I : II) : Nat → II × Int
  | 0 => (I, 0)
  | p + 1 => if ipF (tsF c e r q pa su sm I p).1 c p q pa = 0 then tsF c e r q pa su sm I p else (sendM (tsJ c p su sm (tsF c e r q pa su sm I p).1) c e p r, (tsF c e r q pa su sm I p).2 + unitsF (tsJ c p su sm (tsF c e r q pa su sm I p).1) c e p)
def trP (I : II) (c e q : Nat) : Int := if I (e + 1) 1 = 0 then -2 else lpF I c e q (I e 4).toNat
def trR (I : II) (c e q r : Nat) : II × Int := tsF c e r q (trP I c e q) (wr (I (c + 47) q - I c 13)) (wr (wpF I c e q (trP I c e q) (I e 4).toNat)) I (I e 4).toNat
def trM (I : II) (c e q r : Nat) : II := evM (up (up (up (trR I c e q r).1 c 15 (wr ((trR I c e q r).1 c 15 + (wr (I (c + 47) q - I c 13) - (trR I c e q r).2)))) (c + 47) q ((trR I c e q r).1 c 13)) c 11 (clr ((trR I c e q r).1 c 11).toNat q)) c r 1 q (trR I c e q r).2
theorem ts_e {c e : Nat} {r q pa su sm : Int} {I : II} {x : Nat} (h : x < c) : ∀ p, (tsF c e r q pa su sm I p).1 x = I x
  | 0 => rfl
  | p + 1 => by
    unfold tsF
    split
    · exact ts_e h p
    · show sendM _ _ _ _ _ x = _
      rw [sendM_e h]
      unfold tsJ
      rw [up_ne (by omega)]
      exact ts_e h p
theorem ts_ci {c e : Nat} {r q pa su sm : Int} {I : II} (h : CI I c e) (hsp : e + 31 ≤ c) (hr : -2147483648 ≤ r ∧ r < 2147483648) : ∀ p, p ≤ 25 → CI (tsF c e r q pa su sm I p).1 c e
  | 0, _ => h
  | p + 1, hp => by
    have ih := ts_ci (q := q) (pa := pa) (su := su) (sm := sm) h hsp hr p (by omega)
    unfold tsF
    split
    · exact ih
    · exact CI_send (CI_far ih hsp (rwF_rng _ _ _) (by omega) (by omega) (by omega) (by omega)) hsp (by omega) hr
theorem CI_ev {I : II} {c e r : Nat} {a b m : Int} (h : CI I c e) (hsp : e + 31 ≤ c) (ha : -2147483648 ≤ a ∧ a < 2147483648) (hb : -2147483648 ≤ b ∧ b < 2147483648) : CI (evM I c r a b m) c e :=
  CI_far (CI_far (CI_far h hsp ha (by omega) (by omega) (by omega) (by omega)) hsp hb (by omega) (by omega) (by omega) (by omega)) hsp (wr_rng _) (by omega) (by omega) (by omega) (by omega)
theorem CI_tr {I : II} {c e q r : Nat} (h : CI I c e) (hsp : e + 31 ≤ c) (hq : q < 8) (hr : r < 9) : CI (trM I c e q r) c e := by
  have w := h.1
  obtain ⟨w0, w1, w2, w3, -⟩ := w
  have k : CI (trR I c e q r).1 c e := ts_ci h hsp (by omega) _ (by omega)
  unfold trM
  generalize trR I c e q r = R at k ⊢
  obtain ⟨g1, g2, g3, g4, g5, g6, g7⟩ := id k
  have o3 := clr_lt (R.1 c 11).toNat (by omega) q hq
  exact CI_ev (CI_up (CI_up (CI_up k (wr_rng _) (Or.inr (by omega)) hsp (fun _ q => by omega) (fun q => by omega) (fun q => by omega) (fun q => by omega)) (g2 c 13) (Or.inr (by omega)) hsp (fun q => by omega) (fun q => by omega) (fun q => by omega) (fun q => by omega)) (by omega) (Or.inr (by omega)) hsp (fun _ _ => by omega) (fun q => by omega) (fun q => by omega) (fun q => by omega)) hsp (by omega) (by omega)
theorem tr_e {I : II} {c e q r x : Nat} (h : x < c) : trM I c e q r x = I x := by
  unfold trM evM
  rw [up_ne (by omega), up_ne (by omega), up_ne (by omega), up_ne (by omega), up_ne (by omega), up_ne (by omega)]
  exact ts_e h _


set_option maxRecDepth 100000 in
set_option maxHeartbeats 4000000 in
theorem c_tsLoop {l : Launch} {g : GV} {S : SS} {I : II} {X : XX} {c e q r n : Nat} {pa su sm : Int} {KK : II} (hfl : l.stackTraces = false) (hC : isCnt S c e) (hI : CI I c e) (hq : q < 8) (hr : r < 9) (hn : I e 4 = (n : Int)) (hn25 : n ≤ 25) (hsu : -2147483648 ≤ su ∧ su < 2147483648) (hsm : -2147483648 ≤ sm ∧ sm < 2147483648) (hpa : -2147483648 ≤ pa ∧ pa < 2147483648) (hfin : KK = evM (up (up (up (tsF c e r q pa su sm I n).1 c 15 (wr ((tsF c e r q pa su sm I n).1 c 15 + (su - (tsF c e r q pa su sm I n).2)))) (c + 47) q ((tsF c e r q pa su sm I n).1 c 13)) c 11 (clr ((tsF c e r q pa su sm I n).1 c 11).toNat q)) c r 1 q (tsF c e r q pa su sm I n).2) : ∀ p : Nat, p ≤ n → V l g mX1_transferSurplus 2 (Zm g (QE none S KK X)) 0 0 51 [some (.ref c), some (.int (ii (q : Int))), some (.int (ii (r : Int))), some (.int (ii su)), some (.int (ii pa)), some (.int (ii sm)), some (.int (ii (tsF c e r q pa su sm I p).2)), some (.int (ii (p : Int)))] [] S (tsF c e r q pa su sm I p).1 X := by
  obtain ⟨n0, n1, n2, n3, n4, n5, n6, n6a, n7, n7a, n8, n8a, n9, n9a, n10, n10a, hR, hH, hF, hG, hE, hsp⟩ := id hC
  obtain ⟨r0, r1, r1a, r2, r2a, r3, r3a, rr⟩ := id hR
  obtain ⟨k0, k1, k2⟩ := id hH
  obtain ⟨f0, f1, f1a, f2, f2a, f3, f3a⟩ := id hF
  obtain ⟨l0, ⟨l1, l1a⟩, ⟨l2, l2a⟩, ⟨l3, l3a⟩, ⟨l4, l4a⟩, ⟨l5, l5a⟩, ⟨l6, l6a⟩, ⟨l7, l7a⟩, ⟨l8, l8a⟩, lr, ⟨l9, l9a⟩, lw⟩ := id hG
  obtain ⟨y0, y1, y1a, y2, y2a, y3, y3a, y4, y4a, y5, y5a, yr⟩ := id hE
  refine loop_up fun p hp ih => ?_
  have hT := ts_ci (q := q) (pa := pa) (su := su) (sm := sm) hI hsp (show -2147483648 ≤ (r : Int) ∧ (r : Int) < 2147483648 by omega) p (by omega)
  have hTe := ts_e (c := c) (e := e) (r := r) (q := q) (pa := pa) (su := su) (sm := sm) (I := I) (x := e) (by omega) p
  have ex : tsF c e r q pa su sm I (p + 1) = if ipF (tsF c e r q pa su sm I p).1 c p q pa = 0 then tsF c e r q pa su sm I p else (sendM (tsJ c p su sm (tsF c e r q pa su sm I p).1) c e p r, (tsF c e r q pa su sm I p).2 + unitsF (tsJ c p su sm (tsF c e r q pa su sm I p).1) c e p) := rfl
  refine v_iload dX1_transferSurplus_51 rfl ?_
  refine v_aload_n dX1_transferSurplus_53 rfl ?_
  refine v_getr dX1_transferSurplus_54 fr_X1_9 (by assumption) (by decide) rfl (by assumption) ?_
  refine v_geti dX1_transferSurplus_57 fr_X1_130 (by assumption) (by decide) rfl ?_
  rw [hTe]
  refine v_ic_ge (tgt := 113) dX1_transferSurplus_60 (by decide) (fun h60 => ?_) (fun h60 => ?_)
  · obtain rfl : p = n := by omega
    obtain ⟨u, hu⟩ := Int.eq_ofNat_of_zero_le hT.2.2.2.1.1
    have hu8 : u < 256 := by have := hT.2.2.2.1; omega
    refine v_aload_n dX1_transferSurplus_113 rfl ?_
    refine v_dup dX1_transferSurplus_114 rfl ?_
    refine v_geti dX1_transferSurplus_115 fr_X1_127 (by assumption) (by decide) rfl ?_
    refine v_iload_n dX1_transferSurplus_118 rfl ?_
    refine v_iload dX1_transferSurplus_119 rfl ?_
    refine v_isub dX1_transferSurplus_121 ?_
    refine v_iadd dX1_transferSurplus_122 ?_
    refine v_wr ?_
    refine v_puti dX1_transferSurplus_123 fr_X1_127 (by assumption) (by decide) rfl ?_
    refine v_aload_n dX1_transferSurplus_126 rfl ?_
    refine v_getr dX1_transferSurplus_127 fr_X1_45 (by assumption) (by decide) rfl (by assumption) ?_
    refine v_iload_n dX1_transferSurplus_130 rfl ?_
    refine v_aload_n dX1_transferSurplus_131 rfl ?_
    refine v_geti dX1_transferSurplus_132 fr_X1_75 (by assumption) (by decide) rfl ?_
    rw [up_nk (by omega)]
    refine v_iast (j := q) dX1_transferSurplus_135 (by assumption) (by first | rfl | omega) (by omega) ?_
    refine v_aload_n dX1_transferSurplus_136 rfl ?_
    refine v_dup dX1_transferSurplus_137 rfl ?_
    refine v_geti dX1_transferSurplus_138 fr_X1_89 (by assumption) (by decide) rfl ?_
    rw [up_ne (by omega), up_nk (by omega), hu]
    refine v_iconst dX1_transferSurplus_141 ?_
    refine v_iload_n dX1_transferSurplus_142 rfl ?_
    refine v_ishl (z := ((2 ^ q : Nat) : Int)) dX1_transferSurplus_143 (shl_b q hq) ?_
    refine v_iconst dX1_transferSurplus_144 ?_
    refine v_ixor dX1_transferSurplus_145 (ii_of _).symm ?_
    refine v_iand (z := ((clr u q : Nat) : Int)) dX1_transferSurplus_146 (by rw [ii_of]; exact clr_b u hu8 q hq) ?_
    refine v_puti dX1_transferSurplus_147 fr_X1_89 (by assumption) (by decide) rfl ?_
    refine v_aload_n dX1_transferSurplus_150 rfl ?_
    refine v_iload_n dX1_transferSurplus_151 rfl ?_
    refine v_iconst dX1_transferSurplus_152 ?_
    refine v_iload_n dX1_transferSurplus_153 rfl ?_
    refine v_iload dX1_transferSurplus_154 rfl ?_
    refine v_cV4n dX1_transferSurplus_156 lk_X1_223 (by assumption) (by decide) rfl (c_logEvent hfl hC hr) (by decide) (Nat.le_of_ble_eq_true rfl) ?_ rfl
    exact v_vE dX1_transferSurplus_159 rfl (by rw [hfin, hu]; rfl)
  · refine v_aload_n dX1_transferSurplus_63 rfl ?_
    refine v_iload dX1_transferSurplus_64 rfl ?_
    refine v_iload_n dX1_transferSurplus_66 rfl ?_
    refine v_iload dX1_transferSurplus_67 rfl ?_
    refine v_cV3 dX1_transferSurplus_69 lk_X1_215 (by assumption) (by decide) rfl (c_isInParcel hfl hC hT.2.1 (by omega) (by omega) hpa) (by decide) (Nat.le_of_ble_eq_true rfl) ?_ rfl
    have h01 := ipF_01 (tsF c e r q pa su sm I p).1 c p q pa
    refine v_if_eq (tgt := 107) dX1_transferSurplus_72 (by decide) (fun h72 => ?_) (fun h72 => ?_)
    · refine v_iinc7 dX1_transferSurplus_107 rfl ?_
      refine v_goto (tgt := 51) dX1_transferSurplus_110 (by decide) ?_
      have q9 := ih (p + 1) (by omega) (by omega)
      rw [ex] at q9
      first
        | (rw [if_pos (by omega)] at q9; exact q9)
        | (rw [if_neg (by omega)] at q9; exact q9)
    · refine v_aload_n dX1_transferSurplus_75 rfl ?_
      refine v_getr dX1_transferSurplus_76 fr_X1_58 (by assumption) (by decide) rfl (by assumption) ?_
      refine v_iload dX1_transferSurplus_79 rfl ?_
      refine v_aload_n dX1_transferSurplus_81 rfl ?_
      refine v_getr dX1_transferSurplus_82 fr_X1_58 (by assumption) (by decide) rfl (by assumption) ?_
      refine v_iload dX1_transferSurplus_85 rfl ?_
      refine v_iald (j := p) dX1_transferSurplus_87 (by assumption) (by first | rfl | omega) (by omega) ?_
      refine v_iload_n dX1_transferSurplus_88 rfl ?_
      refine v_iload dX1_transferSurplus_89 rfl ?_
      refine v_cS3 dX1_transferSurplus_91 lk_X1_219 (c_reducedWorth hfl (hT.2.1 _ _) hsu hsm) (by decide) (Nat.le_of_ble_eq_true rfl) ?_ rfl
      refine v_iast (j := p) dX1_transferSurplus_94 (by assumption) (by first | rfl | omega) (by omega) ?_
      have kT : CI (tsJ c p su sm (tsF c e r q pa su sm I p).1) c e := CI_far hT hsp (rwF_rng _ _ _) (by omega) (by omega) (by omega) (by omega)
      have kE : tsJ c p su sm (tsF c e r q pa su sm I p).1 c 10 = ((tsJ c p su sm (tsF c e r q pa su sm I p).1 c 10).toNat : Int) := by have := kT.2.2.1; omega
      have kH : (tsJ c p su sm (tsF c e r q pa su sm I p).1 c 10).toNat < 256 := by have := kT.2.2.1; omega
      refine v_iload dX1_transferSurplus_95 rfl ?_
      refine v_aload_n dX1_transferSurplus_97 rfl ?_
      refine v_iload dX1_transferSurplus_98 rfl ?_
      refine v_iload_n dX1_transferSurplus_100 rfl ?_
      refine v_cV2 dX1_transferSurplus_101 lk_X1_133 (by assumption) (by decide) rfl (c_sendOn (h := (tsJ c p su sm (tsF c e r q pa su sm I p).1 c 10).toNat) hfl hC kT.1 (by omega) kE kH (kT.2.2.2.2.2.1 p)) (by decide) (Nat.le_of_ble_eq_true rfl) ?_ rfl
      refine v_iadd dX1_transferSurplus_104 ?_
      refine v_ist6 dX1_transferSurplus_105 rfl ?_
      refine v_iinc7 dX1_transferSurplus_107 rfl ?_
      refine v_goto (tgt := 51) dX1_transferSurplus_110 (by decide) ?_
      have q9 := ih (p + 1) (by omega) (by omega)
      rw [ex] at q9
      first
        | (rw [if_pos (by omega)] at q9; exact q9)
        | (rw [if_neg (by omega)] at q9; exact q9)

set_option maxRecDepth 100000 in
set_option maxHeartbeats 4000000 in
theorem c_transferSurplus {l : Launch} {g : GV} {S : SS} {I : II} {X : XX} {c e q r : Nat} (hfl : l.stackTraces = false) (hC : isCnt S c e) (hI : CI I c e) (hq : q < 8) (hr : r < 9) : CE l g mX1_transferSurplus 2 [.ref c, .int (ii (q : Int)), .int (ii (r : Int))] S I X none (trM I c e q r) := by
  obtain ⟨n0, n1, n2, n3, n4, n5, n6, n6a, n7, n7a, n8, n8a, n9, n9a, n10, n10a, hR, hH, hF, hG, hE, hsp⟩ := id hC
  obtain ⟨r0, r1, r1a, r2, r2a, r3, r3a, rr⟩ := id hR
  obtain ⟨k0, k1, k2⟩ := id hH
  obtain ⟨f0, f1, f1a, f2, f2a, f3, f3a⟩ := id hF
  obtain ⟨l0, ⟨l1, l1a⟩, ⟨l2, l2a⟩, ⟨l3, l3a⟩, ⟨l4, l4a⟩, ⟨l5, l5a⟩, ⟨l6, l6a⟩, ⟨l7, l7a⟩, ⟨l8, l8a⟩, lr, ⟨l9, l9a⟩, lw⟩ := id hG
  obtain ⟨y0, y1, y1a, y2, y2a, y3, y3a, y4, y4a, y5, y5a, yr⟩ := id hE
  obtain ⟨g1, g2, g3, g4, g5, g6, g7⟩ := id hI
  obtain ⟨w0, w1, w2, w3, -⟩ := id g1
  obtain ⟨n, hn⟩ := Int.eq_ofNat_of_zero_le w2
  refine v_startE hfl rfl (by decide) (Nat.le_of_ble_eq_true rfl) (ls := [some (.ref c), some (.int (ii (q : Int))), some (.int (ii (r : Int))), none, none, none, none, none]) rfl ?_
  refine v_aload_n dX1_transferSurplus_0 rfl ?_
  refine v_getr dX1_transferSurplus_1 fr_X1_45 (by assumption) (by decide) rfl (by assumption) ?_
  refine v_iload_n dX1_transferSurplus_4 rfl ?_
  refine v_iald (j := q) dX1_transferSurplus_5 (by assumption) (by first | rfl | omega) (by omega) ?_
  refine v_aload_n dX1_transferSurplus_6 rfl ?_
  refine v_geti dX1_transferSurplus_7 fr_X1_75 (by assumption) (by decide) rfl ?_
  refine v_isub dX1_transferSurplus_10 ?_
  refine v_wr ?_
  refine v_istn3 dX1_transferSurplus_11 rfl ?_
  refine v_aload_n dX1_transferSurplus_12 rfl ?_
  refine v_getr dX1_transferSurplus_13 fr_X1_9 (by assumption) (by decide) rfl (by assumption) ?_
  refine v_getr dX1_transferSurplus_16 fr_X1_137 (by assumption) (by decide) rfl (by assumption) ?_
  refine v_iconst dX1_transferSurplus_19 ?_
  refine v_iald (j := 1) dX1_transferSurplus_20 (by assumption) (by first | rfl | omega) (by omega) ?_
  have g9 := g2 (e + 1) 1
  refine v_if_ne (tgt := 29) dX1_transferSurplus_21 (by decide) (fun h21 => ?_) (fun h21 => ?_)
  · have hpe : trP I c e q = lpF I c e q (I e 4).toNat := by unfold trP; rw [if_neg h21]
    have hpa := lpF_rng (c := c) (e := e) (cd := q) g2 (I e 4).toNat
    refine v_aload_n dX1_transferSurplus_29 rfl ?_
    refine v_iload_n dX1_transferSurplus_30 rfl ?_
    refine v_cV1 dX1_transferSurplus_31 lk_X1_209 (by assumption) (by decide) rfl (c_lastParcel hfl hC g1 g2 (by omega)) (by decide) (Nat.le_of_ble_eq_true rfl) ?_ rfl
    refine v_ist4 dX1_transferSurplus_34 rfl ?_
    refine v_aload_n dX1_transferSurplus_36 rfl ?_
    refine v_iload_n dX1_transferSurplus_37 rfl ?_
    refine v_iload dX1_transferSurplus_38 rfl ?_
    refine v_cV2 dX1_transferSurplus_40 lk_X1_212 (by assumption) (by decide) rfl (c_worthOfParcel hfl hC g1 g2 (by omega) hpa) (by decide) (Nat.le_of_ble_eq_true rfl) ?_ rfl
    refine v_wr ?_
    refine v_ist5 dX1_transferSurplus_43 rfl ?_
    refine v_iconst dX1_transferSurplus_45 ?_
    refine v_ist6 dX1_transferSurplus_46 rfl ?_
    refine v_iconst dX1_transferSurplus_48 ?_
    refine v_ist7 dX1_transferSurplus_49 rfl ?_
    exact c_tsLoop hfl hC hI hq hr hn (by omega) (wr_rng _) (wr_rng _) hpa (by unfold trM trR; rw [hpe, hn]; rfl) 0 (Nat.zero_le _)
  · have hpe : trP I c e q = -2 := by unfold trP; rw [if_pos (by omega)]
    have hpa : (-2147483648 : Int) ≤ -2 ∧ (-2 : Int) < 2147483648 := by decide
    refine v_bipush dX1_transferSurplus_24 (by decide) ?_
    refine v_goto (tgt := 34) dX1_transferSurplus_26 (by decide) ?_
    refine v_ist4 dX1_transferSurplus_34 rfl ?_
    refine v_aload_n dX1_transferSurplus_36 rfl ?_
    refine v_iload_n dX1_transferSurplus_37 rfl ?_
    refine v_iload dX1_transferSurplus_38 rfl ?_
    refine v_cV2 dX1_transferSurplus_40 lk_X1_212 (by assumption) (by decide) rfl (c_worthOfParcel hfl hC g1 g2 (by omega) hpa) (by decide) (Nat.le_of_ble_eq_true rfl) ?_ rfl
    refine v_wr ?_
    refine v_ist5 dX1_transferSurplus_43 rfl ?_
    refine v_iconst dX1_transferSurplus_45 ?_
    refine v_ist6 dX1_transferSurplus_46 rfl ?_
    refine v_iconst dX1_transferSurplus_48 ?_
    refine v_ist7 dX1_transferSurplus_49 rfl ?_
    exact c_tsLoop hfl hC hI hq hr hn (by omega) (wr_rng _) (wr_rng _) hpa (by unfold trM trR; rw [hpe, hn]; rfl) 0 (Nat.zero_le _)
