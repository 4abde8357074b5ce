/-! elected -/
def nseB : ByteArray := ⟨#[0x2a, 0x2b, 0xb7, 0x00, 0x0d, 0xb1]⟩
theorem tha_nse : (x_at RX8 255 NSE 13 nseB ["java/lang/RuntimeException", "java/lang/Exception"]).all thw = true := by decide +kernel
theorem th_nse : THx RX8 251 253 255 13 nseB NSE "no such place" ["java/lang/RuntimeException", "java/lang/Exception"] := ⟨thw_all tha_nse, atT_in 942 (by decide +kernel), atT_in 102 (by decide +kernel), List.mem_of_getElem? (i := 951) (by decide +kernel), by decide +kernel, by decide +kernel, ot_all (by decide +kernel), rfl⟩
theorem nb0 : decode nseB 0 = .ok (.aload_n 0, 1) := by decide +kernel
theorem nb1 : decode nseB 1 = .ok (.aload_n 1, 1) := by decide +kernel
theorem nb2 : decode nseB 2 = .ok (.invokespecial 13, 3) := by decide +kernel
theorem nb5 : decode nseB 5 = .ok (.return_, 1) := by decide +kernel
def elR (I : II) (z : Int) : RR := if z < 0 ∨ ctM I (94 + 1) 1 ≤ z then erI NSE (ctM I) else okI (ctM I (94 + 1 + 1) z.toNat) (ctM I)

set_option maxRecDepth 100000 in
set_option maxHeartbeats 4000000 in
theorem c_elected {l : Launch} {g : GV} {S : SS} {I : II} {X : XX} {z : Int} {sl : Nat → Nat} (hfl : l.stackTraces = false) (hno : S.2.2 = false) (hL : LC S sl) (hK : KC I sl) (hz : -2147483648 ≤ z ∧ z < 2147483648)  : CT l g mX8_elected 6 1 6 [.ref 0, .int (ii z)] S I X (QT (elR I z) S X) := by
  obtain ⟨m0, p0, p1, p2, p3, p4, p5, p6, p7, p8, p9, hE1, hE2, hC1, hC2, hT, hH, hR1, hE3, hR2⟩ := id hL
  obtain ⟨y0, y1, y1a, y2, y2a, y3, y3a, y4, y4a, y5, y5a, yr⟩ := id hE1
  obtain ⟨a0, a1, a2, a3⟩ := id hH
  obtain ⟨t0, t1, t1a, t2, t2a⟩ := id hT
  have e20 := hE2.1
  have e30 := hE3.1
  have d10 := hR1.1
  have d20 := hR2.1
  have c10 := hC1.1
  have c20 := hC2.1
  obtain ⟨hI, h24, hI2, hTI, hRd, hRs, hWs, hz01, hSl, b10, b11, b12, b13, hRc⟩ := id hK
  obtain ⟨w0, w1, w2, w3, w4, w5, w6, w7, w8, w9, w10, w11, w12, w13⟩ := id hI.1
  have hCt := ct_CI hI
  have hRt : RI (ctM I) (94 + 1) := ct_RI hI b10 hRc
  have e1t : ctM I 1 = I 1 := ct_1
  obtain ⟨n0, n1, n2, n3, n4, n5, n6, n6a, n7, n7a, n8, n8a, n9, n9a, n10, n10a, hR, hHc, hF, hG, hEc, hsp⟩ := id hC1
  obtain ⟨r0, r1, r1a, r2, r2a, r3, r3a, rr⟩ := id hR
  obtain ⟨f0, f1, f1a, f2, f2a, f3, f3a⟩ := id hF
  obtain ⟨l0, ⟨l1, l1a⟩, ⟨l2, l2a⟩, ⟨l3, l3a⟩, ⟨l4, l4a⟩, ⟨l5, l5a⟩, ⟨l6, l6a⟩, ⟨l7, l7a⟩, ⟨l8, l8a⟩, lr, ⟨l9, l9a⟩, lw⟩ := id hG
  have q9 := hRt.2
  refine v_start hfl rfl (by decide) (Nat.le_of_ble_eq_true rfl) (ls := [some (.ref 0), some (.int (ii z)), none]) rfl ?_
  refine v_aload_n dX8_elected_0 rfl ?_
  refine v_cV0 dX8_elected_1 lk_X8_174 (by assumption) (by decide) rfl (c_counted hfl hL hI b10) (by decide) (Nat.le_of_ble_eq_true rfl) ?_ rfl
  refine v_getr dX8_elected_4 fr_X8_178 (by assumption) (by decide) rfl (by assumption) ?_
  refine v_astn2 dX8_elected_7 rfl ?_
  refine v_iload_n dX8_elected_8 rfl ?_
  refine v_if_lt (tgt := 20) dX8_elected_9 (by decide) (fun h9 => ?_) (fun h9 => ?_)
  · exact v_throwX nb0 nb1 nb2 nb5 th_nse rfl dX8_elected_20 dX8_elected_23 dX8_elected_24 dX8_elected_26 dX8_elected_29 (by decide) (Nat.le_of_ble_eq_true rfl) (by decide) (by decide) ⟨by unfold elR; rw [if_pos (by omega)]; rfl, S_eta hno, by unfold elR; rw [if_pos (by omega)]; rfl, rfl⟩
  · refine v_iload_n dX8_elected_12 rfl ?_
    refine v_aload_n dX8_elected_13 rfl ?_
    refine v_geti dX8_elected_14 fr_X8_248 (by assumption) (by decide) rfl ?_
    refine v_ic_lt (tgt := 30) dX8_elected_17 (by decide) (fun h17 => ?_) (fun h17 => ?_)
    · obtain ⟨zn, rfl⟩ := Int.eq_ofNat_of_zero_le (show 0 ≤ z by omega)
      have q8 := hRt.2.2
      refine v_aload_n dX8_elected_30 rfl ?_
      refine v_getr dX8_elected_31 fr_X8_256 (by assumption) (by decide) rfl (by assumption) ?_
      refine v_iload_n dX8_elected_34 rfl ?_
      refine v_iald (j := zn) dX8_elected_35 (by assumption) (by first | rfl | omega) (by omega) ?_
      exact v_iT dX8_elected_36 rfl hno (by unfold elR; rw [if_neg (by omega)]; rfl)
    · exact v_throwX nb0 nb1 nb2 nb5 th_nse rfl dX8_elected_20 dX8_elected_23 dX8_elected_24 dX8_elected_26 dX8_elected_29 (by decide) (Nat.le_of_ble_eq_true rfl) (by decide) (by decide) ⟨by unfold elR; rw [if_pos (by omega)]; rfl, S_eta hno, by unfold elR; rw [if_pos (by omega)]; rfl, rfl⟩
