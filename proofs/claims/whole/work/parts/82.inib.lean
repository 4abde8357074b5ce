/-! BEGINNINGS: history, the class, the model -/
set_option maxRecDepth 100000 in
set_option maxHeartbeats 4000000 in
theorem i_X4 {l : Launch} {g : GV} {S : SS} {I : II} {X : XX} {a : Nat} (hfl : l.stackTraces = false) (hN0 : Nw S (a + 1) I) (hA0 : S.1[a]? = some (4, 2)) (hR0 : Rw S a (List.replicate 2 none)) (hlen : a + 250 < 800000) : CT l g mX4_init 2 249 2368 [.ref a] S I X (NQ S a 250 (fun S2 => isHis S2 a (fun i => a + 2 + 31 * i)) (hisM I a 8) X) := by
  have L : ∀ k : Nat, k ≤ 8 → ∀ S1 : SS, Nw S1 (a + 2 + 31 * k) (hisM I a k) → XB S S1 a → S1.1[a]? = some (4, 2) → S1.2.1 a 0 = some (a + 1) → S1.1[a + 1]? = some (23, 8) → (∀ i, i < k → S1.2.1 (a + 1) i = some (a + 2 + 31 * i) ∧ isEl S1 (a + 2 + 31 * i)) → V l g mX4_init 2 (Zm g (NQ S a 250 (fun S2 => isHis S2 a (fun i => a + 2 + 31 * i)) (hisM I a 8) X)) (31 * (8 - k)) (295 * (8 - k)) 15 [some (.ref a), some (.int (ii (k : Int)))] [] S1 (hisM I a k) X := by
    refine loop_up fun k hk ih => ?_
    intro S1 hN hB hA h0 h1 hEs
    refine v_iload_n dX4_init_15 rfl ?_
    refine v_bipush dX4_init_16 (by decide) ?_
    refine v_ic_ge (tgt := 40) dX4_init_18 (by decide) (fun h18 => ?_) (fun h18 => ?_)
    · have hk8 : k = 8 := by omega
      subst hk8
      exact y_ret dX4_init_40 rfl hN hB ⟨hA, h0, h1, fun i hi => ⟨(hEs i hi).1, (hEs i hi).2, by show a + 2 ≤ a + 2 + 31 * i; omega⟩⟩
    · have hk8 : k < 8 := by omega
      refine v_aload_n dX4_init_21 rfl ?_
      refine v_getr dX4_init_22 fr_X4_11 hA (by decide) rfl h0 ?_
      refine v_iload_n dX4_init_25 rfl ?_
      refine y_new (b := a + 2 + 31 * k) (bc2 := 30 + 31 * (8 - (k + 1))) (bs2 := 287 + 295 * (8 - (k + 1))) dX4_init_26 nw_X4_9 hN (by omega) (by omega) (by omega) (fun S2 hN2 hB2 hQ2 hC2 => ?_)
      refine v_dup dX4_init_29 rfl ?_
      refine y_cI0 (a := a + 2 + 31 * k) (m := 31) (bc2 := 31 * (8 - (k + 1))) (bs2 := 295 * (8 - (k + 1))) dX4_init_30 lk_X4_17 hN2.1 (i_X2 hfl hN2 hC2 hQ2 (by omega)) (by decide) (Nat.le_of_ble_eq_true rfl) rfl rfl (fun S3 hN3 hB3 hP3 => ?_) rfl rfl rfl
      have h12 := hB2.tr hB3 (Nat.le_refl _)
      refine y_aast (a := a + 1) (j := k) (m := 8) dX4_init_33 ((h12 (a + 1) (by omega)).1.trans h1) hP3.1 rfl hk8 hN3 (by omega) (fun S4 hN4 hX4 hs4 ho4 => ?_)
      refine v_iinc1 dX4_init_34 rfl ?_
      refine v_goto (tgt := 15) dX4_init_37 (by decide) ?_
      have h14 : Xq S1 S4 (a + 1) (a + 2 + 31 * k) := h12.xq.tr hX4 (by omega)
      refine ih (k + 1) (by omega) (by omega) S4 ?_ ?_ ?_ ?_ ?_ ?_
      · exact hN4
      · exact hB.tr (h14.le (n := a) (by omega) |>.xb (by omega)) (Nat.le_refl _)
      · exact (h14 a (by omega)).1.trans hA
      · exact ((h14 a (by omega)).2 (by omega) 0).trans h0
      · exact (h14 (a + 1) (by omega)).1.trans h1
      · intro i hi
        by_cases hik : i = k
        · subst hik
          exact ⟨hs4, isEl_x hP3 hX4 (by omega) (by omega)⟩
        · exact ⟨(ho4 i hik).trans (((h12 (a + 1) (by omega)).2 i).trans (hEs i (by omega)).1), isEl_x (hEs i (by omega)).2 h14 (by omega) (by omega)⟩
  refine v_start hfl rfl (by decide) (Nat.le_of_ble_eq_true rfl) (ls := [some (.ref a), none]) rfl ?_
  refine v_aload_n dX4_init_0 rfl ?_
  refine v_obj dX4_init_1 oi_X4_3 (by decide) (Nat.le_of_ble_eq_true rfl) ?_
  refine v_aload_n dX4_init_4 rfl ?_
  refine v_bipush dX4_init_5 (by decide) ?_
  refine y_anew (b := a + 1) (n := 8) (bc2 := 248) (bs2 := 2360) dX4_init_7 cl_X4_9 hN0 rfl (by decide) (by omega) rfl rfl (fun S1 hN1 hB1 hC1 => ?_)
  have hA1 := (hB1 a (by omega)).1.trans hA0
  have hR1 := hR0.xb hB1 (by omega : a < a + 1)
  refine y_putF (n := a + 2) dX4_init_10 fr_X4_11 hA1 (by decide) rfl rfl rfl ⟨rfl, rfl⟩ hN1 hR1 (by simp) (by omega) (fun S2 hN2 hX2 hR2 => ?_)
  refine v_iconst dX4_init_13 ?_
  refine v_istn1 dX4_init_14 rfl ?_
  exact L 0 (by omega) S2 hN2 (hB1.le (by omega) |>.tr (hX2.le (n := a) (by omega) |>.xb (by omega)) (Nat.le_refl _)) ((hX2 a (by omega)).1.trans hA1) ((hR2 0).trans rfl) ((hX2 (a + 1) (by omega)).1.trans hC1) (fun i hi => by omega)

set_option maxRecDepth 100000 in
set_option maxHeartbeats 4000000 in
theorem i_X8 {l : Launch} {g : GV} {S : SS} {I : II} {X : XX} (hfl : l.stackTraces = false) (hN0 : Nw S 1 I) (hA0 : S.1[0]? = some (8, 14)) (hR0 : Rw S 0 (List.replicate 14 none)) : CT l g mX8_init 3 507 5422 [.ref 0] S I X (NQ S 0 508 (fun S2 => LC S2 (fun k => 203 + 31 * k)) (startM (hisM (up (startM (startM (startM I 1 3 1) 32 3 1) 63 3 1) 198 5 (-1)) 201 8) 464 3 1) X) := by
  refine v_start hfl rfl (by decide) (Nat.le_of_ble_eq_true rfl) (ls := [some (.ref 0)]) rfl ?_
  refine v_aload_n dX8_init_0 rfl ?_
  refine v_obj dX8_init_1 oi_X8_1 (by decide) (Nat.le_of_ble_eq_true rfl) ?_
  refine v_aload_n dX8_init_4 rfl ?_
  refine y_new (b := 1) (bc2 := 506) (bs2 := 5414) dX8_init_5 nw_X8_7 hN0 (by omega) rfl rfl (fun S1 hN1 hB1 hQ1 hC1 => ?_)
  have hN1 : Nw S1 (2) I := hN1
  have hA1 := (hB1 (0) (by omega)).1.trans hA0
  have hR1 := hR0.xb hB1 (by omega : 0 < 1)
  have hX1 : Xq S S1 (0) (1) := XB.xq hB1
  refine v_dup dX8_init_8 rfl ?_
  refine y_cI0 (a := 1) (m := 31) (bc2 := 476) (bs2 := 5127) dX8_init_9 lk_X8_9 hN1.1 (i_X2 hfl hN1 hC1 hQ1 (by omega)) (by decide) (Nat.le_of_ble_eq_true rfl) rfl rfl (fun S2 hN2 hB2 hP2 => ?_) rfl rfl rfl
  have hN2 : Nw S2 (32) (startM I (1) 3 1) := hN2
  have hA2 := (hB2 (0) (by omega)).1.trans hA1
  have hR2 := hR1.xb hB2 (by omega : 0 < 1)
  have hX2 : Xq S1 S2 (0) (1) := XB.xq hB2
  refine y_putF (n := 32) dX8_init_12 fr_X8_10 hA2 (by decide) rfl rfl rfl ⟨rfl, rfl⟩ hN2 hR2 (by simp) (by omega) (fun S3 hN3 hX3 hR3 => ?_)
  have hA3 := (hX3 (0) (by omega)).1.trans hA2
  refine v_aload_n dX8_init_15 rfl ?_
  refine y_new (b := 32) (bc2 := 475) (bs2 := 5119) dX8_init_16 nw_X8_7 hN3 (by omega) rfl rfl (fun S4 hN4 hB4 hQ4 hC4 => ?_)
  have hN4 : Nw S4 (33) (startM I (1) 3 1) := hN4
  have hA4 := (hB4 (0) (by omega)).1.trans hA3
  have hR4 := hR3.xb hB4 (by omega : 0 < 32)
  have hX4 : Xq S3 S4 (0) (32) := XB.xq hB4
  refine v_dup dX8_init_19 rfl ?_
  refine y_cI0 (a := 32) (m := 31) (bc2 := 445) (bs2 := 4832) dX8_init_20 lk_X8_9 hN4.1 (i_X2 hfl hN4 hC4 hQ4 (by omega)) (by decide) (Nat.le_of_ble_eq_true rfl) rfl rfl (fun S5 hN5 hB5 hP5 => ?_) rfl rfl rfl
  have hN5 : Nw S5 (63) (startM (startM I (1) 3 1) (32) 3 1) := hN5
  have hA5 := (hB5 (0) (by omega)).1.trans hA4
  have hR5 := hR4.xb hB5 (by omega : 0 < 32)
  have hX5 : Xq S4 S5 (0) (32) := XB.xq hB5
  refine y_putF (n := 63) dX8_init_23 fr_X8_16 hA5 (by decide) rfl rfl rfl ⟨rfl, rfl⟩ hN5 hR5 (by simp) (by omega) (fun S6 hN6 hX6 hR6 => ?_)
  have hA6 := (hX6 (0) (by omega)).1.trans hA5
  refine v_aload_n dX8_init_26 rfl ?_
  refine y_new (b := 63) (bc2 := 444) (bs2 := 4824) dX8_init_27 nw_X8_7 hN6 (by omega) rfl rfl (fun S7 hN7 hB7 hQ7 hC7 => ?_)
  have hN7 : Nw S7 (64) (startM (startM I (1) 3 1) (32) 3 1) := hN7
  have hA7 := (hB7 (0) (by omega)).1.trans hA6
  have hR7 := hR6.xb hB7 (by omega : 0 < 63)
  have hX7 : Xq S6 S7 (0) (63) := XB.xq hB7
  refine v_dup dX8_init_30 rfl ?_
  refine y_cI0 (a := 63) (m := 31) (bc2 := 414) (bs2 := 4537) dX8_init_31 lk_X8_9 hN7.1 (i_X2 hfl hN7 hC7 hQ7 (by omega)) (by decide) (Nat.le_of_ble_eq_true rfl) rfl rfl (fun S8 hN8 hB8 hP8 => ?_) rfl rfl rfl
  have hN8 : Nw S8 (94) (startM (startM (startM I (1) 3 1) (32) 3 1) (63) 3 1) := hN8
  have hA8 := (hB8 (0) (by omega)).1.trans hA7
  have hR8 := hR7.xb hB8 (by omega : 0 < 63)
  have hX8 : Xq S7 S8 (0) (63) := XB.xq hB8
  refine y_putF (n := 94) dX8_init_34 fr_X8_19 hA8 (by decide) rfl rfl rfl ⟨rfl, rfl⟩ hN8 hR8 (by simp) (by omega) (fun S9 hN9 hX9 hR9 => ?_)
  have hA9 := (hX9 (0) (by omega)).1.trans hA8
  refine v_aload_n dX8_init_37 rfl ?_
  refine y_new (b := 94) (bc2 := 413) (bs2 := 4521) dX8_init_38 nw_X8_22 hN9 (by omega) rfl rfl (fun S10 hN10 hB10 hQ10 hC10 => ?_)
  have hN10 : Nw S10 (95) (startM (startM (startM I (1) 3 1) (32) 3 1) (63) 3 1) := hN10
  have hA10 := (hB10 (0) (by omega)).1.trans hA9
  have hR10 := hR9.xb hB10 (by omega : 0 < 94)
  have hX10 : Xq S9 S10 (0) (94) := XB.xq hB10
  refine v_dup dX8_init_41 rfl ?_
  refine v_aload_n dX8_init_42 rfl ?_
  refine v_getr dX8_init_43 fr_X8_10 hA10 (by decide) rfl ((hR10 0).trans rfl) ?_
  refine y_cI1 (a := 94) (m := 52) (bc2 := 362) (bs2 := 3740) dX8_init_46 lk_X8_24 hN10.1 (i_X1 hfl hN10 hC10 hQ10 (by omega) (isEl_x (isEl_x (isEl_x (isEl_x (isEl_x (isEl_x (isEl_x (isEl_x (hP2) hX3 (by omega) (by omega)) hX4 (by omega) (by omega)) hX5 (by omega) (by omega)) hX6 (by omega) (by omega)) hX7 (by omega) (by omega)) hX8 (by omega) (by omega)) hX9 (by omega) (by omega)) hX10 (by omega) (by omega)) (by omega)) (by decide) (Nat.le_of_ble_eq_true rfl) rfl rfl (fun S11 hN11 hB11 hP11 => ?_) rfl rfl rfl
  have hN11 : Nw S11 (146) (startM (startM (startM I (1) 3 1) (32) 3 1) (63) 3 1) := hN11
  have hA11 := (hB11 (0) (by omega)).1.trans hA10
  have hR11 := hR10.xb hB11 (by omega : 0 < 94)
  have hX11 : Xq S10 S11 (0) (94) := XB.xq hB11
  refine y_putF (n := 146) dX8_init_49 fr_X8_27 hA11 (by decide) rfl rfl rfl ⟨rfl, rfl⟩ hN11 hR11 (by simp) (by omega) (fun S12 hN12 hX12 hR12 => ?_)
  have hA12 := (hX12 (0) (by omega)).1.trans hA11
  refine v_aload_n dX8_init_52 rfl ?_
  refine y_new (b := 146) (bc2 := 361) (bs2 := 3724) dX8_init_53 nw_X8_22 hN12 (by omega) rfl rfl (fun S13 hN13 hB13 hQ13 hC13 => ?_)
  have hN13 : Nw S13 (147) (startM (startM (startM I (1) 3 1) (32) 3 1) (63) 3 1) := hN13
  have hA13 := (hB13 (0) (by omega)).1.trans hA12
  have hR13 := hR12.xb hB13 (by omega : 0 < 146)
  have hX13 : Xq S12 S13 (0) (146) := XB.xq hB13
  refine v_dup dX8_init_56 rfl ?_
  refine v_aload_n dX8_init_57 rfl ?_
  refine v_getr dX8_init_58 fr_X8_19 hA13 (by decide) rfl ((hR13 2).trans rfl) ?_
  refine y_cI1 (a := 146) (m := 52) (bc2 := 310) (bs2 := 2943) dX8_init_61 lk_X8_24 hN13.1 (i_X1 hfl hN13 hC13 hQ13 (by omega) (isEl_x (isEl_x (isEl_x (isEl_x (isEl_x (hP8) hX9 (by omega) (by omega)) hX10 (by omega) (by omega)) hX11 (by omega) (by omega)) hX12 (by omega) (by omega)) hX13 (by omega) (by omega)) (by omega)) (by decide) (Nat.le_of_ble_eq_true rfl) rfl rfl (fun S14 hN14 hB14 hP14 => ?_) rfl rfl rfl
  have hN14 : Nw S14 (198) (startM (startM (startM I (1) 3 1) (32) 3 1) (63) 3 1) := hN14
  have hA14 := (hB14 (0) (by omega)).1.trans hA13
  have hR14 := hR13.xb hB14 (by omega : 0 < 146)
  have hX14 : Xq S13 S14 (0) (146) := XB.xq hB14
  refine y_putF (n := 198) dX8_init_64 fr_X8_31 hA14 (by decide) rfl rfl rfl ⟨rfl, rfl⟩ hN14 hR14 (by simp) (by omega) (fun S15 hN15 hX15 hR15 => ?_)
  have hA15 := (hX15 (0) (by omega)).1.trans hA14
  refine v_aload_n dX8_init_67 rfl ?_
  refine y_new (b := 198) (bc2 := 309) (bs2 := 2937) dX8_init_68 nw_X8_34 hN15 (by omega) rfl rfl (fun S16 hN16 hB16 hQ16 hC16 => ?_)
  have hN16 : Nw S16 (199) (startM (startM (startM I (1) 3 1) (32) 3 1) (63) 3 1) := hN16
  have hA16 := (hB16 (0) (by omega)).1.trans hA15
  have hR16 := hR15.xb hB16 (by omega : 0 < 198)
  have hX16 : Xq S15 S16 (0) (198) := XB.xq hB16
  refine v_dup dX8_init_71 rfl ?_
  refine y_cI0 (a := 198) (m := 3) (bc2 := 307) (bs2 := 2869) dX8_init_72 lk_X8_36 hN16.1 (i_X7 hfl hN16 hC16 hQ16 (by omega)) (by decide) (Nat.le_of_ble_eq_true rfl) rfl rfl (fun S17 hN17 hB17 hP17 => ?_) rfl rfl rfl
  have hN17 : Nw S17 (201) (up (startM (startM (startM I (1) 3 1) (32) 3 1) (63) 3 1) (198) 5 (-1)) := hN17
  have hA17 := (hB17 (0) (by omega)).1.trans hA16
  have hR17 := hR16.xb hB17 (by omega : 0 < 198)
  have hX17 : Xq S16 S17 (0) (198) := XB.xq hB17
  refine y_putF (n := 201) dX8_init_75 fr_X8_37 hA17 (by decide) rfl rfl rfl ⟨rfl, rfl⟩ hN17 hR17 (by simp) (by omega) (fun S18 hN18 hX18 hR18 => ?_)
  have hA18 := (hX18 (0) (by omega)).1.trans hA17
  refine v_aload_n dX8_init_78 rfl ?_
  refine y_new (b := 201) (bc2 := 306) (bs2 := 2867) dX8_init_79 nw_X8_41 hN18 (by omega) rfl rfl (fun S19 hN19 hB19 hQ19 hC19 => ?_)
  have hN19 : Nw S19 (202) (up (startM (startM (startM I (1) 3 1) (32) 3 1) (63) 3 1) (198) 5 (-1)) := hN19
  have hA19 := (hB19 (0) (by omega)).1.trans hA18
  have hR19 := hR18.xb hB19 (by omega : 0 < 201)
  have hX19 : Xq S18 S19 (0) (201) := XB.xq hB19
  refine v_dup dX8_init_82 rfl ?_
  refine y_cI0 (a := 201) (m := 250) (bc2 := 57) (bs2 := 499) dX8_init_83 lk_X8_43 hN19.1 (i_X4 hfl hN19 hC19 hQ19 (by omega)) (by decide) (Nat.le_of_ble_eq_true rfl) rfl rfl (fun S20 hN20 hB20 hP20 => ?_) rfl rfl rfl
  have hN20 : Nw S20 (451) (hisM (up (startM (startM (startM I (1) 3 1) (32) 3 1) (63) 3 1) (198) 5 (-1)) (201) 8) := hN20
  have hA20 := (hB20 (0) (by omega)).1.trans hA19
  have hR20 := hR19.xb hB20 (by omega : 0 < 201)
  have hX20 : Xq S19 S20 (0) (201) := XB.xq hB20
  refine y_putF (n := 451) dX8_init_86 fr_X8_44 hA20 (by decide) rfl rfl rfl ⟨rfl, rfl⟩ hN20 hR20 (by simp) (by omega) (fun S21 hN21 hX21 hR21 => ?_)
  have hA21 := (hX21 (0) (by omega)).1.trans hA20
  refine v_aload_n dX8_init_89 rfl ?_
  refine y_new (b := 451) (bc2 := 56) (bs2 := 494) dX8_init_90 nw_X8_48 hN21 (by omega) rfl rfl (fun S22 hN22 hB22 hQ22 hC22 => ?_)
  have hN22 : Nw S22 (452) (hisM (up (startM (startM (startM I (1) 3 1) (32) 3 1) (63) 3 1) (198) 5 (-1)) (201) 8) := hN22
  have hA22 := (hB22 (0) (by omega)).1.trans hA21
  have hR22 := hR21.xb hB22 (by omega : 0 < 451)
  have hX22 : Xq S21 S22 (0) (451) := XB.xq hB22
  refine v_dup dX8_init_93 rfl ?_
  refine y_cI0 (a := 451) (m := 13) (bc2 := 44) (bs2 := 397) dX8_init_94 lk_X8_50 hN22.1 (i_X5 hfl hN22 hC22 hQ22 (by omega)) (by decide) (Nat.le_of_ble_eq_true rfl) rfl rfl (fun S23 hN23 hB23 hP23 => ?_) rfl rfl rfl
  have hN23 : Nw S23 (464) (hisM (up (startM (startM (startM I (1) 3 1) (32) 3 1) (63) 3 1) (198) 5 (-1)) (201) 8) := hN23
  have hA23 := (hB23 (0) (by omega)).1.trans hA22
  have hR23 := hR22.xb hB23 (by omega : 0 < 451)
  have hX23 : Xq S22 S23 (0) (451) := XB.xq hB23
  refine y_putF (n := 464) dX8_init_97 fr_X8_51 hA23 (by decide) rfl rfl rfl ⟨rfl, rfl⟩ hN23 hR23 (by simp) (by omega) (fun S24 hN24 hX24 hR24 => ?_)
  have hA24 := (hX24 (0) (by omega)).1.trans hA23
  refine v_aload_n dX8_init_100 rfl ?_
  refine y_new (b := 464) (bc2 := 43) (bs2 := 389) dX8_init_101 nw_X8_7 hN24 (by omega) rfl rfl (fun S25 hN25 hB25 hQ25 hC25 => ?_)
  have hN25 : Nw S25 (465) (hisM (up (startM (startM (startM I (1) 3 1) (32) 3 1) (63) 3 1) (198) 5 (-1)) (201) 8) := hN25
  have hA25 := (hB25 (0) (by omega)).1.trans hA24
  have hR25 := hR24.xb hB25 (by omega : 0 < 464)
  have hX25 : Xq S24 S25 (0) (464) := XB.xq hB25
  refine v_dup dX8_init_104 rfl ?_
  refine y_cI0 (a := 464) (m := 31) (bc2 := 13) (bs2 := 102) dX8_init_105 lk_X8_9 hN25.1 (i_X2 hfl hN25 hC25 hQ25 (by omega)) (by decide) (Nat.le_of_ble_eq_true rfl) rfl rfl (fun S26 hN26 hB26 hP26 => ?_) rfl rfl rfl
  have hN26 : Nw S26 (495) (startM (hisM (up (startM (startM (startM I (1) 3 1) (32) 3 1) (63) 3 1) (198) 5 (-1)) (201) 8) (464) 3 1) := hN26
  have hA26 := (hB26 (0) (by omega)).1.trans hA25
  have hR26 := hR25.xb hB26 (by omega : 0 < 464)
  have hX26 : Xq S25 S26 (0) (464) := XB.xq hB26
  refine y_putF (n := 495) dX8_init_108 fr_X8_55 hA26 (by decide) rfl rfl rfl ⟨rfl, rfl⟩ hN26 hR26 (by simp) (by omega) (fun S27 hN27 hX27 hR27 => ?_)
  have hA27 := (hX27 (0) (by omega)).1.trans hA26
  refine v_aload_n dX8_init_111 rfl ?_
  refine y_new (b := 495) (bc2 := 12) (bs2 := 97) dX8_init_112 nw_X8_48 hN27 (by omega) rfl rfl (fun S28 hN28 hB28 hQ28 hC28 => ?_)
  have hN28 : Nw S28 (496) (startM (hisM (up (startM (startM (startM I (1) 3 1) (32) 3 1) (63) 3 1) (198) 5 (-1)) (201) 8) (464) 3 1) := hN28
  have hA28 := (hB28 (0) (by omega)).1.trans hA27
  have hR28 := hR27.xb hB28 (by omega : 0 < 495)
  have hX28 : Xq S27 S28 (0) (495) := XB.xq hB28
  refine v_dup dX8_init_115 rfl ?_
  refine y_cI0 (a := 495) (m := 13) (bc2 := 0) (bs2 := 0) dX8_init_116 lk_X8_50 hN28.1 (i_X5 hfl hN28 hC28 hQ28 (by omega)) (by decide) (Nat.le_of_ble_eq_true rfl) rfl rfl (fun S29 hN29 hB29 hP29 => ?_) rfl rfl rfl
  have hN29 : Nw S29 (508) (startM (hisM (up (startM (startM (startM I (1) 3 1) (32) 3 1) (63) 3 1) (198) 5 (-1)) (201) 8) (464) 3 1) := hN29
  have hA29 := (hB29 (0) (by omega)).1.trans hA28
  have hR29 := hR28.xb hB29 (by omega : 0 < 495)
  have hX29 : Xq S28 S29 (0) (495) := XB.xq hB29
  refine y_putF (n := 508) dX8_init_119 fr_X8_58 hA29 (by decide) rfl rfl rfl ⟨rfl, rfl⟩ hN29 hR29 (by simp) (by omega) (fun S30 hN30 hX30 hR30 => ?_)
  have hA30 := (hX30 (0) (by omega)).1.trans hA29
  have Y29 := hX30
  have Y28 := hX29.tr Y29 (by omega)
  have Y27 := hX28.tr Y28 (by omega)
  have Y26 := hX27.tr Y27 (by omega)
  have Y25 := hX26.tr Y26 (by omega)
  have Y24 := hX25.tr Y25 (by omega)
  have Y23 := hX24.tr Y24 (by omega)
  have Y22 := hX23.tr Y23 (by omega)
  have Y21 := hX22.tr Y22 (by omega)
  have Y20 := hX21.tr Y21 (by omega)
  have Y19 := hX20.tr Y20 (by omega)
  have Y18 := hX19.tr Y19 (by omega)
  have Y17 := hX18.tr Y18 (by omega)
  have Y16 := hX17.tr Y17 (by omega)
  have Y15 := hX16.tr Y16 (by omega)
  have Y14 := hX15.tr Y15 (by omega)
  have Y13 := hX14.tr Y14 (by omega)
  have Y12 := hX13.tr Y13 (by omega)
  have Y11 := hX12.tr Y12 (by omega)
  have Y10 := hX11.tr Y11 (by omega)
  have Y9 := hX10.tr Y10 (by omega)
  have Y8 := hX9.tr Y9 (by omega)
  have Y7 := hX8.tr Y8 (by omega)
  have Y6 := hX7.tr Y7 (by omega)
  have Y5 := hX6.tr Y6 (by omega)
  have Y4 := hX5.tr Y5 (by omega)
  have Y3 := hX4.tr Y4 (by omega)
  have Y2 := hX3.tr Y3 (by omega)
  have Y1 := hX2.tr Y2 (by omega)
  have Y0 := hX1.tr Y1 (by omega)
  exact y_ret dX8_init_122 rfl hN30 (fun x hx => by omega) ⟨hA30, (hR30 0).trans rfl, (hR30 1).trans rfl, (hR30 2).trans rfl, (hR30 3).trans rfl, (hR30 4).trans rfl, (hR30 5).trans rfl, (hR30 6).trans rfl, (hR30 7).trans rfl, (hR30 8).trans rfl, (hR30 9).trans rfl, isEl_x hP2 Y2 (by omega) (by omega), isEl_x hP5 Y5 (by omega) (by omega), isCnt_x hP11 Y11 (by omega) (by omega) (by omega), isCnt_x hP14 Y14 (by omega) (by omega) (by omega), isTxt_x hP17 Y17 (by omega) (by omega), isHis_x hP20 Y20 (by omega) (by omega), isRes_x hP23 Y23 (by omega) (by omega), isEl_x hP26 Y26 (by omega) (by omega), isRes_x hP29 Y29 (by omega) (by omega)⟩

theorem stM_hi {J : II} {a : Int} {x : Nat} (h : 510 ≤ x) : stM J a x = J x := by
  have L : ∀ k : Nat, ∀ K : II, foldUp (fun k K => up K 509 (7 + k) (k : Int)) K k x = K x := by
    intro k
    induction k with
    | zero => intro K; rfl
    | succ k ih =>
      intro K
      show up _ 509 (7 + k) (k : Int) x = K x
      rw [up_ne (by omega)]; exact ih K
  unfold stM
  rw [up_ne (by omega), up_ne (by omega), up_ne (by omega), L, up_ne (by omega), up_ne (by omega), up_ne (by omega)]

set_option maxRecDepth 100000 in
set_option maxHeartbeats 4000000 in
theorem i_X9 {l : Launch} {g : GV} {S : SS} {I : II} {X : XX} (hfl : l.stackTraces = false) (hN0 : Nw S 509 I) (hA0 : S.1[508]? = some (9, 50)) (hR0 : Rw S 508 (List.replicate 50 none)) : CT l g mX9_init 1 32 5126 [.ref 508] S I X (NQ S 508 33 (fun S2 => isMod S2) (stM (up (up I 508 11 (-1)) 509 6 1) 3) X) := by
  refine v_start hfl rfl (by decide) (Nat.le_of_ble_eq_true rfl) (ls := [some (.ref 508)]) rfl ?_
  refine v_aload_n dX9_init_0 rfl ?_
  refine v_obj dX9_init_1 oi_X9_3 (by decide) (Nat.le_of_ble_eq_true rfl) ?_
  refine v_aload_n dX9_init_4 rfl ?_
  refine v_sipush dX9_init_5 (by decide) ?_
  refine y_newI (b := 509) (n := 265) (bc2 := 31) (bs2 := 4861) dX9_init_8 hN0 rfl (by decide) (by omega) rfl rfl (fun S1 hN1 hB1 hC1 => ?_)
  have hN1 : Nw S1 (510) I := hN1
  have hA1 := (hB1 (508) (by omega)).1.trans hA0
  have hR1 := hR0.xb hB1 (by omega : 508 < 509)
  have hX1 : Xq S S1 (508) (509) := XB.xq hB1
  refine y_putF (n := 510) dX9_init_10 fr_X9_9 hA1 (by decide) rfl rfl rfl ⟨rfl, rfl⟩ hN1 hR1 (by simp) (by omega) (fun S2 hN2 hX2 hR2 => ?_)
  have hA2 := (hX2 (508) (by omega)).1.trans hA1
  refine v_aload_n dX9_init_13 rfl ?_
  refine v_sipush dX9_init_14 (by decide) ?_
  refine y_newI (b := 510) (n := 265) (bc2 := 30) (bs2 := 4596) dX9_init_17 hN2 rfl (by decide) (by omega) rfl rfl (fun S3 hN3 hB3 hC3 => ?_)
  have hN3 : Nw S3 (511) I := hN3
  have hA3 := (hB3 (508) (by omega)).1.trans hA2
  have hR3 := hR2.xb hB3 (by omega : 508 < 510)
  have hX3 : Xq S2 S3 (508) (510) := XB.xq hB3
  refine y_putF (n := 511) dX9_init_19 fr_X9_13 hA3 (by decide) rfl rfl rfl ⟨rfl, rfl⟩ hN3 hR3 (by simp) (by omega) (fun S4 hN4 hX4 hR4 => ?_)
  have hA4 := (hX4 (508) (by omega)).1.trans hA3
  refine v_aload_n dX9_init_22 rfl ?_
  refine v_sipush dX9_init_23 (by decide) ?_
  refine y_newI (b := 511) (n := 2120) (bc2 := 29) (bs2 := 2476) dX9_init_26 hN4 rfl (by decide) (by omega) rfl rfl (fun S5 hN5 hB5 hC5 => ?_)
  have hN5 : Nw S5 (512) I := hN5
  have hA5 := (hB5 (508) (by omega)).1.trans hA4
  have hR5 := hR4.xb hB5 (by omega : 508 < 511)
  have hX5 : Xq S4 S5 (508) (511) := XB.xq hB5
  refine y_putF (n := 512) dX9_init_28 fr_X9_16 hA5 (by decide) rfl rfl rfl ⟨rfl, rfl⟩ hN5 hR5 (by simp) (by omega) (fun S6 hN6 hX6 hR6 => ?_)
  have hA6 := (hX6 (508) (by omega)).1.trans hA5
  refine v_aload_n dX9_init_31 rfl ?_
  refine v_sipush dX9_init_32 (by decide) ?_
  refine y_newI (b := 512) (n := 265) (bc2 := 28) (bs2 := 2211) dX9_init_35 hN6 rfl (by decide) (by omega) rfl rfl (fun S7 hN7 hB7 hC7 => ?_)
  have hN7 : Nw S7 (513) I := hN7
  have hA7 := (hB7 (508) (by omega)).1.trans hA6
  have hR7 := hR6.xb hB7 (by omega : 508 < 512)
  have hX7 : Xq S6 S7 (508) (512) := XB.xq hB7
  refine y_putF (n := 513) dX9_init_37 fr_X9_19 hA7 (by decide) rfl rfl rfl ⟨rfl, rfl⟩ hN7 hR7 (by simp) (by omega) (fun S8 hN8 hX8 hR8 => ?_)
  have hA8 := (hX8 (508) (by omega)).1.trans hA7
  refine v_aload_n dX9_init_40 rfl ?_
  refine v_bipush dX9_init_41 (by decide) ?_
  refine y_newI (b := 513) (n := 60) (bc2 := 27) (bs2 := 2151) dX9_init_43 hN8 rfl (by decide) (by omega) rfl rfl (fun S9 hN9 hB9 hC9 => ?_)
  have hN9 : Nw S9 (514) I := hN9
  have hA9 := (hB9 (508) (by omega)).1.trans hA8
  have hR9 := hR8.xb hB9 (by omega : 508 < 513)
  have hX9 : Xq S8 S9 (508) (513) := XB.xq hB9
  refine y_putF (n := 514) dX9_init_45 fr_X9_22 hA9 (by decide) rfl rfl rfl ⟨rfl, rfl⟩ hN9 hR9 (by simp) (by omega) (fun S10 hN10 hX10 hR10 => ?_)
  have hA10 := (hX10 (508) (by omega)).1.trans hA9
  refine v_aload_n dX9_init_48 rfl ?_
  refine v_iconst dX9_init_49 ?_
  refine v_puti dX9_init_50 fr_X9_25 hA10 (by decide) rfl ?_
  have hN10 := hN10.up (a := 508) (k := 11) (z := (-1 : Int)) (by omega)
  refine v_aload_n dX9_init_53 rfl ?_
  refine v_bipush dX9_init_54 (by decide) ?_
  refine y_newI (b := 514) (n := 8) (bc2 := 26) (bs2 := 2143) dX9_init_56 hN10 rfl (by decide) (by omega) rfl rfl (fun S11 hN11 hB11 hC11 => ?_)
  have hN11 : Nw S11 (515) (up I (508) 11 (-1)) := hN11
  have hA11 := (hB11 (508) (by omega)).1.trans hA10
  have hR11 := hR10.xb hB11 (by omega : 508 < 514)
  have hX11 : Xq S10 S11 (508) (514) := XB.xq hB11
  refine y_putF (n := 515) dX9_init_58 fr_X9_29 hA11 (by decide) rfl rfl rfl ⟨rfl, rfl⟩ hN11 hR11 (by simp) (by omega) (fun S12 hN12 hX12 hR12 => ?_)
  have hA12 := (hX12 (508) (by omega)).1.trans hA11
  refine v_aload_n dX9_init_61 rfl ?_
  refine v_sipush dX9_init_62 (by decide) ?_
  refine y_newI (b := 515) (n := 192) (bc2 := 25) (bs2 := 1951) dX9_init_65 hN12 rfl (by decide) (by omega) rfl rfl (fun S13 hN13 hB13 hC13 => ?_)
  have hN13 : Nw S13 (516) (up I (508) 11 (-1)) := hN13
  have hA13 := (hB13 (508) (by omega)).1.trans hA12
  have hR13 := hR12.xb hB13 (by omega : 508 < 515)
  have hX13 : Xq S12 S13 (508) (515) := XB.xq hB13
  refine y_putF (n := 516) dX9_init_67 fr_X9_32 hA13 (by decide) rfl rfl rfl ⟨rfl, rfl⟩ hN13 hR13 (by simp) (by omega) (fun S14 hN14 hX14 hR14 => ?_)
  have hA14 := (hX14 (508) (by omega)).1.trans hA13
  refine v_aload_n dX9_init_70 rfl ?_
  refine v_bipush dX9_init_71 (by decide) ?_
  refine y_newI (b := 516) (n := 24) (bc2 := 24) (bs2 := 1927) dX9_init_73 hN14 rfl (by decide) (by omega) rfl rfl (fun S15 hN15 hB15 hC15 => ?_)
  have hN15 : Nw S15 (517) (up I (508) 11 (-1)) := hN15
  have hA15 := (hB15 (508) (by omega)).1.trans hA14
  have hR15 := hR14.xb hB15 (by omega : 508 < 516)
  have hX15 : Xq S14 S15 (508) (516) := XB.xq hB15
  refine y_putF (n := 517) dX9_init_75 fr_X9_35 hA15 (by decide) rfl rfl rfl ⟨rfl, rfl⟩ hN15 hR15 (by simp) (by omega) (fun S16 hN16 hX16 hR16 => ?_)
  have hA16 := (hX16 (508) (by omega)).1.trans hA15
  refine v_aload_n dX9_init_78 rfl ?_
  refine v_bipush dX9_init_79 (by decide) ?_
  refine y_newI (b := 517) (n := 24) (bc2 := 23) (bs2 := 1903) dX9_init_81 hN16 rfl (by decide) (by omega) rfl rfl (fun S17 hN17 hB17 hC17 => ?_)
  have hN17 : Nw S17 (518) (up I (508) 11 (-1)) := hN17
  have hA17 := (hB17 (508) (by omega)).1.trans hA16
  have hR17 := hR16.xb hB17 (by omega : 508 < 517)
  have hX17 : Xq S16 S17 (508) (517) := XB.xq hB17
  refine y_putF (n := 518) dX9_init_83 fr_X9_38 hA17 (by decide) rfl rfl rfl ⟨rfl, rfl⟩ hN17 hR17 (by simp) (by omega) (fun S18 hN18 hX18 hR18 => ?_)
  have hA18 := (hX18 (508) (by omega)).1.trans hA17
  refine v_aload_n dX9_init_86 rfl ?_
  refine v_bipush dX9_init_87 (by decide) ?_
  refine y_newI (b := 518) (n := 24) (bc2 := 22) (bs2 := 1879) dX9_init_89 hN18 rfl (by decide) (by omega) rfl rfl (fun S19 hN19 hB19 hC19 => ?_)
  have hN19 : Nw S19 (519) (up I (508) 11 (-1)) := hN19
  have hA19 := (hB19 (508) (by omega)).1.trans hA18
  have hR19 := hR18.xb hB19 (by omega : 508 < 518)
  have hX19 : Xq S18 S19 (508) (518) := XB.xq hB19
  refine y_putF (n := 519) dX9_init_91 fr_X9_41 hA19 (by decide) rfl rfl rfl ⟨rfl, rfl⟩ hN19 hR19 (by simp) (by omega) (fun S20 hN20 hX20 hR20 => ?_)
  have hA20 := (hX20 (508) (by omega)).1.trans hA19
  refine v_aload_n dX9_init_94 rfl ?_
  refine v_bipush dX9_init_95 (by decide) ?_
  refine y_newI (b := 519) (n := 24) (bc2 := 21) (bs2 := 1855) dX9_init_97 hN20 rfl (by decide) (by omega) rfl rfl (fun S21 hN21 hB21 hC21 => ?_)
  have hN21 : Nw S21 (520) (up I (508) 11 (-1)) := hN21
  have hA21 := (hB21 (508) (by omega)).1.trans hA20
  have hR21 := hR20.xb hB21 (by omega : 508 < 519)
  have hX21 : Xq S20 S21 (508) (519) := XB.xq hB21
  refine y_putF (n := 520) dX9_init_99 fr_X9_44 hA21 (by decide) rfl rfl rfl ⟨rfl, rfl⟩ hN21 hR21 (by simp) (by omega) (fun S22 hN22 hX22 hR22 => ?_)
  have hA22 := (hX22 (508) (by omega)).1.trans hA21
  refine v_aload_n dX9_init_102 rfl ?_
  refine v_bipush dX9_init_103 (by decide) ?_
  refine y_newI (b := 520) (n := 24) (bc2 := 20) (bs2 := 1831) dX9_init_105 hN22 rfl (by decide) (by omega) rfl rfl (fun S23 hN23 hB23 hC23 => ?_)
  have hN23 : Nw S23 (521) (up I (508) 11 (-1)) := hN23
  have hA23 := (hB23 (508) (by omega)).1.trans hA22
  have hR23 := hR22.xb hB23 (by omega : 508 < 520)
  have hX23 : Xq S22 S23 (508) (520) := XB.xq hB23
  refine y_putF (n := 521) dX9_init_107 fr_X9_47 hA23 (by decide) rfl rfl rfl ⟨rfl, rfl⟩ hN23 hR23 (by simp) (by omega) (fun S24 hN24 hX24 hR24 => ?_)
  have hA24 := (hX24 (508) (by omega)).1.trans hA23
  refine v_aload_n dX9_init_110 rfl ?_
  refine v_bipush dX9_init_111 (by decide) ?_
  refine y_newI (b := 521) (n := 24) (bc2 := 19) (bs2 := 1807) dX9_init_113 hN24 rfl (by decide) (by omega) rfl rfl (fun S25 hN25 hB25 hC25 => ?_)
  have hN25 : Nw S25 (522) (up I (508) 11 (-1)) := hN25
  have hA25 := (hB25 (508) (by omega)).1.trans hA24
  have hR25 := hR24.xb hB25 (by omega : 508 < 521)
  have hX25 : Xq S24 S25 (508) (521) := XB.xq hB25
  refine y_putF (n := 522) dX9_init_115 fr_X9_50 hA25 (by decide) rfl rfl rfl ⟨rfl, rfl⟩ hN25 hR25 (by simp) (by omega) (fun S26 hN26 hX26 hR26 => ?_)
  have hA26 := (hX26 (508) (by omega)).1.trans hA25
  refine v_aload_n dX9_init_118 rfl ?_
  refine v_bipush dX9_init_119 (by decide) ?_
  refine y_newI (b := 522) (n := 24) (bc2 := 18) (bs2 := 1783) dX9_init_121 hN26 rfl (by decide) (by omega) rfl rfl (fun S27 hN27 hB27 hC27 => ?_)
  have hN27 : Nw S27 (523) (up I (508) 11 (-1)) := hN27
  have hA27 := (hB27 (508) (by omega)).1.trans hA26
  have hR27 := hR26.xb hB27 (by omega : 508 < 522)
  have hX27 : Xq S26 S27 (508) (522) := XB.xq hB27
  refine y_putF (n := 523) dX9_init_123 fr_X9_53 hA27 (by decide) rfl rfl rfl ⟨rfl, rfl⟩ hN27 hR27 (by simp) (by omega) (fun S28 hN28 hX28 hR28 => ?_)
  have hA28 := (hX28 (508) (by omega)).1.trans hA27
  refine v_aload_n dX9_init_126 rfl ?_
  refine v_sipush dX9_init_127 (by decide) ?_
  refine y_newI (b := 523) (n := 600) (bc2 := 17) (bs2 := 1183) dX9_init_130 hN28 rfl (by decide) (by omega) rfl rfl (fun S29 hN29 hB29 hC29 => ?_)
  have hN29 : Nw S29 (524) (up I (508) 11 (-1)) := hN29
  have hA29 := (hB29 (508) (by omega)).1.trans hA28
  have hR29 := hR28.xb hB29 (by omega : 508 < 523)
  have hX29 : Xq S28 S29 (508) (523) := XB.xq hB29
  refine y_putF (n := 524) dX9_init_132 fr_X9_56 hA29 (by decide) rfl rfl rfl ⟨rfl, rfl⟩ hN29 hR29 (by simp) (by omega) (fun S30 hN30 hX30 hR30 => ?_)
  have hA30 := (hX30 (508) (by omega)).1.trans hA29
  refine v_aload_n dX9_init_135 rfl ?_
  refine v_sipush dX9_init_136 (by decide) ?_
  refine y_newI (b := 524) (n := 600) (bc2 := 16) (bs2 := 583) dX9_init_139 hN30 rfl (by decide) (by omega) rfl rfl (fun S31 hN31 hB31 hC31 => ?_)
  have hN31 : Nw S31 (525) (up I (508) 11 (-1)) := hN31
  have hA31 := (hB31 (508) (by omega)).1.trans hA30
  have hR31 := hR30.xb hB31 (by omega : 508 < 524)
  have hX31 : Xq S30 S31 (508) (524) := XB.xq hB31
  refine y_putF (n := 525) dX9_init_141 fr_X9_59 hA31 (by decide) rfl rfl rfl ⟨rfl, rfl⟩ hN31 hR31 (by simp) (by omega) (fun S32 hN32 hX32 hR32 => ?_)
  have hA32 := (hX32 (508) (by omega)).1.trans hA31
  refine v_aload_n dX9_init_144 rfl ?_
  refine v_bipush dX9_init_145 (by decide) ?_
  refine y_newI (b := 525) (n := 8) (bc2 := 15) (bs2 := 575) dX9_init_147 hN32 rfl (by decide) (by omega) rfl rfl (fun S33 hN33 hB33 hC33 => ?_)
  have hN33 : Nw S33 (526) (up I (508) 11 (-1)) := hN33
  have hA33 := (hB33 (508) (by omega)).1.trans hA32
  have hR33 := hR32.xb hB33 (by omega : 508 < 525)
  have hX33 : Xq S32 S33 (508) (525) := XB.xq hB33
  refine y_putF (n := 526) dX9_init_149 fr_X9_62 hA33 (by decide) rfl rfl rfl ⟨rfl, rfl⟩ hN33 hR33 (by simp) (by omega) (fun S34 hN34 hX34 hR34 => ?_)
  have hA34 := (hX34 (508) (by omega)).1.trans hA33
  refine v_aload_n dX9_init_152 rfl ?_
  refine v_bipush dX9_init_153 (by decide) ?_
  refine y_newI (b := 526) (n := 8) (bc2 := 14) (bs2 := 567) dX9_init_155 hN34 rfl (by decide) (by omega) rfl rfl (fun S35 hN35 hB35 hC35 => ?_)
  have hN35 : Nw S35 (527) (up I (508) 11 (-1)) := hN35
  have hA35 := (hB35 (508) (by omega)).1.trans hA34
  have hR35 := hR34.xb hB35 (by omega : 508 < 526)
  have hX35 : Xq S34 S35 (508) (526) := XB.xq hB35
  refine y_putF (n := 527) dX9_init_157 fr_X9_65 hA35 (by decide) rfl rfl rfl ⟨rfl, rfl⟩ hN35 hR35 (by simp) (by omega) (fun S36 hN36 hX36 hR36 => ?_)
  have hA36 := (hX36 (508) (by omega)).1.trans hA35
  refine v_aload_n dX9_init_160 rfl ?_
  refine v_bipush dX9_init_161 (by decide) ?_
  refine y_newI (b := 527) (n := 8) (bc2 := 13) (bs2 := 559) dX9_init_163 hN36 rfl (by decide) (by omega) rfl rfl (fun S37 hN37 hB37 hC37 => ?_)
  have hN37 : Nw S37 (528) (up I (508) 11 (-1)) := hN37
  have hA37 := (hB37 (508) (by omega)).1.trans hA36
  have hR37 := hR36.xb hB37 (by omega : 508 < 527)
  have hX37 : Xq S36 S37 (508) (527) := XB.xq hB37
  refine y_putF (n := 528) dX9_init_165 fr_X9_68 hA37 (by decide) rfl rfl rfl ⟨rfl, rfl⟩ hN37 hR37 (by simp) (by omega) (fun S38 hN38 hX38 hR38 => ?_)
  have hA38 := (hX38 (508) (by omega)).1.trans hA37
  refine v_aload_n dX9_init_168 rfl ?_
  refine v_bipush dX9_init_169 (by decide) ?_
  refine y_newI (b := 528) (n := 8) (bc2 := 12) (bs2 := 551) dX9_init_171 hN38 rfl (by decide) (by omega) rfl rfl (fun S39 hN39 hB39 hC39 => ?_)
  have hN39 : Nw S39 (529) (up I (508) 11 (-1)) := hN39
  have hA39 := (hB39 (508) (by omega)).1.trans hA38
  have hR39 := hR38.xb hB39 (by omega : 508 < 528)
  have hX39 : Xq S38 S39 (508) (528) := XB.xq hB39
  refine y_putF (n := 529) dX9_init_173 fr_X9_71 hA39 (by decide) rfl rfl rfl ⟨rfl, rfl⟩ hN39 hR39 (by simp) (by omega) (fun S40 hN40 hX40 hR40 => ?_)
  have hA40 := (hX40 (508) (by omega)).1.trans hA39
  refine v_aload_n dX9_init_176 rfl ?_
  refine v_bipush dX9_init_177 (by decide) ?_
  refine y_newI (b := 529) (n := 8) (bc2 := 11) (bs2 := 543) dX9_init_179 hN40 rfl (by decide) (by omega) rfl rfl (fun S41 hN41 hB41 hC41 => ?_)
  have hN41 : Nw S41 (530) (up I (508) 11 (-1)) := hN41
  have hA41 := (hB41 (508) (by omega)).1.trans hA40
  have hR41 := hR40.xb hB41 (by omega : 508 < 529)
  have hX41 : Xq S40 S41 (508) (529) := XB.xq hB41
  refine y_putF (n := 530) dX9_init_181 fr_X9_74 hA41 (by decide) rfl rfl rfl ⟨rfl, rfl⟩ hN41 hR41 (by simp) (by omega) (fun S42 hN42 hX42 hR42 => ?_)
  have hA42 := (hX42 (508) (by omega)).1.trans hA41
  refine v_aload_n dX9_init_184 rfl ?_
  refine v_bipush dX9_init_185 (by decide) ?_
  refine y_newI (b := 530) (n := 8) (bc2 := 10) (bs2 := 535) dX9_init_187 hN42 rfl (by decide) (by omega) rfl rfl (fun S43 hN43 hB43 hC43 => ?_)
  have hN43 : Nw S43 (531) (up I (508) 11 (-1)) := hN43
  have hA43 := (hB43 (508) (by omega)).1.trans hA42
  have hR43 := hR42.xb hB43 (by omega : 508 < 530)
  have hX43 : Xq S42 S43 (508) (530) := XB.xq hB43
  refine y_putF (n := 531) dX9_init_189 fr_X9_77 hA43 (by decide) rfl rfl rfl ⟨rfl, rfl⟩ hN43 hR43 (by simp) (by omega) (fun S44 hN44 hX44 hR44 => ?_)
  have hA44 := (hX44 (508) (by omega)).1.trans hA43
  refine v_aload_n dX9_init_192 rfl ?_
  refine v_bipush dX9_init_193 (by decide) ?_
  refine y_newI (b := 531) (n := 8) (bc2 := 9) (bs2 := 527) dX9_init_195 hN44 rfl (by decide) (by omega) rfl rfl (fun S45 hN45 hB45 hC45 => ?_)
  have hN45 : Nw S45 (532) (up I (508) 11 (-1)) := hN45
  have hA45 := (hB45 (508) (by omega)).1.trans hA44
  have hR45 := hR44.xb hB45 (by omega : 508 < 531)
  have hX45 : Xq S44 S45 (508) (531) := XB.xq hB45
  refine y_putF (n := 532) dX9_init_197 fr_X9_80 hA45 (by decide) rfl rfl rfl ⟨rfl, rfl⟩ hN45 hR45 (by simp) (by omega) (fun S46 hN46 hX46 hR46 => ?_)
  have hA46 := (hX46 (508) (by omega)).1.trans hA45
  refine v_aload_n dX9_init_200 rfl ?_
  refine v_bipush dX9_init_201 (by decide) ?_
  refine y_newZ (b := 532) (n := 8) (bc2 := 8) (bs2 := 519) dX9_init_203 hN46 rfl (by decide) (by omega) rfl rfl (fun S47 hN47 hB47 hC47 => ?_)
  have hN47 : Nw S47 (533) (up I (508) 11 (-1)) := hN47
  have hA47 := (hB47 (508) (by omega)).1.trans hA46
  have hR47 := hR46.xb hB47 (by omega : 508 < 532)
  have hX47 : Xq S46 S47 (508) (532) := XB.xq hB47
  refine y_putF (n := 533) dX9_init_205 fr_X9_83 hA47 (by decide) rfl rfl rfl ⟨rfl, rfl⟩ hN47 hR47 (by simp) (by omega) (fun S48 hN48 hX48 hR48 => ?_)
  have hA48 := (hX48 (508) (by omega)).1.trans hA47
  refine v_aload_n dX9_init_208 rfl ?_
  refine v_bipush dX9_init_209 (by decide) ?_
  refine y_newI (b := 533) (n := 25) (bc2 := 7) (bs2 := 494) dX9_init_211 hN48 rfl (by decide) (by omega) rfl rfl (fun S49 hN49 hB49 hC49 => ?_)
  have hN49 : Nw S49 (534) (up I (508) 11 (-1)) := hN49
  have hA49 := (hB49 (508) (by omega)).1.trans hA48
  have hR49 := hR48.xb hB49 (by omega : 508 < 533)
  have hX49 : Xq S48 S49 (508) (533) := XB.xq hB49
  refine y_putF (n := 534) dX9_init_213 fr_X9_87 hA49 (by decide) rfl rfl rfl ⟨rfl, rfl⟩ hN49 hR49 (by simp) (by omega) (fun S50 hN50 hX50 hR50 => ?_)
  have hA50 := (hX50 (508) (by omega)).1.trans hA49
  refine v_aload_n dX9_init_216 rfl ?_
  refine v_bipush dX9_init_217 (by decide) ?_
  refine y_newI (b := 534) (n := 25) (bc2 := 6) (bs2 := 469) dX9_init_219 hN50 rfl (by decide) (by omega) rfl rfl (fun S51 hN51 hB51 hC51 => ?_)
  have hN51 : Nw S51 (535) (up I (508) 11 (-1)) := hN51
  have hA51 := (hB51 (508) (by omega)).1.trans hA50
  have hR51 := hR50.xb hB51 (by omega : 508 < 534)
  have hX51 : Xq S50 S51 (508) (534) := XB.xq hB51
  refine y_putF (n := 535) dX9_init_221 fr_X9_90 hA51 (by decide) rfl rfl rfl ⟨rfl, rfl⟩ hN51 hR51 (by simp) (by omega) (fun S52 hN52 hX52 hR52 => ?_)
  have hA52 := (hX52 (508) (by omega)).1.trans hA51
  refine v_aload_n dX9_init_224 rfl ?_
  refine v_bipush dX9_init_225 (by decide) ?_
  refine y_newI (b := 535) (n := 25) (bc2 := 5) (bs2 := 444) dX9_init_227 hN52 rfl (by decide) (by omega) rfl rfl (fun S53 hN53 hB53 hC53 => ?_)
  have hN53 : Nw S53 (536) (up I (508) 11 (-1)) := hN53
  have hA53 := (hB53 (508) (by omega)).1.trans hA52
  have hR53 := hR52.xb hB53 (by omega : 508 < 535)
  have hX53 : Xq S52 S53 (508) (535) := XB.xq hB53
  refine y_putF (n := 536) dX9_init_229 fr_X9_93 hA53 (by decide) rfl rfl rfl ⟨rfl, rfl⟩ hN53 hR53 (by simp) (by omega) (fun S54 hN54 hX54 hR54 => ?_)
  have hA54 := (hX54 (508) (by omega)).1.trans hA53
  refine v_aload_n dX9_init_232 rfl ?_
  refine v_bipush dX9_init_233 (by decide) ?_
  refine y_newI (b := 536) (n := 25) (bc2 := 4) (bs2 := 419) dX9_init_235 hN54 rfl (by decide) (by omega) rfl rfl (fun S55 hN55 hB55 hC55 => ?_)
  have hN55 : Nw S55 (537) (up I (508) 11 (-1)) := hN55
  have hA55 := (hB55 (508) (by omega)).1.trans hA54
  have hR55 := hR54.xb hB55 (by omega : 508 < 536)
  have hX55 : Xq S54 S55 (508) (536) := XB.xq hB55
  refine y_putF (n := 537) dX9_init_237 fr_X9_96 hA55 (by decide) rfl rfl rfl ⟨rfl, rfl⟩ hN55 hR55 (by simp) (by omega) (fun S56 hN56 hX56 hR56 => ?_)
  have hA56 := (hX56 (508) (by omega)).1.trans hA55
  refine v_aload_n dX9_init_240 rfl ?_
  refine v_sipush dX9_init_241 (by decide) ?_
  refine y_newI (b := 537) (n := 192) (bc2 := 3) (bs2 := 227) dX9_init_244 hN56 rfl (by decide) (by omega) rfl rfl (fun S57 hN57 hB57 hC57 => ?_)
  have hN57 : Nw S57 (538) (up I (508) 11 (-1)) := hN57
  have hA57 := (hB57 (508) (by omega)).1.trans hA56
  have hR57 := hR56.xb hB57 (by omega : 508 < 537)
  have hX57 : Xq S56 S57 (508) (537) := XB.xq hB57
  refine y_putF (n := 538) dX9_init_246 fr_X9_99 hA57 (by decide) rfl rfl rfl ⟨rfl, rfl⟩ hN57 hR57 (by simp) (by omega) (fun S58 hN58 hX58 hR58 => ?_)
  have hA58 := (hX58 (508) (by omega)).1.trans hA57
  refine v_aload_n dX9_init_249 rfl ?_
  refine v_bipush dX9_init_250 (by decide) ?_
  refine y_newI (b := 538) (n := 8) (bc2 := 2) (bs2 := 219) dX9_init_252 hN58 rfl (by decide) (by omega) rfl rfl (fun S59 hN59 hB59 hC59 => ?_)
  have hN59 : Nw S59 (539) (up I (508) 11 (-1)) := hN59
  have hA59 := (hB59 (508) (by omega)).1.trans hA58
  have hR59 := hR58.xb hB59 (by omega : 508 < 538)
  have hX59 : Xq S58 S59 (508) (538) := XB.xq hB59
  refine y_putF (n := 539) dX9_init_254 fr_X9_102 hA59 (by decide) rfl rfl rfl ⟨rfl, rfl⟩ hN59 hR59 (by simp) (by omega) (fun S60 hN60 hX60 hR60 => ?_)
  have hA60 := (hX60 (508) (by omega)).1.trans hA59
  refine v_aload_n dX9_init_257 rfl ?_
  refine v_bipush dX9_init_258 (by decide) ?_
  refine y_newI (b := 539) (n := 8) (bc2 := 1) (bs2 := 211) dX9_init_260 hN60 rfl (by decide) (by omega) rfl rfl (fun S61 hN61 hB61 hC61 => ?_)
  have hN61 : Nw S61 (540) (up I (508) 11 (-1)) := hN61
  have hA61 := (hB61 (508) (by omega)).1.trans hA60
  have hR61 := hR60.xb hB61 (by omega : 508 < 539)
  have hX61 : Xq S60 S61 (508) (539) := XB.xq hB61
  refine y_putF (n := 540) dX9_init_262 fr_X9_105 hA61 (by decide) rfl rfl rfl ⟨rfl, rfl⟩ hN61 hR61 (by simp) (by omega) (fun S62 hN62 hX62 hR62 => ?_)
  have hA62 := (hX62 (508) (by omega)).1.trans hA61
  refine v_aload_n dX9_init_265 rfl ?_
  refine v_sipush dX9_init_266 (by decide) ?_
  refine y_newI (b := 540) (n := 211) (bc2 := 0) (bs2 := 0) dX9_init_269 hN62 rfl (by decide) (by omega) rfl rfl (fun S63 hN63 hB63 hC63 => ?_)
  have hN63 : Nw S63 (541) (up I (508) 11 (-1)) := hN63
  have hA63 := (hB63 (508) (by omega)).1.trans hA62
  have hR63 := hR62.xb hB63 (by omega : 508 < 540)
  have hX63 : Xq S62 S63 (508) (540) := XB.xq hB63
  refine y_putF (n := 541) dX9_init_271 fr_X9_108 hA63 (by decide) rfl rfl rfl ⟨rfl, rfl⟩ hN63 hR63 (by simp) (by omega) (fun S64 hN64 hX64 hR64 => ?_)
  have hA64 := (hX64 (508) (by omega)).1.trans hA63
  have Y63 := hX64
  have Y62 := hX63.tr Y63 (by omega)
  have Y61 := hX62.tr Y62 (by omega)
  have Y60 := hX61.tr Y61 (by omega)
  have Y59 := hX60.tr Y60 (by omega)
  have Y58 := hX59.tr Y59 (by omega)
  have Y57 := hX58.tr Y58 (by omega)
  have Y56 := hX57.tr Y57 (by omega)
  have Y55 := hX56.tr Y56 (by omega)
  have Y54 := hX55.tr Y55 (by omega)
  have Y53 := hX54.tr Y54 (by omega)
  have Y52 := hX53.tr Y53 (by omega)
  have Y51 := hX52.tr Y52 (by omega)
  have Y50 := hX51.tr Y51 (by omega)
  have Y49 := hX50.tr Y50 (by omega)
  have Y48 := hX49.tr Y49 (by omega)
  have Y47 := hX48.tr Y48 (by omega)
  have Y46 := hX47.tr Y47 (by omega)
  have Y45 := hX46.tr Y46 (by omega)
  have Y44 := hX45.tr Y45 (by omega)
  have Y43 := hX44.tr Y44 (by omega)
  have Y42 := hX43.tr Y43 (by omega)
  have Y41 := hX42.tr Y42 (by omega)
  have Y40 := hX41.tr Y41 (by omega)
  have Y39 := hX40.tr Y40 (by omega)
  have Y38 := hX39.tr Y39 (by omega)
  have Y37 := hX38.tr Y38 (by omega)
  have Y36 := hX37.tr Y37 (by omega)
  have Y35 := hX36.tr Y36 (by omega)
  have Y34 := hX35.tr Y35 (by omega)
  have Y33 := hX34.tr Y34 (by omega)
  have Y32 := hX33.tr Y33 (by omega)
  have Y31 := hX32.tr Y32 (by omega)
  have Y30 := hX31.tr Y31 (by omega)
  have Y29 := hX30.tr Y30 (by omega)
  have Y28 := hX29.tr Y29 (by omega)
  have Y27 := hX28.tr Y28 (by omega)
  have Y26 := hX27.tr Y27 (by omega)
  have Y25 := hX26.tr Y26 (by omega)
  have Y24 := hX25.tr Y25 (by omega)
  have Y23 := hX24.tr Y24 (by omega)
  have Y22 := hX23.tr Y23 (by omega)
  have Y21 := hX22.tr Y22 (by omega)
  have Y20 := hX21.tr Y21 (by omega)
  have Y19 := hX20.tr Y20 (by omega)
  have Y18 := hX19.tr Y19 (by omega)
  have Y17 := hX18.tr Y18 (by omega)
  have Y16 := hX17.tr Y17 (by omega)
  have Y15 := hX16.tr Y16 (by omega)
  have Y14 := hX15.tr Y15 (by omega)
  have Y13 := hX14.tr Y14 (by omega)
  have Y12 := hX13.tr Y13 (by omega)
  have Y11 := hX12.tr Y12 (by omega)
  have Y10 := hX11.tr Y11 (by omega)
  have Y9 := hX10.tr Y10 (by omega)
  have Y8 := hX9.tr Y9 (by omega)
  have Y7 := hX8.tr Y8 (by omega)
  have Y6 := hX7.tr Y7 (by omega)
  have Y5 := hX6.tr Y6 (by omega)
  have Y4 := hX5.tr Y5 (by omega)
  have Y3 := hX4.tr Y4 (by omega)
  have Y2 := hX3.tr Y3 (by omega)
  have Y1 := hX2.tr Y2 (by omega)
  have Y0 := hX1.tr Y1 (by omega)
  have hM : isMod S64 := ⟨hA64, ⟨(hR64 0).trans rfl, (Y1 (509) (by omega)).1.trans hC1⟩, ⟨(hR64 1).trans rfl, (Y3 (510) (by omega)).1.trans hC3⟩, ⟨(hR64 2).trans rfl, (Y5 (511) (by omega)).1.trans hC5⟩, ⟨(hR64 4).trans rfl, (Y7 (512) (by omega)).1.trans hC7⟩, ⟨(hR64 7).trans rfl, (Y9 (513) (by omega)).1.trans hC9⟩, ⟨(hR64 12).trans rfl, (Y11 (514) (by omega)).1.trans hC11⟩, ⟨(hR64 16).trans rfl, (Y13 (515) (by omega)).1.trans hC13⟩, ⟨(hR64 17).trans rfl, (Y15 (516) (by omega)).1.trans hC15⟩, ⟨(hR64 18).trans rfl, (Y17 (517) (by omega)).1.trans hC17⟩, ⟨(hR64 19).trans rfl, (Y19 (518) (by omega)).1.trans hC19⟩, ⟨(hR64 20).trans rfl, (Y21 (519) (by omega)).1.trans hC21⟩, ⟨(hR64 21).trans rfl, (Y23 (520) (by omega)).1.trans hC23⟩, ⟨(hR64 22).trans rfl, (Y25 (521) (by omega)).1.trans hC25⟩, ⟨(hR64 23).trans rfl, (Y27 (522) (by omega)).1.trans hC27⟩, ⟨(hR64 24).trans rfl, (Y29 (523) (by omega)).1.trans hC29⟩, ⟨(hR64 25).trans rfl, (Y31 (524) (by omega)).1.trans hC31⟩, ⟨(hR64 26).trans rfl, (Y33 (525) (by omega)).1.trans hC33⟩, ⟨(hR64 27).trans rfl, (Y35 (526) (by omega)).1.trans hC35⟩, ⟨(hR64 28).trans rfl, (Y37 (527) (by omega)).1.trans hC37⟩, ⟨(hR64 29).trans rfl, (Y39 (528) (by omega)).1.trans hC39⟩, ⟨(hR64 30).trans rfl, (Y41 (529) (by omega)).1.trans hC41⟩, ⟨(hR64 31).trans rfl, (Y43 (530) (by omega)).1.trans hC43⟩, ⟨(hR64 33).trans rfl, (Y45 (531) (by omega)).1.trans hC45⟩, ⟨(hR64 34).trans rfl, (Y47 (532) (by omega)).1.trans hC47⟩, ⟨(hR64 35).trans rfl, (Y49 (533) (by omega)).1.trans hC49⟩, ⟨(hR64 36).trans rfl, (Y51 (534) (by omega)).1.trans hC51⟩, ⟨(hR64 37).trans rfl, (Y53 (535) (by omega)).1.trans hC53⟩, ⟨(hR64 38).trans rfl, (Y55 (536) (by omega)).1.trans hC55⟩, ⟨(hR64 46).trans rfl, (Y57 (537) (by omega)).1.trans hC57⟩, ⟨(hR64 47).trans rfl, (Y59 (538) (by omega)).1.trans hC59⟩, ⟨(hR64 48).trans rfl, (Y61 (539) (by omega)).1.trans hC61⟩, ⟨(hR64 49).trans rfl, (Y63 (540) (by omega)).1.trans hC63⟩⟩
  refine v_aload_n dX9_init_274 rfl ?_
  refine v_getr dX9_init_275 fr_X9_9 hA64 (by decide) rfl ((hR64 0).trans rfl) ?_
  refine v_bipush dX9_init_278 (by decide) ?_
  refine v_iconst dX9_init_280 ?_
  refine v_iast (j := 6) dX9_init_281 ((Y1 (509) (by omega)).1.trans hC1) rfl (by decide) ?_
  refine v_aload_n dX9_init_282 rfl ?_
  refine v_iconst dX9_init_283 ?_
  refine v_cV1n dX9_init_284 lk_X9_111 hA64 (by decide) rfl (k_start hfl hM) (by decide) (Nat.le_of_ble_eq_true rfl) ?_ rfl
  exact y_ret dX9_init_287 rfl ⟨hN64.1, hN64.2.1, hN64.2.2.1, fun x j hx => by rw [stM_hi (by omega), up_ne (by omega)]; exact hN64.2.2.2 x j hx⟩ (fun x hx => ⟨(Y0 x (by omega)).1, (Y0 x (by omega)).2 (by omega)⟩) hM
