/-! BEGINNINGS: the constructors of the class, leaves first -/
set_option maxRecDepth 100000 in
set_option maxHeartbeats 4000000 in
theorem i_X0 {l : Launch} {g : GV} {S : SS} {I : II} {X : XX} {a : Nat} {e r : Nat} (hfl : l.stackTraces = false) (hN0 : Nw S (a + 1) I) (hA0 : S.1[a]? = some (0, 4)) (hR0 : Rw S a (List.replicate 4 none)) (hlen : a + 1 < 800000) : CT l g mX0_init 1 0 0 [.ref a, .ref e, .ref r] S I X (NQ S a 1 (fun S2 => isChs S2 a e r) I X) := by
  refine v_start hfl rfl (by decide) (Nat.le_of_ble_eq_true rfl) (ls := [some (.ref a), some (.ref e), some (.ref r)]) rfl ?_
  refine v_aload_n dX0_init_0 rfl ?_
  refine v_obj dX0_init_1 oi_X0_3 (by decide) (Nat.le_of_ble_eq_true rfl) ?_
  refine v_aload_n dX0_init_4 rfl ?_
  refine v_aload_n dX0_init_5 rfl ?_
  refine y_putF (n := a + 1) dX0_init_6 fr_X0_9 hA0 (by decide) rfl rfl rfl ⟨rfl, rfl⟩ hN0 hR0 (by simp) (by omega) (fun S1 hN1 hX1 hR1 => ?_)
  have hA1 := (hX1 (a) (by omega)).1.trans hA0
  refine v_aload_n dX0_init_9 rfl ?_
  refine v_aload_n dX0_init_10 rfl ?_
  refine y_putF (n := a + 1) dX0_init_11 fr_X0_15 hA1 (by decide) rfl rfl rfl ⟨rfl, rfl⟩ hN1 hR1 (by simp) (by omega) (fun S2 hN2 hX2 hR2 => ?_)
  have hA2 := (hX2 (a) (by omega)).1.trans hA1
  have Y1 := hX2
  have Y0 := hX1.tr Y1 (by omega)
  exact y_ret dX0_init_14 rfl hN2 (fun x hx => ⟨(Y0 x (by omega)).1, (Y0 x (by omega)).2 (by omega)⟩) (⟨hA2, (hR2 0).trans rfl, (hR2 1).trans rfl⟩)

set_option maxRecDepth 100000 in
set_option maxHeartbeats 4000000 in
theorem i_X3 {l : Launch} {g : GV} {S : SS} {I : II} {X : XX} {a : Nat} (hfl : l.stackTraces = false) (hN0 : Nw S (a + 1) I) (hA0 : S.1[a]? = some (3, 3)) (hR0 : Rw S a (List.replicate 3 none)) (hlen : a + 4 < 800000) : CT l g mX3_init 1 3 24 [.ref a] S I X (NQ S a 4 (fun S2 => isFat S2 a) I X) := by
  refine v_start hfl rfl (by decide) (Nat.le_of_ble_eq_true rfl) (ls := [some (.ref a)]) rfl ?_
  refine v_aload_n dX3_init_0 rfl ?_
  refine v_obj dX3_init_1 oi_X3_3 (by decide) (Nat.le_of_ble_eq_true rfl) ?_
  refine v_aload_n dX3_init_4 rfl ?_
  refine v_bipush dX3_init_5 (by decide) ?_
  refine y_newI (b := a + 1) (n := 8) (bc2 := 2) (bs2 := 16) dX3_init_7 hN0 rfl (by decide) (by omega) rfl rfl (fun S1 hN1 hB1 hC1 => ?_)
  have hN1 : Nw S1 (a + 2) I := hN1
  have hA1 := (hB1 (a) (by omega)).1.trans hA0
  have hR1 := hR0.xb hB1 (by omega : a < a + 1)
  have hX1 : Xq S S1 (a) (a + 1) := XB.xq hB1
  refine y_putF (n := a + 2) dX3_init_9 fr_X3_9 hA1 (by decide) rfl rfl rfl ⟨rfl, rfl⟩ hN1 hR1 (by simp) (by omega) (fun S2 hN2 hX2 hR2 => ?_)
  have hA2 := (hX2 (a) (by omega)).1.trans hA1
  refine v_aload_n dX3_init_12 rfl ?_
  refine v_bipush dX3_init_13 (by decide) ?_
  refine y_newI (b := a + 2) (n := 8) (bc2 := 1) (bs2 := 8) dX3_init_15 hN2 rfl (by decide) (by omega) rfl rfl (fun S3 hN3 hB3 hC3 => ?_)
  have hN3 : Nw S3 (a + 3) I := hN3
  have hA3 := (hB3 (a) (by omega)).1.trans hA2
  have hR3 := hR2.xb hB3 (by omega : a < a + 2)
  have hX3 : Xq S2 S3 (a) (a + 2) := XB.xq hB3
  refine y_putF (n := a + 3) dX3_init_17 fr_X3_15 hA3 (by decide) rfl rfl rfl ⟨rfl, rfl⟩ hN3 hR3 (by simp) (by omega) (fun S4 hN4 hX4 hR4 => ?_)
  have hA4 := (hX4 (a) (by omega)).1.trans hA3
  refine v_aload_n dX3_init_20 rfl ?_
  refine v_bipush dX3_init_21 (by decide) ?_
  refine y_newI (b := a + 3) (n := 8) (bc2 := 0) (bs2 := 0) dX3_init_23 hN4 rfl (by decide) (by omega) rfl rfl (fun S5 hN5 hB5 hC5 => ?_)
  have hN5 : Nw S5 (a + 4) I := hN5
  have hA5 := (hB5 (a) (by omega)).1.trans hA4
  have hR5 := hR4.xb hB5 (by omega : a < a + 3)
  have hX5 : Xq S4 S5 (a) (a + 3) := XB.xq hB5
  refine y_putF (n := a + 4) dX3_init_25 fr_X3_18 hA5 (by decide) rfl rfl rfl ⟨rfl, rfl⟩ hN5 hR5 (by simp) (by omega) (fun S6 hN6 hX6 hR6 => ?_)
  have hA6 := (hX6 (a) (by omega)).1.trans hA5
  have Y5 := hX6
  have Y4 := hX5.tr Y5 (by omega)
  have Y3 := hX4.tr Y4 (by omega)
  have Y2 := hX3.tr Y3 (by omega)
  have Y1 := hX2.tr Y2 (by omega)
  have Y0 := hX1.tr Y1 (by omega)
  exact y_ret dX3_init_28 rfl hN6 (fun x hx => ⟨(Y0 x (by omega)).1, (Y0 x (by omega)).2 (by omega)⟩) (⟨hA6, (hR6 0).trans rfl, (Y1 (a + 1) (by omega)).1.trans hC1, (hR6 1).trans rfl, (Y3 (a + 2) (by omega)).1.trans hC3, (hR6 2).trans rfl, (Y5 (a + 3) (by omega)).1.trans hC5⟩)

set_option maxRecDepth 100000 in
set_option maxHeartbeats 4000000 in
theorem i_X5 {l : Launch} {g : GV} {S : SS} {I : II} {X : XX} {a : Nat} (hfl : l.stackTraces = false) (hN0 : Nw S (a + 1) I) (hA0 : S.1[a]? = some (5, 5)) (hR0 : Rw S a (List.replicate 5 none)) (hlen : a + 13 < 800000) : CT l g mX5_init 1 12 97 [.ref a] S I X (NQ S a 13 (fun S2 => isRes S2 a) I X) := by
  refine v_start hfl rfl (by decide) (Nat.le_of_ble_eq_true rfl) (ls := [some (.ref a)]) rfl ?_
  refine v_aload_n dX5_init_0 rfl ?_
  refine v_obj dX5_init_1 oi_X5_3 (by decide) (Nat.le_of_ble_eq_true rfl) ?_
  refine v_aload_n dX5_init_4 rfl ?_
  refine v_bipush dX5_init_5 (by decide) ?_
  refine y_newI (b := a + 1) (n := 8) (bc2 := 11) (bs2 := 89) dX5_init_7 hN0 rfl (by decide) (by omega) rfl rfl (fun S1 hN1 hB1 hC1 => ?_)
  have hN1 : Nw S1 (a + 2) I := hN1
  have hA1 := (hB1 (a) (by omega)).1.trans hA0
  have hR1 := hR0.xb hB1 (by omega : a < a + 1)
  have hX1 : Xq S S1 (a) (a + 1) := XB.xq hB1
  refine y_putF (n := a + 2) dX5_init_9 fr_X5_9 hA1 (by decide) rfl rfl rfl ⟨rfl, rfl⟩ hN1 hR1 (by simp) (by omega) (fun S2 hN2 hX2 hR2 => ?_)
  have hA2 := (hX2 (a) (by omega)).1.trans hA1
  refine v_aload_n dX5_init_12 rfl ?_
  refine v_bipush dX5_init_13 (by decide) ?_
  refine y_newI (b := a + 2) (n := 8) (bc2 := 10) (bs2 := 81) dX5_init_15 hN2 rfl (by decide) (by omega) rfl rfl (fun S3 hN3 hB3 hC3 => ?_)
  have hN3 : Nw S3 (a + 3) I := hN3
  have hA3 := (hB3 (a) (by omega)).1.trans hA2
  have hR3 := hR2.xb hB3 (by omega : a < a + 2)
  have hX3 : Xq S2 S3 (a) (a + 2) := XB.xq hB3
  refine y_putF (n := a + 3) dX5_init_17 fr_X5_15 hA3 (by decide) rfl rfl rfl ⟨rfl, rfl⟩ hN3 hR3 (by simp) (by omega) (fun S4 hN4 hX4 hR4 => ?_)
  have hA4 := (hX4 (a) (by omega)).1.trans hA3
  refine v_aload_n dX5_init_20 rfl ?_
  refine v_bipush dX5_init_21 (by decide) ?_
  refine v_bipush dX5_init_23 (by decide) ?_
  refine y_multi (b := a + 3) (N := 9) (K := 8) (bc2 := 0) (bs2 := 0) dX5_init_25 cl_X5_18 hN4 rfl rfl (by decide) (by decide) (by omega) rfl rfl (fun S5 hN5 hB5 hC5 hM5 => ?_)
  have hN5 : Nw S5 (a + 13) I := hN5
  have hA5 := (hB5 (a) (by omega)).1.trans hA4
  have hR5 := hR4.xb hB5 (by omega : a < a + 3)
  have hX5 : Xq S4 S5 (a) (a + 3) := XB.xq hB5
  refine y_putF (n := a + 13) dX5_init_29 fr_X5_20 hA5 (by decide) rfl rfl rfl ⟨rfl, rfl⟩ hN5 hR5 (by simp) (by omega) (fun S6 hN6 hX6 hR6 => ?_)
  have hA6 := (hX6 (a) (by omega)).1.trans hA5
  have Y5 := hX6
  have Y4 := hX5.tr Y5 (by omega)
  have Y3 := hX4.tr Y4 (by omega)
  have Y2 := hX3.tr Y3 (by omega)
  have Y1 := hX2.tr Y2 (by omega)
  have Y0 := hX1.tr Y1 (by omega)
  exact y_ret dX5_init_32 rfl hN6 (fun x hx => ⟨(Y0 x (by omega)).1, (Y0 x (by omega)).2 (by omega)⟩) (⟨hA6, (hR6 2).trans rfl, (Y1 (a + 1) (by omega)).1.trans hC1, (hR6 3).trans rfl, (Y3 (a + 2) (by omega)).1.trans hC3, (hR6 4).trans rfl, (Y5 (a + 3) (by omega)).1.trans hC5, fun k hk => ⟨((Y5 (a + 3) (by omega)).2 (by omega) k).trans (hM5 k hk).1, (Y5 (a + 3 + 1 + k) (by omega)).1.trans (hM5 k hk).2⟩⟩)

set_option maxRecDepth 100000 in
set_option maxHeartbeats 4000000 in
theorem i_X6 {l : Launch} {g : GV} {S : SS} {I : II} {X : XX} {a : Nat} (hfl : l.stackTraces = false) (hN0 : Nw S (a + 1) I) (hA0 : S.1[a]? = some (6, 9)) (hR0 : Rw S a (List.replicate 9 none)) (hlen : a + 28 < 800000) : CT l g mX6_init 1 27 531 [.ref a] S I X (NQ S a 28 (fun S2 => isLog S2 a) I X) := by
  refine v_start hfl rfl (by decide) (Nat.le_of_ble_eq_true rfl) (ls := [some (.ref a)]) rfl ?_
  refine v_aload_n dX6_init_0 rfl ?_
  refine v_obj dX6_init_1 oi_X6_3 (by decide) (Nat.le_of_ble_eq_true rfl) ?_
  refine v_aload_n dX6_init_4 rfl ?_
  refine v_bipush dX6_init_5 (by decide) ?_
  refine y_newI (b := a + 1) (n := 9) (bc2 := 26) (bs2 := 522) dX6_init_7 hN0 rfl (by decide) (by omega) rfl rfl (fun S1 hN1 hB1 hC1 => ?_)
  have hN1 : Nw S1 (a + 2) I := hN1
  have hA1 := (hB1 (a) (by omega)).1.trans hA0
  have hR1 := hR0.xb hB1 (by omega : a < a + 1)
  have hX1 : Xq S S1 (a) (a + 1) := XB.xq hB1
  refine y_putF (n := a + 2) dX6_init_9 fr_X6_9 hA1 (by decide) rfl rfl rfl ⟨rfl, rfl⟩ hN1 hR1 (by simp) (by omega) (fun S2 hN2 hX2 hR2 => ?_)
  have hA2 := (hX2 (a) (by omega)).1.trans hA1
  refine v_aload_n dX6_init_12 rfl ?_
  refine v_bipush dX6_init_13 (by decide) ?_
  refine y_newI (b := a + 2) (n := 9) (bc2 := 25) (bs2 := 513) dX6_init_15 hN2 rfl (by decide) (by omega) rfl rfl (fun S3 hN3 hB3 hC3 => ?_)
  have hN3 : Nw S3 (a + 3) I := hN3
  have hA3 := (hB3 (a) (by omega)).1.trans hA2
  have hR3 := hR2.xb hB3 (by omega : a < a + 2)
  have hX3 : Xq S2 S3 (a) (a + 2) := XB.xq hB3
  refine y_putF (n := a + 3) dX6_init_17 fr_X6_15 hA3 (by decide) rfl rfl rfl ⟨rfl, rfl⟩ hN3 hR3 (by simp) (by omega) (fun S4 hN4 hX4 hR4 => ?_)
  have hA4 := (hX4 (a) (by omega)).1.trans hA3
  refine v_aload_n dX6_init_20 rfl ?_
  refine v_bipush dX6_init_21 (by decide) ?_
  refine y_newI (b := a + 3) (n := 9) (bc2 := 24) (bs2 := 504) dX6_init_23 hN4 rfl (by decide) (by omega) rfl rfl (fun S5 hN5 hB5 hC5 => ?_)
  have hN5 : Nw S5 (a + 4) I := hN5
  have hA5 := (hB5 (a) (by omega)).1.trans hA4
  have hR5 := hR4.xb hB5 (by omega : a < a + 3)
  have hX5 : Xq S4 S5 (a) (a + 3) := XB.xq hB5
  refine y_putF (n := a + 4) dX6_init_25 fr_X6_18 hA5 (by decide) rfl rfl rfl ⟨rfl, rfl⟩ hN5 hR5 (by simp) (by omega) (fun S6 hN6 hX6 hR6 => ?_)
  have hA6 := (hX6 (a) (by omega)).1.trans hA5
  refine v_aload_n dX6_init_28 rfl ?_
  refine v_bipush dX6_init_29 (by decide) ?_
  refine y_newI (b := a + 4) (n := 9) (bc2 := 23) (bs2 := 495) dX6_init_31 hN6 rfl (by decide) (by omega) rfl rfl (fun S7 hN7 hB7 hC7 => ?_)
  have hN7 : Nw S7 (a + 5) I := hN7
  have hA7 := (hB7 (a) (by omega)).1.trans hA6
  have hR7 := hR6.xb hB7 (by omega : a < a + 4)
  have hX7 : Xq S6 S7 (a) (a + 4) := XB.xq hB7
  refine y_putF (n := a + 5) dX6_init_33 fr_X6_21 hA7 (by decide) rfl rfl rfl ⟨rfl, rfl⟩ hN7 hR7 (by simp) (by omega) (fun S8 hN8 hX8 hR8 => ?_)
  have hA8 := (hX8 (a) (by omega)).1.trans hA7
  refine v_aload_n dX6_init_36 rfl ?_
  refine v_bipush dX6_init_37 (by decide) ?_
  refine y_newI (b := a + 5) (n := 9) (bc2 := 22) (bs2 := 486) dX6_init_39 hN8 rfl (by decide) (by omega) rfl rfl (fun S9 hN9 hB9 hC9 => ?_)
  have hN9 : Nw S9 (a + 6) I := hN9
  have hA9 := (hB9 (a) (by omega)).1.trans hA8
  have hR9 := hR8.xb hB9 (by omega : a < a + 5)
  have hX9 : Xq S8 S9 (a) (a + 5) := XB.xq hB9
  refine y_putF (n := a + 6) dX6_init_41 fr_X6_24 hA9 (by decide) rfl rfl rfl ⟨rfl, rfl⟩ hN9 hR9 (by simp) (by omega) (fun S10 hN10 hX10 hR10 => ?_)
  have hA10 := (hX10 (a) (by omega)).1.trans hA9
  refine v_aload_n dX6_init_44 rfl ?_
  refine v_bipush dX6_init_45 (by decide) ?_
  refine y_newI (b := a + 6) (n := 9) (bc2 := 21) (bs2 := 477) dX6_init_47 hN10 rfl (by decide) (by omega) rfl rfl (fun S11 hN11 hB11 hC11 => ?_)
  have hN11 : Nw S11 (a + 7) I := hN11
  have hA11 := (hB11 (a) (by omega)).1.trans hA10
  have hR11 := hR10.xb hB11 (by omega : a < a + 6)
  have hX11 : Xq S10 S11 (a) (a + 6) := XB.xq hB11
  refine y_putF (n := a + 7) dX6_init_49 fr_X6_27 hA11 (by decide) rfl rfl rfl ⟨rfl, rfl⟩ hN11 hR11 (by simp) (by omega) (fun S12 hN12 hX12 hR12 => ?_)
  have hA12 := (hX12 (a) (by omega)).1.trans hA11
  refine v_aload_n dX6_init_52 rfl ?_
  refine v_bipush dX6_init_53 (by decide) ?_
  refine y_newI (b := a + 7) (n := 9) (bc2 := 20) (bs2 := 468) dX6_init_55 hN12 rfl (by decide) (by omega) rfl rfl (fun S13 hN13 hB13 hC13 => ?_)
  have hN13 : Nw S13 (a + 8) I := hN13
  have hA13 := (hB13 (a) (by omega)).1.trans hA12
  have hR13 := hR12.xb hB13 (by omega : a < a + 7)
  have hX13 : Xq S12 S13 (a) (a + 7) := XB.xq hB13
  refine y_putF (n := a + 8) dX6_init_57 fr_X6_30 hA13 (by decide) rfl rfl rfl ⟨rfl, rfl⟩ hN13 hR13 (by simp) (by omega) (fun S14 hN14 hX14 hR14 => ?_)
  have hA14 := (hX14 (a) (by omega)).1.trans hA13
  refine v_aload_n dX6_init_60 rfl ?_
  refine v_bipush dX6_init_61 (by decide) ?_
  refine v_bipush dX6_init_63 (by decide) ?_
  refine y_multi (b := a + 8) (N := 9) (K := 25) (bc2 := 10) (bs2 := 234) dX6_init_65 cl_X6_33 hN14 rfl rfl (by decide) (by decide) (by omega) rfl rfl (fun S15 hN15 hB15 hC15 hM15 => ?_)
  have hN15 : Nw S15 (a + 18) I := hN15
  have hA15 := (hB15 (a) (by omega)).1.trans hA14
  have hR15 := hR14.xb hB15 (by omega : a < a + 8)
  have hX15 : Xq S14 S15 (a) (a + 8) := XB.xq hB15
  refine y_putF (n := a + 18) dX6_init_69 fr_X6_35 hA15 (by decide) rfl rfl rfl ⟨rfl, rfl⟩ hN15 hR15 (by simp) (by omega) (fun S16 hN16 hX16 hR16 => ?_)
  have hA16 := (hX16 (a) (by omega)).1.trans hA15
  refine v_aload_n dX6_init_72 rfl ?_
  refine v_bipush dX6_init_73 (by decide) ?_
  refine v_bipush dX6_init_75 (by decide) ?_
  refine y_multi (b := a + 18) (N := 9) (K := 25) (bc2 := 0) (bs2 := 0) dX6_init_77 cl_X6_33 hN16 rfl rfl (by decide) (by decide) (by omega) rfl rfl (fun S17 hN17 hB17 hC17 hM17 => ?_)
  have hN17 : Nw S17 (a + 28) I := hN17
  have hA17 := (hB17 (a) (by omega)).1.trans hA16
  have hR17 := hR16.xb hB17 (by omega : a < a + 18)
  have hX17 : Xq S16 S17 (a) (a + 18) := XB.xq hB17
  refine y_putF (n := a + 28) dX6_init_81 fr_X6_38 hA17 (by decide) rfl rfl rfl ⟨rfl, rfl⟩ hN17 hR17 (by simp) (by omega) (fun S18 hN18 hX18 hR18 => ?_)
  have hA18 := (hX18 (a) (by omega)).1.trans hA17
  have Y17 := hX18
  have Y16 := hX17.tr Y17 (by omega)
  have Y15 := hX16.tr Y16 (by omega)
  have Y14 := hX15.tr Y15 (by omega)
  have Y13 := hX14.tr Y14 (by omega)
  have Y12 := hX13.tr Y13 (by omega)
  have Y11 := hX12.tr Y12 (by omega)
  have Y10 := hX11.tr Y11 (by omega)
  have Y9 := hX10.tr Y10 (by omega)
  have Y8 := hX9.tr Y9 (by omega)
  have Y7 := hX8.tr Y8 (by omega)
  have Y6 := hX7.tr Y7 (by omega)
  have Y5 := hX6.tr Y6 (by omega)
  have Y4 := hX5.tr Y5 (by omega)
  have Y3 := hX4.tr Y4 (by omega)
  have Y2 := hX3.tr Y3 (by omega)
  have Y1 := hX2.tr Y2 (by omega)
  have Y0 := hX1.tr Y1 (by omega)
  exact y_ret dX6_init_84 rfl hN18 (fun x hx => ⟨(Y0 x (by omega)).1, (Y0 x (by omega)).2 (by omega)⟩) (⟨hA18, ⟨(hR18 0).trans rfl, (Y1 (a + 1) (by omega)).1.trans hC1⟩, ⟨(hR18 1).trans rfl, (Y3 (a + 2) (by omega)).1.trans hC3⟩, ⟨(hR18 2).trans rfl, (Y5 (a + 3) (by omega)).1.trans hC5⟩, ⟨(hR18 3).trans rfl, (Y7 (a + 4) (by omega)).1.trans hC7⟩, ⟨(hR18 4).trans rfl, (Y9 (a + 5) (by omega)).1.trans hC9⟩, ⟨(hR18 5).trans rfl, (Y11 (a + 6) (by omega)).1.trans hC11⟩, ⟨(hR18 6).trans rfl, (Y13 (a + 7) (by omega)).1.trans hC13⟩, ⟨(hR18 7).trans rfl, (Y15 (a + 8) (by omega)).1.trans hC15⟩, fun k hk => ⟨((Y15 (a + 8) (by omega)).2 (by omega) k).trans (hM15 k hk).1, (Y15 (a + 8 + 1 + k) (by omega)).1.trans (hM15 k hk).2⟩, ⟨(hR18 8).trans rfl, (Y17 (a + 18) (by omega)).1.trans hC17⟩, fun k hk => ⟨((Y17 (a + 18) (by omega)).2 (by omega) k).trans (hM17 k hk).1, (Y17 (a + 18 + 1 + k) (by omega)).1.trans (hM17 k hk).2⟩⟩)

set_option maxRecDepth 100000 in
set_option maxHeartbeats 4000000 in
theorem i_X7 {l : Launch} {g : GV} {S : SS} {I : II} {X : XX} {a : Nat} (hfl : l.stackTraces = false) (hN0 : Nw S (a + 1) I) (hA0 : S.1[a]? = some (7, 6)) (hR0 : Rw S a (List.replicate 6 none)) (hlen : a + 3 < 800000) : CT l g mX7_init 1 2 68 [.ref a] S I X (NQ S a 3 (fun S2 => isTxt S2 a) (up I a 5 (-1)) X) := by
  refine v_start hfl rfl (by decide) (Nat.le_of_ble_eq_true rfl) (ls := [some (.ref a)]) rfl ?_
  refine v_aload_n dX7_init_0 rfl ?_
  refine v_obj dX7_init_1 oi_X7_3 (by decide) (Nat.le_of_ble_eq_true rfl) ?_
  refine v_aload_n dX7_init_4 rfl ?_
  refine v_bipush dX7_init_5 (by decide) ?_
  refine y_newI (b := a + 1) (n := 60) (bc2 := 1) (bs2 := 8) dX7_init_7 hN0 rfl (by decide) (by omega) rfl rfl (fun S1 hN1 hB1 hC1 => ?_)
  have hN1 : Nw S1 (a + 2) I := hN1
  have hA1 := (hB1 (a) (by omega)).1.trans hA0
  have hR1 := hR0.xb hB1 (by omega : a < a + 1)
  have hX1 : Xq S S1 (a) (a + 1) := XB.xq hB1
  refine y_putF (n := a + 2) dX7_init_9 fr_X7_9 hA1 (by decide) rfl rfl rfl ⟨rfl, rfl⟩ hN1 hR1 (by simp) (by omega) (fun S2 hN2 hX2 hR2 => ?_)
  have hA2 := (hX2 (a) (by omega)).1.trans hA1
  refine v_aload_n dX7_init_12 rfl ?_
  refine v_bipush dX7_init_13 (by decide) ?_
  refine y_newI (b := a + 2) (n := 8) (bc2 := 0) (bs2 := 0) dX7_init_15 hN2 rfl (by decide) (by omega) rfl rfl (fun S3 hN3 hB3 hC3 => ?_)
  have hN3 : Nw S3 (a + 3) I := hN3
  have hA3 := (hB3 (a) (by omega)).1.trans hA2
  have hR3 := hR2.xb hB3 (by omega : a < a + 2)
  have hX3 : Xq S2 S3 (a) (a + 2) := XB.xq hB3
  refine y_putF (n := a + 3) dX7_init_17 fr_X7_15 hA3 (by decide) rfl rfl rfl ⟨rfl, rfl⟩ hN3 hR3 (by simp) (by omega) (fun S4 hN4 hX4 hR4 => ?_)
  have hA4 := (hX4 (a) (by omega)).1.trans hA3
  refine v_aload_n dX7_init_20 rfl ?_
  refine v_iconst dX7_init_21 ?_
  refine v_puti dX7_init_22 fr_X7_18 hA4 (by decide) rfl ?_
  have hN4 := hN4.up (a := a) (k := 5) (z := (-1 : Int)) (by omega)
  have Y3 := hX4
  have Y2 := hX3.tr Y3 (by omega)
  have Y1 := hX2.tr Y2 (by omega)
  have Y0 := hX1.tr Y1 (by omega)
  exact y_ret dX7_init_25 rfl hN4 (fun x hx => ⟨(Y0 x (by omega)).1, (Y0 x (by omega)).2 (by omega)⟩) (⟨hA4, (hR4 0).trans rfl, (Y1 (a + 1) (by omega)).1.trans hC1, (hR4 1).trans rfl, (Y3 (a + 2) (by omega)).1.trans hC3⟩)

set_option maxRecDepth 100000 in
set_option maxHeartbeats 4000000 in
theorem i_X2 {l : Launch} {g : GV} {S : SS} {I : II} {X : XX} {a : Nat} (hfl : l.stackTraces = false) (hN0 : Nw S (a + 1) I) (hA0 : S.1[a]? = some (2, 8)) (hR0 : Rw S a (List.replicate 8 none)) (hlen : a + 31 < 800000) : CT l g mX2_init 1 30 287 [.ref a] S I X (NQ S a 31 (fun S2 => isEl S2 a) (startM I a 3 1) X) := by
  refine v_start hfl rfl (by decide) (Nat.le_of_ble_eq_true rfl) (ls := [some (.ref a)]) rfl ?_
  refine v_aload_n dX2_init_0 rfl ?_
  refine v_obj dX2_init_1 oi_X2_3 (by decide) (Nat.le_of_ble_eq_true rfl) ?_
  refine v_aload_n dX2_init_4 rfl ?_
  refine v_iconst dX2_init_5 ?_
  refine y_newI (b := a + 1) (n := 4) (bc2 := 29) (bs2 := 283) dX2_init_6 hN0 rfl (by decide) (by omega) rfl rfl (fun S1 hN1 hB1 hC1 => ?_)
  have hN1 : Nw S1 (a + 2) I := hN1
  have hA1 := (hB1 (a) (by omega)).1.trans hA0
  have hR1 := hR0.xb hB1 (by omega : a < a + 1)
  have hX1 : Xq S S1 (a) (a + 1) := XB.xq hB1
  refine y_putF (n := a + 2) dX2_init_8 fr_X2_9 hA1 (by decide) rfl rfl rfl ⟨rfl, rfl⟩ hN1 hR1 (by simp) (by omega) (fun S2 hN2 hX2 hR2 => ?_)
  have hA2 := (hX2 (a) (by omega)).1.trans hA1
  refine v_aload_n dX2_init_11 rfl ?_
  refine v_bipush dX2_init_12 (by decide) ?_
  refine y_newI (b := a + 2) (n := 8) (bc2 := 28) (bs2 := 275) dX2_init_14 hN2 rfl (by decide) (by omega) rfl rfl (fun S3 hN3 hB3 hC3 => ?_)
  have hN3 : Nw S3 (a + 3) I := hN3
  have hA3 := (hB3 (a) (by omega)).1.trans hA2
  have hR3 := hR2.xb hB3 (by omega : a < a + 2)
  have hX3 : Xq S2 S3 (a) (a + 2) := XB.xq hB3
  refine y_putF (n := a + 3) dX2_init_16 fr_X2_15 hA3 (by decide) rfl rfl rfl ⟨rfl, rfl⟩ hN3 hR3 (by simp) (by omega) (fun S4 hN4 hX4 hR4 => ?_)
  have hA4 := (hX4 (a) (by omega)).1.trans hA3
  refine v_aload_n dX2_init_19 rfl ?_
  refine v_bipush dX2_init_20 (by decide) ?_
  refine y_newI (b := a + 3) (n := 25) (bc2 := 27) (bs2 := 250) dX2_init_22 hN4 rfl (by decide) (by omega) rfl rfl (fun S5 hN5 hB5 hC5 => ?_)
  have hN5 : Nw S5 (a + 4) I := hN5
  have hA5 := (hB5 (a) (by omega)).1.trans hA4
  have hR5 := hR4.xb hB5 (by omega : a < a + 3)
  have hX5 : Xq S4 S5 (a) (a + 3) := XB.xq hB5
  refine y_putF (n := a + 4) dX2_init_24 fr_X2_18 hA5 (by decide) rfl rfl rfl ⟨rfl, rfl⟩ hN5 hR5 (by simp) (by omega) (fun S6 hN6 hX6 hR6 => ?_)
  have hA6 := (hX6 (a) (by omega)).1.trans hA5
  refine v_aload_n dX2_init_27 rfl ?_
  refine v_bipush dX2_init_28 (by decide) ?_
  refine y_newI (b := a + 4) (n := 25) (bc2 := 26) (bs2 := 225) dX2_init_30 hN6 rfl (by decide) (by omega) rfl rfl (fun S7 hN7 hB7 hC7 => ?_)
  have hN7 : Nw S7 (a + 5) I := hN7
  have hA7 := (hB7 (a) (by omega)).1.trans hA6
  have hR7 := hR6.xb hB7 (by omega : a < a + 4)
  have hX7 : Xq S6 S7 (a) (a + 4) := XB.xq hB7
  refine y_putF (n := a + 5) dX2_init_32 fr_X2_21 hA7 (by decide) rfl rfl rfl ⟨rfl, rfl⟩ hN7 hR7 (by simp) (by omega) (fun S8 hN8 hX8 hR8 => ?_)
  have hA8 := (hX8 (a) (by omega)).1.trans hA7
  refine v_aload_n dX2_init_35 rfl ?_
  refine v_bipush dX2_init_36 (by decide) ?_
  refine v_bipush dX2_init_38 (by decide) ?_
  refine y_multi (b := a + 5) (N := 25) (K := 8) (bc2 := 0) (bs2 := 0) dX2_init_40 cl_X2_24 hN8 rfl rfl (by decide) (by decide) (by omega) rfl rfl (fun S9 hN9 hB9 hC9 hM9 => ?_)
  have hN9 : Nw S9 (a + 31) I := hN9
  have hA9 := (hB9 (a) (by omega)).1.trans hA8
  have hR9 := hR8.xb hB9 (by omega : a < a + 5)
  have hX9 : Xq S8 S9 (a) (a + 5) := XB.xq hB9
  refine y_putF (n := a + 31) dX2_init_44 fr_X2_26 hA9 (by decide) rfl rfl rfl ⟨rfl, rfl⟩ hN9 hR9 (by simp) (by omega) (fun S10 hN10 hX10 hR10 => ?_)
  have hA10 := (hX10 (a) (by omega)).1.trans hA9
  have Y9 := hX10
  have Y8 := hX9.tr Y9 (by omega)
  have Y7 := hX8.tr Y8 (by omega)
  have Y6 := hX7.tr Y7 (by omega)
  have Y5 := hX6.tr Y6 (by omega)
  have Y4 := hX5.tr Y5 (by omega)
  have Y3 := hX4.tr Y4 (by omega)
  have Y2 := hX3.tr Y3 (by omega)
  have Y1 := hX2.tr Y2 (by omega)
  have Y0 := hX1.tr Y1 (by omega)
  have hE : isEl S10 a := ⟨hA10, (hR10 1).trans rfl, (Y1 (a + 1) (by omega)).1.trans hC1, (hR10 3).trans rfl, (Y3 (a + 2) (by omega)).1.trans hC3, (hR10 5).trans rfl, (Y5 (a + 3) (by omega)).1.trans hC5, (hR10 6).trans rfl, (Y7 (a + 4) (by omega)).1.trans hC7, (hR10 7).trans rfl, (Y9 (a + 5) (by omega)).1.trans hC9, fun k hk => ⟨((Y9 (a + 5) (by omega)).2 (by omega) k).trans (hM9 k hk).1, (Y9 (a + 5 + 1 + k) (by omega)).1.trans (hM9 k hk).2⟩⟩
  refine v_aload_n dX2_init_47 rfl ?_
  refine v_iconst dX2_init_48 ?_
  refine v_iconst dX2_init_49 ?_
  refine v_cV2n dX2_init_50 lk_X2_29 hA10 (by decide) rfl (c_startAgain hfl hE) (by decide) (Nat.le_of_ble_eq_true rfl) ?_ rfl
  exact y_ret dX2_init_53 rfl ⟨hN10.1, hN10.2.1, hN10.2.2.1, fun x j hx => by rw [startM_e (by omega)]; exact hN10.2.2.2 x j hx⟩ (fun x hx => ⟨(Y0 x (by omega)).1, (Y0 x (by omega)).2 (by omega)⟩) hE

set_option maxRecDepth 100000 in
set_option maxHeartbeats 4000000 in
theorem i_X1 {l : Launch} {g : GV} {S : SS} {I : II} {X : XX} {a : Nat} {e : Nat} (hfl : l.stackTraces = false) (hN0 : Nw S (a + 1) I) (hA0 : S.1[a]? = some (1, 16)) (hR0 : Rw S a (List.replicate 16 none)) (hlen : a + 52 < 800000) (hE : isEl S e) (hsp : e + 31 ≤ a) : CT l g mX1_init 2 51 781 [.ref a, .ref e] S I X (NQ S a 52 (fun S2 => isCnt S2 a e) I X) := by
  refine v_start hfl rfl (by decide) (Nat.le_of_ble_eq_true rfl) (ls := [some (.ref a), some (.ref e)]) rfl ?_
  refine v_aload_n dX1_init_0 rfl ?_
  refine v_obj dX1_init_1 oi_X1_3 (by decide) (Nat.le_of_ble_eq_true rfl) ?_
  refine v_aload_n dX1_init_4 rfl ?_
  refine v_aload_n dX1_init_5 rfl ?_
  refine y_putF (n := a + 1) dX1_init_6 fr_X1_9 hA0 (by decide) rfl rfl rfl ⟨rfl, rfl⟩ hN0 hR0 (by simp) (by omega) (fun S1 hN1 hX1 hR1 => ?_)
  have hA1 := (hX1 (a) (by omega)).1.trans hA0
  refine v_aload_n dX1_init_9 rfl ?_
  refine y_new (b := a + 1) (bc2 := 50) (bs2 := 776) dX1_init_10 nw_X1_15 hN1 (by omega) rfl rfl (fun S2 hN2 hB2 hQ2 hC2 => ?_)
  have hN2 : Nw S2 (a + 2) I := hN2
  have hA2 := (hB2 (a) (by omega)).1.trans hA1
  have hR2 := hR1.xb hB2 (by omega : a < a + 1)
  have hX2 : Xq S1 S2 (a) (a + 1) := XB.xq hB2
  refine v_dup dX1_init_13 rfl ?_
  refine y_cI0 (a := a + 1) (m := 13) (bc2 := 38) (bs2 := 679) dX1_init_14 lk_X1_17 hN2.1 (i_X5 hfl hN2 hC2 hQ2 (by omega)) (by decide) (Nat.le_of_ble_eq_true rfl) rfl rfl (fun S3 hN3 hB3 hP3 => ?_) rfl rfl rfl
  have hN3 : Nw S3 (a + 14) I := hN3
  have hA3 := (hB3 (a) (by omega)).1.trans hA2
  have hR3 := hR2.xb hB3 (by omega : a < a + 1)
  have hX3 : Xq S2 S3 (a) (a + 1) := XB.xq hB3
  refine y_putF (n := a + 14) dX1_init_17 fr_X1_18 hA3 (by decide) rfl rfl rfl ⟨rfl, rfl⟩ hN3 hR3 (by simp) (by omega) (fun S4 hN4 hX4 hR4 => ?_)
  have hA4 := (hX4 (a) (by omega)).1.trans hA3
  refine v_aload_n dX1_init_20 rfl ?_
  refine y_new (b := a + 14) (bc2 := 37) (bs2 := 675) dX1_init_21 nw_X1_22 hN4 (by omega) rfl rfl (fun S5 hN5 hB5 hQ5 hC5 => ?_)
  have hN5 : Nw S5 (a + 15) I := hN5
  have hA5 := (hB5 (a) (by omega)).1.trans hA4
  have hR5 := hR4.xb hB5 (by omega : a < a + 14)
  have hX5 : Xq S4 S5 (a) (a + 14) := XB.xq hB5
  refine v_dup dX1_init_24 rfl ?_
  refine v_aload_n dX1_init_25 rfl ?_
  refine v_aload_n dX1_init_26 rfl ?_
  refine v_getr dX1_init_27 fr_X1_18 hA5 (by decide) rfl ((hR5 2).trans rfl) ?_
  refine y_cI2 (a := a + 14) (m := 1) (bc2 := 37) (bs2 := 675) dX1_init_30 lk_X1_24 hN5.1 (i_X0 hfl hN5 hC5 hQ5 (by omega)) (by decide) (Nat.le_of_ble_eq_true rfl) rfl rfl (fun S6 hN6 hB6 hP6 => ?_) rfl rfl rfl
  have hN6 : Nw S6 (a + 15) I := hN6
  have hA6 := (hB6 (a) (by omega)).1.trans hA5
  have hR6 := hR5.xb hB6 (by omega : a < a + 14)
  have hX6 : Xq S5 S6 (a) (a + 14) := XB.xq hB6
  refine y_putF (n := a + 15) dX1_init_33 fr_X1_27 hA6 (by decide) rfl rfl rfl ⟨rfl, rfl⟩ hN6 hR6 (by simp) (by omega) (fun S7 hN7 hX7 hR7 => ?_)
  have hA7 := (hX7 (a) (by omega)).1.trans hA6
  refine v_aload_n dX1_init_36 rfl ?_
  refine y_new (b := a + 15) (bc2 := 36) (bs2 := 672) dX1_init_37 nw_X1_31 hN7 (by omega) rfl rfl (fun S8 hN8 hB8 hQ8 hC8 => ?_)
  have hN8 : Nw S8 (a + 16) I := hN8
  have hA8 := (hB8 (a) (by omega)).1.trans hA7
  have hR8 := hR7.xb hB8 (by omega : a < a + 15)
  have hX8 : Xq S7 S8 (a) (a + 15) := XB.xq hB8
  refine v_dup dX1_init_40 rfl ?_
  refine y_cI0 (a := a + 15) (m := 4) (bc2 := 33) (bs2 := 648) dX1_init_41 lk_X1_33 hN8.1 (i_X3 hfl hN8 hC8 hQ8 (by omega)) (by decide) (Nat.le_of_ble_eq_true rfl) rfl rfl (fun S9 hN9 hB9 hP9 => ?_) rfl rfl rfl
  have hN9 : Nw S9 (a + 19) I := hN9
  have hA9 := (hB9 (a) (by omega)).1.trans hA8
  have hR9 := hR8.xb hB9 (by omega : a < a + 15)
  have hX9 : Xq S8 S9 (a) (a + 15) := XB.xq hB9
  refine y_putF (n := a + 19) dX1_init_44 fr_X1_34 hA9 (by decide) rfl rfl rfl ⟨rfl, rfl⟩ hN9 hR9 (by simp) (by omega) (fun S10 hN10 hX10 hR10 => ?_)
  have hA10 := (hX10 (a) (by omega)).1.trans hA9
  refine v_aload_n dX1_init_47 rfl ?_
  refine y_new (b := a + 19) (bc2 := 32) (bs2 := 639) dX1_init_48 nw_X1_38 hN10 (by omega) rfl rfl (fun S11 hN11 hB11 hQ11 hC11 => ?_)
  have hN11 : Nw S11 (a + 20) I := hN11
  have hA11 := (hB11 (a) (by omega)).1.trans hA10
  have hR11 := hR10.xb hB11 (by omega : a < a + 19)
  have hX11 : Xq S10 S11 (a) (a + 19) := XB.xq hB11
  refine v_dup dX1_init_51 rfl ?_
  refine y_cI0 (a := a + 19) (m := 28) (bc2 := 5) (bs2 := 108) dX1_init_52 lk_X1_40 hN11.1 (i_X6 hfl hN11 hC11 hQ11 (by omega)) (by decide) (Nat.le_of_ble_eq_true rfl) rfl rfl (fun S12 hN12 hB12 hP12 => ?_) rfl rfl rfl
  have hN12 : Nw S12 (a + 47) I := hN12
  have hA12 := (hB12 (a) (by omega)).1.trans hA11
  have hR12 := hR11.xb hB12 (by omega : a < a + 19)
  have hX12 : Xq S11 S12 (a) (a + 19) := XB.xq hB12
  refine y_putF (n := a + 47) dX1_init_55 fr_X1_41 hA12 (by decide) rfl rfl rfl ⟨rfl, rfl⟩ hN12 hR12 (by simp) (by omega) (fun S13 hN13 hX13 hR13 => ?_)
  have hA13 := (hX13 (a) (by omega)).1.trans hA12
  refine v_aload_n dX1_init_58 rfl ?_
  refine v_bipush dX1_init_59 (by decide) ?_
  refine y_newI (b := a + 47) (n := 8) (bc2 := 4) (bs2 := 100) dX1_init_61 hN13 rfl (by decide) (by omega) rfl rfl (fun S14 hN14 hB14 hC14 => ?_)
  have hN14 : Nw S14 (a + 48) I := hN14
  have hA14 := (hB14 (a) (by omega)).1.trans hA13
  have hR14 := hR13.xb hB14 (by omega : a < a + 47)
  have hX14 : Xq S13 S14 (a) (a + 47) := XB.xq hB14
  refine y_putF (n := a + 48) dX1_init_63 fr_X1_45 hA14 (by decide) rfl rfl rfl ⟨rfl, rfl⟩ hN14 hR14 (by simp) (by omega) (fun S15 hN15 hX15 hR15 => ?_)
  have hA15 := (hX15 (a) (by omega)).1.trans hA14
  refine v_aload_n dX1_init_66 rfl ?_
  refine v_bipush dX1_init_67 (by decide) ?_
  refine y_newI (b := a + 48) (n := 25) (bc2 := 3) (bs2 := 75) dX1_init_69 hN15 rfl (by decide) (by omega) rfl rfl (fun S16 hN16 hB16 hC16 => ?_)
  have hN16 : Nw S16 (a + 49) I := hN16
  have hA16 := (hB16 (a) (by omega)).1.trans hA15
  have hR16 := hR15.xb hB16 (by omega : a < a + 48)
  have hX16 : Xq S15 S16 (a) (a + 48) := XB.xq hB16
  refine y_putF (n := a + 49) dX1_init_71 fr_X1_49 hA16 (by decide) rfl rfl rfl ⟨rfl, rfl⟩ hN16 hR16 (by simp) (by omega) (fun S17 hN17 hX17 hR17 => ?_)
  have hA17 := (hX17 (a) (by omega)).1.trans hA16
  refine v_aload_n dX1_init_74 rfl ?_
  refine v_bipush dX1_init_75 (by decide) ?_
  refine y_newI (b := a + 49) (n := 25) (bc2 := 2) (bs2 := 50) dX1_init_77 hN17 rfl (by decide) (by omega) rfl rfl (fun S18 hN18 hB18 hC18 => ?_)
  have hN18 : Nw S18 (a + 50) I := hN18
  have hA18 := (hB18 (a) (by omega)).1.trans hA17
  have hR18 := hR17.xb hB18 (by omega : a < a + 49)
  have hX18 : Xq S17 S18 (a) (a + 49) := XB.xq hB18
  refine y_putF (n := a + 50) dX1_init_79 fr_X1_52 hA18 (by decide) rfl rfl rfl ⟨rfl, rfl⟩ hN18 hR18 (by simp) (by omega) (fun S19 hN19 hX19 hR19 => ?_)
  have hA19 := (hX19 (a) (by omega)).1.trans hA18
  refine v_aload_n dX1_init_82 rfl ?_
  refine v_bipush dX1_init_83 (by decide) ?_
  refine y_newI (b := a + 50) (n := 25) (bc2 := 1) (bs2 := 25) dX1_init_85 hN19 rfl (by decide) (by omega) rfl rfl (fun S20 hN20 hB20 hC20 => ?_)
  have hN20 : Nw S20 (a + 51) I := hN20
  have hA20 := (hB20 (a) (by omega)).1.trans hA19
  have hR20 := hR19.xb hB20 (by omega : a < a + 50)
  have hX20 : Xq S19 S20 (a) (a + 50) := XB.xq hB20
  refine y_putF (n := a + 51) dX1_init_87 fr_X1_55 hA20 (by decide) rfl rfl rfl ⟨rfl, rfl⟩ hN20 hR20 (by simp) (by omega) (fun S21 hN21 hX21 hR21 => ?_)
  have hA21 := (hX21 (a) (by omega)).1.trans hA20
  refine v_aload_n dX1_init_90 rfl ?_
  refine v_bipush dX1_init_91 (by decide) ?_
  refine y_newI (b := a + 51) (n := 25) (bc2 := 0) (bs2 := 0) dX1_init_93 hN21 rfl (by decide) (by omega) rfl rfl (fun S22 hN22 hB22 hC22 => ?_)
  have hN22 : Nw S22 (a + 52) I := hN22
  have hA22 := (hB22 (a) (by omega)).1.trans hA21
  have hR22 := hR21.xb hB22 (by omega : a < a + 51)
  have hX22 : Xq S21 S22 (a) (a + 51) := XB.xq hB22
  refine y_putF (n := a + 52) dX1_init_95 fr_X1_58 hA22 (by decide) rfl rfl rfl ⟨rfl, rfl⟩ hN22 hR22 (by simp) (by omega) (fun S23 hN23 hX23 hR23 => ?_)
  have hA23 := (hX23 (a) (by omega)).1.trans hA22
  have Y22 := hX23
  have Y21 := hX22.tr Y22 (by omega)
  have Y20 := hX21.tr Y21 (by omega)
  have Y19 := hX20.tr Y20 (by omega)
  have Y18 := hX19.tr Y19 (by omega)
  have Y17 := hX18.tr Y18 (by omega)
  have Y16 := hX17.tr Y17 (by omega)
  have Y15 := hX16.tr Y16 (by omega)
  have Y14 := hX15.tr Y15 (by omega)
  have Y13 := hX14.tr Y14 (by omega)
  have Y12 := hX13.tr Y13 (by omega)
  have Y11 := hX12.tr Y12 (by omega)
  have Y10 := hX11.tr Y11 (by omega)
  have Y9 := hX10.tr Y10 (by omega)
  have Y8 := hX9.tr Y9 (by omega)
  have Y7 := hX8.tr Y8 (by omega)
  have Y6 := hX7.tr Y7 (by omega)
  have Y5 := hX6.tr Y6 (by omega)
  have Y4 := hX5.tr Y5 (by omega)
  have Y3 := hX4.tr Y4 (by omega)
  have Y2 := hX3.tr Y3 (by omega)
  have Y1 := hX2.tr Y2 (by omega)
  have Y0 := hX1.tr Y1 (by omega)
  exact y_ret dX1_init_98 rfl hN23 (fun x hx => ⟨(Y0 x (by omega)).1, (Y0 x (by omega)).2 (by omega)⟩) (⟨hA23, (hR23 0).trans rfl, (hR23 1).trans rfl, (hR23 2).trans rfl, (hR23 3).trans rfl, (hR23 4).trans rfl, (hR23 5).trans rfl, (Y14 (a + 47) (by omega)).1.trans hC14, (hR23 6).trans rfl, (Y16 (a + 48) (by omega)).1.trans hC16, (hR23 7).trans rfl, (Y18 (a + 49) (by omega)).1.trans hC18, (hR23 8).trans rfl, (Y20 (a + 50) (by omega)).1.trans hC20, (hR23 9).trans rfl, (Y22 (a + 51) (by omega)).1.trans hC22, isRes_x hP3 Y3 (by omega) (by omega), isChs_x hP6 Y6 (by omega) (by omega), isFat_x hP9 Y9 (by omega) (by omega), isLog_x hP12 Y12 (by omega) (by omega), isEl_x hE Y0 (by omega) (by omega), hsp⟩)
