/-! THE MODEL: declarations, needed, undo, snapshots, counts -/
theorem de_rows {K : II} : cpy (cpy (cpy (up (up (up K 508 43 1) 508 44 (K 508 15)) 508 45 (K 508 32)) 515 537 0 0 192) 525 538 0 0 8) 530 539 0 0 8 = deM K := rfl

set_option maxRecDepth 100000 in
set_option maxHeartbeats 4000000 in
theorem k_declare {l : Launch} {g : GV} {S : SS} {I : II} {X : XX} {K : II} (hfl : l.stackTraces = false) (hM : isMod S) (hMI : MI I) (hK : knO (up I 508 6 0) = some K) : CE l g mX9_declare 7 [.ref 508] S I X (some (.int (ii (K 508 32)))) (deM K) := by
  obtain ⟨m0, ⟨p509, q509⟩, ⟨p510, q510⟩, ⟨p511, q511⟩, ⟨p512, q512⟩, ⟨p513, q513⟩, ⟨p514, q514⟩, ⟨p515, q515⟩, ⟨p516, q516⟩, ⟨p517, q517⟩, ⟨p518, q518⟩, ⟨p519, q519⟩, ⟨p520, q520⟩, ⟨p521, q521⟩, ⟨p522, q522⟩, ⟨p523, q523⟩, ⟨p524, q524⟩, ⟨p525, q525⟩, ⟨p526, q526⟩, ⟨p527, q527⟩, ⟨p528, q528⟩, ⟨p529, q529⟩, ⟨p530, q530⟩, ⟨p531, q531⟩, ⟨p532, q532⟩, ⟨p533, q533⟩, ⟨p534, q534⟩, ⟨p535, q535⟩, ⟨p536, q536⟩, ⟨p537, q537⟩, ⟨p538, q538⟩, ⟨p539, q539⟩, ⟨p540, q540⟩⟩ := id hM
  refine v_startE hfl rfl (by decide) (Nat.le_of_ble_eq_true rfl) (ls := [some (.ref 508)]) rfl ?_
  refine v_aload_n dX9_declare_0 rfl ?_
  refine v_iconst dX9_declare_1 ?_
  refine v_puti dX9_declare_2 fr_X9_115 (by assumption) (by decide) rfl ?_
  refine v_aload_n dX9_declare_5 rfl ?_
  refine v_cV0n dX9_declare_6 lk_X9_294 (by assumption) (by decide) rfl (k_know hfl hM (MI_up hMI (by omega) (by omega)) hK) (by decide) (Nat.le_of_ble_eq_true rfl) ?_ rfl
  refine v_aload_n dX9_declare_9 rfl ?_
  refine v_iconst dX9_declare_10 ?_
  refine v_putz dX9_declare_11 fr_X9_129 (by assumption) (by decide) rfl (by first | exact Or.inl rfl | exact Or.inr rfl | omega) ?_
  refine v_aload_n dX9_declare_14 rfl ?_
  refine v_aload_n dX9_declare_15 rfl ?_
  refine v_geti dX9_declare_16 fr_X9_212 (by assumption) (by decide) rfl ?_
  rw [up_nk (by omega)]
  refine v_puti dX9_declare_19 fr_X9_306 (by assumption) (by decide) rfl ?_
  refine v_aload_n dX9_declare_22 rfl ?_
  refine v_aload_n dX9_declare_23 rfl ?_
  refine v_geti dX9_declare_24 fr_X9_215 (by assumption) (by decide) rfl ?_
  rw [up_nk (by omega), up_nk (by omega)]
  refine v_puti dX9_declare_27 fr_X9_309 (by assumption) (by decide) rfl ?_
  refine v_aload_n dX9_declare_30 rfl ?_
  refine v_getr dX9_declare_31 fr_X9_32 (by assumption) (by decide) rfl (by assumption) ?_
  refine v_iconst dX9_declare_34 ?_
  refine v_aload_n dX9_declare_35 rfl ?_
  refine v_getr dX9_declare_36 fr_X9_99 (by assumption) (by decide) rfl (by assumption) ?_
  refine v_iconst dX9_declare_39 ?_
  refine v_sipush dX9_declare_40 (by decide) ?_
  refine v_copy (sp := 0) (dq := 0) (n := 192) dX9_declare_43 cy_X9_136 (by assumption) (by assumption) (by first | rfl | omega) (by first | rfl | omega) (by first | rfl | omega) (by omega) (by omega) (by decide) (Nat.le_of_ble_eq_true rfl) ?_
  refine v_aload_n dX9_declare_46 rfl ?_
  refine v_getr dX9_declare_47 fr_X9_62 (by assumption) (by decide) rfl (by assumption) ?_
  refine v_iconst dX9_declare_50 ?_
  refine v_aload_n dX9_declare_51 rfl ?_
  refine v_getr dX9_declare_52 fr_X9_102 (by assumption) (by decide) rfl (by assumption) ?_
  refine v_iconst dX9_declare_55 ?_
  refine v_bipush dX9_declare_56 (by decide) ?_
  refine v_copy (sp := 0) (dq := 0) (n := 8) dX9_declare_58 cy_X9_136 (by assumption) (by assumption) (by first | rfl | omega) (by first | rfl | omega) (by first | rfl | omega) (by omega) (by omega) (by decide) (Nat.le_of_ble_eq_true rfl) ?_
  refine v_aload_n dX9_declare_61 rfl ?_
  refine v_getr dX9_declare_62 fr_X9_77 (by assumption) (by decide) rfl (by assumption) ?_
  refine v_iconst dX9_declare_65 ?_
  refine v_aload_n dX9_declare_66 rfl ?_
  refine v_getr dX9_declare_67 fr_X9_105 (by assumption) (by decide) rfl (by assumption) ?_
  refine v_iconst dX9_declare_70 ?_
  refine v_bipush dX9_declare_71 (by decide) ?_
  refine v_copy (sp := 0) (dq := 0) (n := 8) dX9_declare_73 cy_X9_136 (by assumption) (by assumption) (by first | rfl | omega) (by first | rfl | omega) (by first | rfl | omega) (by omega) (by omega) (by decide) (Nat.le_of_ble_eq_true rfl) ?_
  refine v_aload_n dX9_declare_76 rfl ?_
  refine v_geti dX9_declare_77 fr_X9_215 (by assumption) (by decide) rfl ?_
  rw [cpy_ne (by omega), cpy_ne (by omega), cpy_ne (by omega), up_nk (by omega), up_nk (by omega), up_nk (by omega)]
  exact v_iE dX9_declare_80 rfl (rfl) (rfl)

set_option maxRecDepth 100000 in
set_option maxHeartbeats 4000000 in
theorem k_differentStatus {l : Launch} {g : GV} {S : SS} {I : II} {X : XX} (hfl : l.stackTraces = false) (hM : isMod S) (hMI : MI I) : CE l g mX9_differentStatus 0 [.ref 508] S I X (some (.int (ii (dsM I (I 509 0).toNat)))) I := by
  obtain ⟨m0, ⟨p509, q509⟩, ⟨p510, q510⟩, ⟨p511, q511⟩, ⟨p512, q512⟩, ⟨p513, q513⟩, ⟨p514, q514⟩, ⟨p515, q515⟩, ⟨p516, q516⟩, ⟨p517, q517⟩, ⟨p518, q518⟩, ⟨p519, q519⟩, ⟨p520, q520⟩, ⟨p521, q521⟩, ⟨p522, q522⟩, ⟨p523, q523⟩, ⟨p524, q524⟩, ⟨p525, q525⟩, ⟨p526, q526⟩, ⟨p527, q527⟩, ⟨p528, q528⟩, ⟨p529, q529⟩, ⟨p530, q530⟩, ⟨p531, q531⟩, ⟨p532, q532⟩, ⟨p533, q533⟩, ⟨p534, q534⟩, ⟨p535, q535⟩, ⟨p536, q536⟩, ⟨p537, q537⟩, ⟨p538, q538⟩, ⟨p539, q539⟩, ⟨p540, q540⟩⟩ := id hM
  obtain ⟨w0, w1, w2, w3, w4, w5, w6, w7, w8, w9, w10⟩ := id hMI.1
  obtain ⟨n, hn⟩ := Int.eq_ofNat_of_zero_le (show 0 ≤ I 509 0 by omega)
  rw [show (I 509 0).toNat = n by rw [hn]; rfl]
  have L : ∀ k : Nat, k ≤ n → V l g mX9_differentStatus 0 (Zm g (QE (some (.int (ii (dsM I n)))) S I X)) 0 0 4 [some (.ref 508), some (.int (ii (dsM I k))), some (.int (ii (k : Int)))] [] S I X := by
    refine loop_up fun k hk ih => ?_
    refine v_iload_n dX9_differentStatus_4 rfl ?_
    refine v_aload_n dX9_differentStatus_5 rfl ?_
    refine v_getr dX9_differentStatus_6 fr_X9_9 (by assumption) (by decide) rfl (by assumption) ?_
    refine v_iconst dX9_differentStatus_9 ?_
    refine v_iald (j := 0) dX9_differentStatus_10 (by assumption) rfl (by omega) ?_
    rw [hn]
    refine v_ic_ge (tgt := 43) dX9_differentStatus_11 (by decide) (fun h11 => ?_) (fun h11 => ?_)
    · obtain rfl : k = n := by omega
      refine v_iload_n dX9_differentStatus_43 rfl ?_
      exact v_iE dX9_differentStatus_44 rfl (rfl) (rfl)
    · have g1 := hMI.2 525 k
      have g2 := hMI.2 538 k
      have ex : dsM I (k + 1) = dsM I k + if I 525 k = I 538 k then 0 else 1 := rfl
      refine v_iload_n dX9_differentStatus_14 rfl ?_
      refine v_aload_n dX9_differentStatus_15 rfl ?_
      refine v_getr dX9_differentStatus_16 fr_X9_62 (by assumption) (by decide) rfl (by assumption) ?_
      refine v_iload_n dX9_differentStatus_19 rfl ?_
      refine v_iald (j := k) dX9_differentStatus_20 (by assumption) (by first | rfl | omega) (by omega) ?_
      refine v_aload_n dX9_differentStatus_21 rfl ?_
      refine v_getr dX9_differentStatus_22 fr_X9_102 (by assumption) (by decide) rfl (by assumption) ?_
      refine v_iload_n dX9_differentStatus_25 rfl ?_
      refine v_iald (j := k) dX9_differentStatus_26 (by assumption) (by first | rfl | omega) (by omega) ?_
      refine v_ic_eq (tgt := 34) dX9_differentStatus_27 (by decide) (fun h27 => ?_) (fun h27 => ?_)
      · refine v_iconst dX9_differentStatus_34 ?_
        refine v_iadd dX9_differentStatus_35 ?_
        refine v_istn1 dX9_differentStatus_36 rfl ?_
        refine v_iinc2 dX9_differentStatus_37 rfl ?_
        refine v_goto (tgt := 4) dX9_differentStatus_40 (by decide) ?_
        have q9 := ih (k + 1) (by omega) (by omega)
        rw [ex] at q9
        first
          | (rw [if_pos (by omega)] at q9; exact q9)
          | (rw [if_neg (by omega)] at q9; exact q9)
      · refine v_iconst dX9_differentStatus_30 ?_
        refine v_goto (tgt := 35) dX9_differentStatus_31 (by decide) ?_
        refine v_iadd dX9_differentStatus_35 ?_
        refine v_istn1 dX9_differentStatus_36 rfl ?_
        refine v_iinc2 dX9_differentStatus_37 rfl ?_
        refine v_goto (tgt := 4) dX9_differentStatus_40 (by decide) ?_
        have q9 := ih (k + 1) (by omega) (by omega)
        rw [ex] at q9
        first
          | (rw [if_pos (by omega)] at q9; exact q9)
          | (rw [if_neg (by omega)] at q9; exact q9)
  refine v_startE hfl rfl (by decide) (Nat.le_of_ble_eq_true rfl) (ls := [some (.ref 508), none, none]) rfl ?_
  refine v_iconst dX9_differentStatus_0 ?_
  refine v_istn1 dX9_differentStatus_1 rfl ?_
  refine v_iconst dX9_differentStatus_2 ?_
  refine v_istn2 dX9_differentStatus_3 rfl ?_
  exact L 0 (Nat.zero_le _)

theorem mn_le (a b : Int) : mnI a b ≤ a ∧ mnI a b ≤ b ∧ (mnI a b = a ∨ mnI a b = b) := by unfold mnI; split <;> omega
theorem dw_le (J : II) : ∀ f k, k ≤ dwM J f k ∧ dwM J f k ≤ k + f
  | 0, k => ⟨Nat.le_refl _, Nat.le_refl _⟩
  | f + 1, k => by
    have := dw_le J f (k + 1)
    unfold dwM
    split <;> omega

set_option maxRecDepth 100000 in
set_option maxHeartbeats 4000000 in
theorem k_differentWinner {l : Launch} {g : GV} {S : SS} {I : II} {X : XX} (hfl : l.stackTraces = false) (hM : isMod S) (hMI : MI I) (hd : (0 ≤ I 508 32 ∧ I 508 32 ≤ 8) ∧ 0 ≤ I 508 45 ∧ I 508 45 ≤ 8) : CE l g mX9_differentWinner 1 [.ref 508] S I X (some (.int (ii (dwA I)))) I := by
  obtain ⟨m0, ⟨p509, q509⟩, ⟨p510, q510⟩, ⟨p511, q511⟩, ⟨p512, q512⟩, ⟨p513, q513⟩, ⟨p514, q514⟩, ⟨p515, q515⟩, ⟨p516, q516⟩, ⟨p517, q517⟩, ⟨p518, q518⟩, ⟨p519, q519⟩, ⟨p520, q520⟩, ⟨p521, q521⟩, ⟨p522, q522⟩, ⟨p523, q523⟩, ⟨p524, q524⟩, ⟨p525, q525⟩, ⟨p526, q526⟩, ⟨p527, q527⟩, ⟨p528, q528⟩, ⟨p529, q529⟩, ⟨p530, q530⟩, ⟨p531, q531⟩, ⟨p532, q532⟩, ⟨p533, q533⟩, ⟨p534, q534⟩, ⟨p535, q535⟩, ⟨p536, q536⟩, ⟨p537, q537⟩, ⟨p538, q538⟩, ⟨p539, q539⟩, ⟨p540, q540⟩⟩ := id hM
  have hmn := mn_le (I 508 32) (I 508 45)
  obtain ⟨m, hm⟩ := Int.eq_ofNat_of_zero_le (show 0 ≤ mnI (I 508 32) (I 508 45) by omega)
  have hb : bwM I = m := by unfold bwM; rw [hm]; rfl
  have L : ∀ k : Nat, k ≤ m → dwM I (m - k) k = dwM I (bwM I) 0 → V l g mX9_differentWinner 1 (Zm g (QE (some (.int (ii (dwA I)))) S I X)) 0 0 14 [some (.ref 508), some (.int (ii (m : Int))), some (.int (ii (k : Int)))] [] S I X := by
    refine loop_up fun k hk ih => ?_
    intro hk9
    refine v_iload_n dX9_differentWinner_14 rfl ?_
    refine v_iload_n dX9_differentWinner_15 rfl ?_
    refine v_ic_ge (tgt := 40) dX9_differentWinner_16 (by decide) (fun h16 => ?_) (fun h16 => ?_)
    · have hf : dwM I (bwM I) 0 = k := by
        rw [← hk9]
        first
          | (rw [show m - k = 0 by omega]; rfl)
          | (rw [ex, if_neg (by omega)])
      have g3 := hMI.2 508 32
      refine v_iload_n dX9_differentWinner_40 rfl ?_
      refine v_iload_n dX9_differentWinner_41 rfl ?_
      refine v_ic_lt (tgt := 56) dX9_differentWinner_42 (by decide) (fun h42 => ?_) (fun h42 => ?_)
      · refine v_iload_n dX9_differentWinner_56 rfl ?_
        refine v_goto (tgt := 61) dX9_differentWinner_57 (by decide) ?_
        first
          | (exfalso; omega)
          | exact v_iE dX9_differentWinner_61 rfl (by unfold dwA; rw [if_pos (by omega), hf]) rfl
          | exact v_iE dX9_differentWinner_61 rfl (by unfold dwA; rw [if_neg (by omega)]) rfl
      · refine v_aload_n dX9_differentWinner_45 rfl ?_
        refine v_geti dX9_differentWinner_46 fr_X9_215 (by assumption) (by decide) rfl ?_
        refine v_aload_n dX9_differentWinner_49 rfl ?_
        refine v_geti dX9_differentWinner_50 fr_X9_309 (by assumption) (by decide) rfl ?_
        refine v_ic_eq (tgt := 60) dX9_differentWinner_53 (by decide) (fun h53 => ?_) (fun h53 => ?_)
        · refine v_iconst dX9_differentWinner_60 ?_
          first
            | (exfalso; omega)
            | exact v_iE dX9_differentWinner_61 rfl (by unfold dwA; rw [if_pos (by omega), hf]) rfl
            | exact v_iE dX9_differentWinner_61 rfl (by unfold dwA; rw [if_neg (by omega)]) rfl
        · refine v_iload_n dX9_differentWinner_56 rfl ?_
          refine v_goto (tgt := 61) dX9_differentWinner_57 (by decide) ?_
          first
            | (exfalso; omega)
            | exact v_iE dX9_differentWinner_61 rfl (by unfold dwA; rw [if_pos (by omega), hf]) rfl
            | exact v_iE dX9_differentWinner_61 rfl (by unfold dwA; rw [if_neg (by omega)]) rfl
    · have g1 := hMI.2 530 k
      have g2 := hMI.2 539 k
      have ex : dwM I (m - k) k = if I 530 k = I 539 k then dwM I (m - (k + 1)) (k + 1) else k := by
        rw [show m - k = (m - (k + 1)) + 1 by omega]
        rfl
      refine v_aload_n dX9_differentWinner_19 rfl ?_
      refine v_getr dX9_differentWinner_20 fr_X9_77 (by assumption) (by decide) rfl (by assumption) ?_
      refine v_iload_n dX9_differentWinner_23 rfl ?_
      refine v_iald (j := k) dX9_differentWinner_24 (by assumption) (by first | rfl | omega) (by omega) ?_
      refine v_aload_n dX9_differentWinner_25 rfl ?_
      refine v_getr dX9_differentWinner_26 fr_X9_105 (by assumption) (by decide) rfl (by assumption) ?_
      refine v_iload_n dX9_differentWinner_29 rfl ?_
      refine v_iald (j := k) dX9_differentWinner_30 (by assumption) (by first | rfl | omega) (by omega) ?_
      refine v_ic_ne (tgt := 40) dX9_differentWinner_31 (by decide) (fun h31 => ?_) (fun h31 => ?_)
      · have hf : dwM I (bwM I) 0 = k := by
          rw [← hk9]
          first
            | (rw [show m - k = 0 by omega]; rfl)
            | (rw [ex, if_neg (by omega)])
        have g3 := hMI.2 508 32
        refine v_iload_n dX9_differentWinner_40 rfl ?_
        refine v_iload_n dX9_differentWinner_41 rfl ?_
        refine v_ic_lt (tgt := 56) dX9_differentWinner_42 (by decide) (fun h42 => ?_) (fun h42 => ?_)
        · refine v_iload_n dX9_differentWinner_56 rfl ?_
          refine v_goto (tgt := 61) dX9_differentWinner_57 (by decide) ?_
          first
            | (exfalso; omega)
            | exact v_iE dX9_differentWinner_61 rfl (by unfold dwA; rw [if_pos (by omega), hf]) rfl
            | exact v_iE dX9_differentWinner_61 rfl (by unfold dwA; rw [if_neg (by omega)]) rfl
        · refine v_aload_n dX9_differentWinner_45 rfl ?_
          refine v_geti dX9_differentWinner_46 fr_X9_215 (by assumption) (by decide) rfl ?_
          refine v_aload_n dX9_differentWinner_49 rfl ?_
          refine v_geti dX9_differentWinner_50 fr_X9_309 (by assumption) (by decide) rfl ?_
          refine v_ic_eq (tgt := 60) dX9_differentWinner_53 (by decide) (fun h53 => ?_) (fun h53 => ?_)
          · refine v_iconst dX9_differentWinner_60 ?_
            first
              | (exfalso; omega)
              | exact v_iE dX9_differentWinner_61 rfl (by unfold dwA; rw [if_pos (by omega), hf]) rfl
              | exact v_iE dX9_differentWinner_61 rfl (by unfold dwA; rw [if_neg (by omega)]) rfl
          · refine v_iload_n dX9_differentWinner_56 rfl ?_
            refine v_goto (tgt := 61) dX9_differentWinner_57 (by decide) ?_
            first
              | (exfalso; omega)
              | exact v_iE dX9_differentWinner_61 rfl (by unfold dwA; rw [if_pos (by omega), hf]) rfl
              | exact v_iE dX9_differentWinner_61 rfl (by unfold dwA; rw [if_neg (by omega)]) rfl
      · refine v_iinc2 dX9_differentWinner_34 rfl ?_
        refine v_goto (tgt := 14) dX9_differentWinner_37 (by decide) ?_
        exact ih (k + 1) (by omega) (by omega) (by rw [← hk9, ex, if_pos (by omega)])
  refine v_startE hfl rfl (by decide) (Nat.le_of_ble_eq_true rfl) (ls := [some (.ref 508), none, none]) rfl ?_
  refine v_aload_n dX9_differentWinner_0 rfl ?_
  refine v_geti dX9_differentWinner_1 fr_X9_215 (by assumption) (by decide) rfl ?_
  refine v_aload_n dX9_differentWinner_4 rfl ?_
  refine v_geti dX9_differentWinner_5 fr_X9_309 (by assumption) (by decide) rfl ?_
  refine v_mmin dX9_differentWinner_8 lk_X9_312 (by decide) (Nat.le_of_ble_eq_true rfl) ?_
  rw [hm]
  refine v_istn1 dX9_differentWinner_11 rfl ?_
  refine v_iconst dX9_differentWinner_12 ?_
  refine v_istn2 dX9_differentWinner_13 rfl ?_
  exact L 0 (Nat.zero_le _) (by rw [hb]; rfl)

theorem dv8 (k : Nat) (hk : k < 1000) : dvI (k : Int) 8 = ((k / 8 : Nat) : Int) := by
  have : ∀ k : Nat, k < 1000 → dvI (k : Int) 8 = ((k / 8 : Nat) : Int) := by decide +kernel
  exact this k hk

set_option maxRecDepth 100000 in
set_option maxHeartbeats 4000000 in
theorem k_differentRound {l : Launch} {g : GV} {S : SS} {I : II} {X : XX} (hfl : l.stackTraces = false) (hM : isMod S) (hMI : MI I) (hd : (0 ≤ I 508 15 ∧ I 508 15 ≤ 9) ∧ 0 ≤ I 508 44 ∧ I 508 44 ≤ 9) : CE l g mX9_differentRound 1 [.ref 508] S I X (some (.int (ii (drM I (8 * brM I) 0)))) I := by
  obtain ⟨m0, ⟨p509, q509⟩, ⟨p510, q510⟩, ⟨p511, q511⟩, ⟨p512, q512⟩, ⟨p513, q513⟩, ⟨p514, q514⟩, ⟨p515, q515⟩, ⟨p516, q516⟩, ⟨p517, q517⟩, ⟨p518, q518⟩, ⟨p519, q519⟩, ⟨p520, q520⟩, ⟨p521, q521⟩, ⟨p522, q522⟩, ⟨p523, q523⟩, ⟨p524, q524⟩, ⟨p525, q525⟩, ⟨p526, q526⟩, ⟨p527, q527⟩, ⟨p528, q528⟩, ⟨p529, q529⟩, ⟨p530, q530⟩, ⟨p531, q531⟩, ⟨p532, q532⟩, ⟨p533, q533⟩, ⟨p534, q534⟩, ⟨p535, q535⟩, ⟨p536, q536⟩, ⟨p537, q537⟩, ⟨p538, q538⟩, ⟨p539, q539⟩, ⟨p540, q540⟩⟩ := id hM
  have hmn := mn_le (I 508 15) (I 508 44)
  obtain ⟨m, hm⟩ := Int.eq_ofNat_of_zero_le (show 0 ≤ mnI (I 508 15) (I 508 44) by omega)
  have hb : brM I = m := by unfold brM; rw [hm]; rfl
  have L : ∀ k : Nat, k ≤ 8 * m → drM I (8 * m - k) k = drM I (8 * brM I) 0 → V l g mX9_differentRound 1 (Zm g (QE (some (.int (ii (drM I (8 * brM I) 0)))) S I X)) 0 0 14 [some (.ref 508), some (.int (ii (m : Int))), some (.int (ii (k : Int)))] [] S I X := by
    refine loop_up fun k hk ih => ?_
    intro hk9
    refine v_iload_n dX9_differentRound_14 rfl ?_
    refine v_bipush dX9_differentRound_15 (by decide) ?_
    refine v_iload_n dX9_differentRound_17 rfl ?_
    refine v_imul dX9_differentRound_18 ?_
    refine v_ic_ge (tgt := 48) dX9_differentRound_19 (by decide) (fun h19 => ?_) (fun h19 => ?_)
    · refine v_aload_n dX9_differentRound_48 rfl ?_
      refine v_geti dX9_differentRound_49 fr_X9_212 (by assumption) (by decide) rfl ?_
      refine v_aload_n dX9_differentRound_52 rfl ?_
      refine v_geti dX9_differentRound_53 fr_X9_306 (by assumption) (by decide) rfl ?_
      refine v_ic_eq (tgt := 63) dX9_differentRound_56 (by decide) (fun h56 => ?_) (fun h56 => ?_)
      · refine v_iconst dX9_differentRound_63 ?_
        first
          | exact v_iE dX9_differentRound_64 rfl (by rw [← hk9, show 8 * m - k = 0 by omega]; unfold drM; rw [if_pos (by omega)]) rfl
          | exact v_iE dX9_differentRound_64 rfl (by rw [← hk9, show 8 * m - k = 0 by omega]; unfold drM; rw [if_neg (by omega), hb]) rfl
      · refine v_iload_n dX9_differentRound_59 rfl ?_
        refine v_goto (tgt := 64) dX9_differentRound_60 (by decide) ?_
        first
          | exact v_iE dX9_differentRound_64 rfl (by rw [← hk9, show 8 * m - k = 0 by omega]; unfold drM; rw [if_pos (by omega)]) rfl
          | exact v_iE dX9_differentRound_64 rfl (by rw [← hk9, show 8 * m - k = 0 by omega]; unfold drM; rw [if_neg (by omega), hb]) rfl
    · have g1 := hMI.2 515 k
      have g2 := hMI.2 537 k
      have ex : drM I (8 * m - k) k = if I 515 k = I 537 k then drM I (8 * m - (k + 1)) (k + 1) else (k / 8 : Nat) := by
        rw [show 8 * m - k = (8 * m - (k + 1)) + 1 by omega]
        rfl
      refine v_aload_n dX9_differentRound_22 rfl ?_
      refine v_getr dX9_differentRound_23 fr_X9_32 (by assumption) (by decide) rfl (by assumption) ?_
      refine v_iload_n dX9_differentRound_26 rfl ?_
      refine v_iald (j := k) dX9_differentRound_27 (by assumption) (by first | rfl | omega) (by omega) ?_
      refine v_aload_n dX9_differentRound_28 rfl ?_
      refine v_getr dX9_differentRound_29 fr_X9_99 (by assumption) (by decide) rfl (by assumption) ?_
      refine v_iload_n dX9_differentRound_32 rfl ?_
      refine v_iald (j := k) dX9_differentRound_33 (by assumption) (by first | rfl | omega) (by omega) ?_
      refine v_ic_eq (tgt := 42) dX9_differentRound_34 (by decide) (fun h34 => ?_) (fun h34 => ?_)
      · refine v_iinc2 dX9_differentRound_42 rfl ?_
        refine v_goto (tgt := 14) dX9_differentRound_45 (by decide) ?_
        exact ih (k + 1) (by omega) (by omega) (by rw [← hk9, ex, if_pos (by omega)])
      · refine v_iload_n dX9_differentRound_37 rfl ?_
        refine v_bipush dX9_differentRound_38 (by decide) ?_
        refine v_idiv (z := ((k / 8 : Nat) : Int)) dX9_differentRound_40 (ii_ne0 (by omega) (by omega)) (by rw [dvI_ii]; exact congrArg ii (dv8 k (by omega))) ?_
        exact v_iE dX9_differentRound_41 rfl (by rw [← hk9, ex, if_neg (by omega)]) (rfl)
  refine v_startE hfl rfl (by decide) (Nat.le_of_ble_eq_true rfl) (ls := [some (.ref 508), none, none]) rfl ?_
  refine v_aload_n dX9_differentRound_0 rfl ?_
  refine v_geti dX9_differentRound_1 fr_X9_212 (by assumption) (by decide) rfl ?_
  refine v_aload_n dX9_differentRound_4 rfl ?_
  refine v_geti dX9_differentRound_5 fr_X9_306 (by assumption) (by decide) rfl ?_
  refine v_mmin dX9_differentRound_8 lk_X9_312 (by decide) (Nat.le_of_ble_eq_true rfl) ?_
  rw [hm]
  refine v_istn1 dX9_differentRound_11 rfl ?_
  refine v_iconst dX9_differentRound_12 ?_
  refine v_istn2 dX9_differentRound_13 rfl ?_
  exact L 0 (Nat.zero_le _) (by rw [hb]; rfl)

set_option maxRecDepth 100000 in
set_option maxHeartbeats 4000000 in
theorem k_recount {l : Launch} {g : GV} {S : SS} {I : II} {X : XX} {K1 : II} {w : Int} (hfl : l.stackTraces = false) (hM : isMod S) (hMI : MI I) (hK : tRc I w = 0 → ∃ K, knO (up I 508 6 0) = some K ∧ KO1 K ∧ DO K ∧ K = K1) (hw : -2147483648 ≤ w ∧ w < 2147483648) : CE l g mX9_recount 8 [.ref 508, .int (ii w)] S I X (some (.int (ii ((if tRc I w ≤ 0 then (rcM K1 w, K1) else (0, up I 508 6 (tRc I w)))).1))) ((if tRc I w ≤ 0 then (rcM K1 w, K1) else (0, up I 508 6 (tRc I w)))).2 := by
  obtain ⟨m0, ⟨p509, q509⟩, ⟨p510, q510⟩, ⟨p511, q511⟩, ⟨p512, q512⟩, ⟨p513, q513⟩, ⟨p514, q514⟩, ⟨p515, q515⟩, ⟨p516, q516⟩, ⟨p517, q517⟩, ⟨p518, q518⟩, ⟨p519, q519⟩, ⟨p520, q520⟩, ⟨p521, q521⟩, ⟨p522, q522⟩, ⟨p523, q523⟩, ⟨p524, q524⟩, ⟨p525, q525⟩, ⟨p526, q526⟩, ⟨p527, q527⟩, ⟨p528, q528⟩, ⟨p529, q529⟩, ⟨p530, q530⟩, ⟨p531, q531⟩, ⟨p532, q532⟩, ⟨p533, q533⟩, ⟨p534, q534⟩, ⟨p535, q535⟩, ⟨p536, q536⟩, ⟨p537, q537⟩, ⟨p538, q538⟩, ⟨p539, q539⟩, ⟨p540, q540⟩⟩ := id hM
  obtain ⟨w0, w1, w2, w3, w4, w5, w6, w7, w8, w9, w10⟩ := id hMI.1
  have Mt : ∀ T : Int, T = tRc I w → V l g mX9_recount 8 (Zm g (QE (some (.int (ii ((if tRc I w ≤ 0 then (rcM K1 w, K1) else (0, up I 508 6 (tRc I w)))).1))) S ((if tRc I w ≤ 0 then (rcM K1 w, K1) else (0, up I 508 6 (tRc I w)))).2 X)) 0 0 26 [some (.ref 508), some (.int (ii w))] [.int (ii T), .ref 508] S I X := by
    intro T hTf
    subst hTf
    refine v_puti dX9_recount_26 fr_X9_115 (by assumption) (by decide) rfl ?_
    refine v_aload_n dX9_recount_29 rfl ?_
    refine v_geti dX9_recount_30 fr_X9_115 (by assumption) (by decide) rfl ?_
    rw [up_eq]
    have t01 : tRc I w = 0 ∨ tRc I w = 1 ∨ tRc I w = 2 := by unfold tRc; split <;> (try split) <;> omega
    refine v_if_le (tgt := 38) dX9_recount_33 (by decide) (fun h33 => ?_) (fun h33 => ?_)
    · obtain ⟨K, hK9, hO, ⟨o4, o5⟩, rfl⟩ := hK (by omega)
      obtain ⟨o1, o2, o3⟩ := id hO
      rw [show tRc I w = 0 by omega]
      refine v_aload_n dX9_recount_38 rfl ?_
      refine v_cV0n dX9_recount_39 lk_X9_294 (by assumption) (by decide) rfl (k_know hfl hM (MI_up hMI (by omega) (by omega)) hK9) (by decide) (Nat.le_of_ble_eq_true rfl) ?_ rfl
      refine v_iload_n dX9_recount_42 rfl ?_
      refine v_if_ne (tgt := 53) dX9_recount_43 (by decide) (fun h43 => ?_) (fun h43 => ?_)
      · refine v_iload_n dX9_recount_53 rfl ?_
        refine v_iconst dX9_recount_54 ?_
        refine v_ic_ne (tgt := 65) dX9_recount_55 (by decide) (fun h55 => ?_) (fun h55 => ?_)
        · refine v_aload_n dX9_recount_65 rfl ?_
          refine v_cV0 dX9_recount_66 lk_X9_320 (by assumption) (by decide) rfl (k_differentRound hfl hM o1 ⟨⟨by omega, o2.2⟩, o4⟩) (by decide) (Nat.le_of_ble_eq_true rfl) ?_ rfl
          first
            | exact v_iE dX9_recount_69 rfl (by rw [if_pos (by omega)]; unfold rcM; rw [if_pos (by omega)]) (by rw [if_pos (by omega)])
            | exact v_iE dX9_recount_69 rfl (by rw [if_pos (by omega)]; unfold rcM; rw [if_neg (by omega), if_pos (by omega)]) (by rw [if_pos (by omega)])
            | exact v_iE dX9_recount_69 rfl (by rw [if_pos (by omega)]; unfold rcM; rw [if_neg (by omega), if_neg (by omega)]) (by rw [if_pos (by omega)])
        · refine v_aload_n dX9_recount_58 rfl ?_
          refine v_cV0 dX9_recount_59 lk_X9_317 (by assumption) (by decide) rfl (k_differentWinner hfl hM o1 ⟨o3, o5⟩) (by decide) (Nat.le_of_ble_eq_true rfl) ?_ rfl
          refine v_goto (tgt := 69) dX9_recount_62 (by decide) ?_
          first
            | exact v_iE dX9_recount_69 rfl (by rw [if_pos (by omega)]; unfold rcM; rw [if_pos (by omega)]) (by rw [if_pos (by omega)])
            | exact v_iE dX9_recount_69 rfl (by rw [if_pos (by omega)]; unfold rcM; rw [if_neg (by omega), if_pos (by omega)]) (by rw [if_pos (by omega)])
            | exact v_iE dX9_recount_69 rfl (by rw [if_pos (by omega)]; unfold rcM; rw [if_neg (by omega), if_neg (by omega)]) (by rw [if_pos (by omega)])
      · refine v_aload_n dX9_recount_46 rfl ?_
        refine v_cV0 dX9_recount_47 lk_X9_314 (by assumption) (by decide) rfl (k_differentStatus hfl hM o1) (by decide) (Nat.le_of_ble_eq_true rfl) ?_ rfl
        refine v_goto (tgt := 69) dX9_recount_50 (by decide) ?_
        first
          | exact v_iE dX9_recount_69 rfl (by rw [if_pos (by omega)]; unfold rcM; rw [if_pos (by omega)]) (by rw [if_pos (by omega)])
          | exact v_iE dX9_recount_69 rfl (by rw [if_pos (by omega)]; unfold rcM; rw [if_neg (by omega), if_pos (by omega)]) (by rw [if_pos (by omega)])
          | exact v_iE dX9_recount_69 rfl (by rw [if_pos (by omega)]; unfold rcM; rw [if_neg (by omega), if_neg (by omega)]) (by rw [if_pos (by omega)])
    · refine v_iconst dX9_recount_36 ?_
      exact v_iE dX9_recount_37 rfl (by rw [if_neg (by omega)]) (by rw [if_neg (by omega)])
  refine v_startE hfl rfl (by decide) (Nat.le_of_ble_eq_true rfl) (ls := [some (.ref 508), some (.int (ii w))]) rfl ?_
  refine v_aload_n dX9_recount_0 rfl ?_
  refine v_iload_n dX9_recount_1 rfl ?_
  refine v_iconst dX9_recount_2 ?_
  refine v_iconst dX9_recount_3 ?_
  refine v_cS3 dX9_recount_4 lk_X9_118 (k_in hfl (by omega) (by omega) (by omega)) (by decide) (Nat.le_of_ble_eq_true rfl) ?_ rfl
  have hi := inF_01 w 0 2
  have g43 := hMI.2 508 43
  refine v_if_ne (tgt := 14) dX9_recount_7 (by decide) (fun h7 => ?_) (fun h7 => ?_)
  · refine v_aload_n dX9_recount_14 rfl ?_
    refine v_geti dX9_recount_15 fr_X9_129 (by assumption) (by decide) rfl ?_
    refine v_if_ne (tgt := 25) dX9_recount_18 (by decide) (fun h18 => ?_) (fun h18 => ?_)
    · refine v_iconst dX9_recount_25 ?_
      exact Mt _ (by unfold tRc; (repeat (first | rw [if_pos (by omega)] | rw [if_neg (by omega)])))
    · refine v_iconst dX9_recount_21 ?_
      refine v_goto (tgt := 26) dX9_recount_22 (by decide) ?_
      exact Mt _ (by unfold tRc; (repeat (first | rw [if_pos (by omega)] | rw [if_neg (by omega)])))
  · refine v_iconst dX9_recount_10 ?_
    refine v_goto (tgt := 26) dX9_recount_11 (by decide) ?_
    exact Mt _ (by unfold tRc; (repeat (first | rw [if_pos (by omega)] | rw [if_neg (by omega)])))

theorem nb_s {J : II} {p c x : Nat} (h : x ≠ 509) : nmB J p c x = J x := by
  unfold nmB
  rw [up_ne h, up_ne h, up_ne h]
theorem tf_s {r : Nat} {q la su al u2 : Int} {K : II} {x : Nat} (h1 : x ≠ 534) (h2 : x ≠ 536) (h3 : x ≠ 533) (h4 : x ≠ 531) (h5 : x ≠ 508) (h6 : x ≠ 535) : ∀ (j p : Nat) (J : II) (u : Int), tfL r q la su al j p J u = some (K, u2) → K x = J x
  | 0, _, J, u, h => by
    have h2 : some (J, u) = some (K, u2) := h
    obtain ⟨rfl, rfl⟩ : J = K ∧ u = u2 := by simpa using h2
    rfl
  | j + 1, p, J, u, h => by
    unfold tfL at h
    split at h
    · exact tf_s h1 h2 h3 h4 h5 h6 j (p + 1) J u h
    · split at h
      · rw [tf_s h1 h2 h3 h4 h5 h6 j (p + 1) _ _ h, goM_e h1 h2 h3 h4 h5]
        unfold tfS
        exact up_ne h6
      · cases h
theorem xc_s {r : Nat} {q : Int} {K : II} {x : Nat} (h1 : x ≠ 534) (h2 : x ≠ 536) (h3 : x ≠ 533) (h4 : x ≠ 531) (h5 : x ≠ 508) : ∀ (j p : Nat) (J : II), xcL r q j p J = some K → K x = J x
  | 0, _, J, h => by
    have h2 : some J = some K := h
    obtain rfl : J = K := by simpa using h2
    rfl
  | j + 1, p, J, h => by
    unfold xcL at h
    split at h
    · split at h
      · rw [xc_s h1 h2 h3 h4 h5 j (p + 1) _ h, goM_e h1 h2 h3 h4 h5]
      · cases h
    · exact xc_s h1 h2 h3 h4 h5 j (p + 1) J h
theorem wq_s {r : Nat} {qv : Int} {K : II} {x : Nat} (hx : x ≤ 507 ∨ (509 ≤ x ∧ x ≤ 521) ∨ (531 ≤ x)) (h2 : x ≠ 522) : ∀ (k : Nat) (J : II), wqL r qv k J = some K → K x = J x
  | 0, _, h => by cases h
  | k + 1, J, h => by
    unfold wqL at h
    split at h
    · split at h
      · rw [wq_s hx h2 k _ h, em_e (by omega) (by omega) (by omega) (by omega) (by omega) (by omega) (by omega)]
      · cases h
    · obtain rfl : J = K := by simpa using h
      rfl
theorem wa_s {r : Nat} {qv : Int} {K : II} {x : Nat} (hx : x ≤ 507 ∨ (509 ≤ x ∧ x ≤ 521) ∨ (531 ≤ x)) (h2 : x ≠ 522) : ∀ (k : Nat) (J : II), waL r qv k J = some K → K x = J x
  | 0, _, h => by cases h
  | k + 1, J, h => by
    unfold waL at h
    split at h
    · split at h
      · rw [wa_s hx h2 k _ h, em_e (by omega) (by omega) (by omega) (by omega) (by omega) (by omega) (by omega)]
      · cases h
    · obtain rfl : J = K := by simpa using h
      rfl
/-- a count leaves what is not its own -/
theorem cn_s {K : II} {x : Nat} (hx : x ≤ 507 ∨ (509 ≤ x ∧ x ≤ 514) ∨ 537 ≤ x) : ∀ (k r : Nat) (I : II), cnL k r I = some K → K x = I x
  | 0, _, _, h => by cases h
  | k + 1, r, I, h => by
    unfold cnL at h
    obtain ⟨⟨b, L⟩, hR, hT⟩ := Option.bind_eq_some_iff.mp h
    have hL : L x = I x := by
      unfold rdS at hR
      obtain ⟨K1, hQ, hR⟩ := Option.bind_eq_some_iff.mp hR
      have e1 : K1 x = I x := by rw [wq_s (by omega) (by omega) _ _ hQ, no_e (by omega) (by omega) (by omega) (by omega)]
      rw [← e1]
      unfold rdT at hR
      split at hR
      · split at hR
        · obtain ⟨L2, hL, h9⟩ := Option.map_eq_some_iff.mp hR
          obtain ⟨-, rfl⟩ : (0 : Int) = b ∧ L2 = L := by simpa using h9
          exact wa_s (by omega) (by omega) _ _ hL
        · split at hR
          · split at hR
            · obtain ⟨L2, hL, h9⟩ := Option.map_eq_some_iff.mp hR
              obtain ⟨-, rfl⟩ : (1 : Int) = b ∧ L2 = L := by simpa using h9
              unfold trO tfA at hL
              obtain ⟨⟨K2, u2⟩, hT2, rfl⟩ := Option.map_eq_some_iff.mp hL
              unfold tfE
              rw [hn_e (by omega) (by omega) (by omega), up_ne (by omega), up_ne (by omega), up_ne (by omega)]
              show K2 x = K1 x
              rw [tf_s (by omega) (by omega) (by omega) (by omega) (by omega) (by omega) _ _ _ _ hT2, lkM_ne (by omega)]
            · cases hR
          · obtain ⟨L2, hL, h9⟩ := Option.map_eq_some_iff.mp hR
            obtain ⟨-, rfl⟩ : (1 : Int) = b ∧ L2 = L := by simpa using h9
            unfold exO at hL
            split at hL
            · unfold xcB at hL
              obtain ⟨K2, hT2, rfl⟩ := Option.map_eq_some_iff.mp hL
              rw [hn_e (by omega) (by omega) (by omega), xc_s (by omega) (by omega) (by omega) (by omega) (by omega) _ _ _ hT2, xcA_e (by omega) (by omega) (by omega) (by omega) (by omega), lkM_ne (by omega)]
            · cases hL
      · cases hR
    replace hT : (if b = 0 then some (up L 508 15 ((r : Int) + 1)) else cnL k (r + 1) (up L 508 15 ((r : Int) + 1))) = some K := hT
    split at hT
    · obtain rfl : up L 508 15 ((r : Int) + 1) = K := by simpa using hT
      rw [up_ne (by omega), hL]
    · rw [cn_s hx k (r + 1) _ hT, up_ne (by omega), hL]
theorem pq_x {I : II} {x : Nat} (hx : x ≤ 507 ∨ (509 ≤ x ∧ x ≤ 514) ∨ 537 ≤ x) : ∀ k, foldUp (pqS I) (prI I) k x = I x
  | 0 => by
    show prI I x = I x
    unfold prI
    rw [up_ne (by omega), up_ne (by omega), up_ne (by omega), up_ne (by omega)]
  | k + 1 => by
    show pqS I k _ x = I x
    unfold pqS
    rw [up_ne (by omega), up_ne (by omega), up_ne (by omega), up_ne (by omega), up_ne (by omega), up_ne (by omega), up_ne (by omega)]
    exact pq_x hx k
theorem pr_x {I : II} {x : Nat} (hx : x ≤ 507 ∨ (509 ≤ x ∧ x ≤ 514) ∨ 537 ≤ x) : ∀ p, foldUp ppS (prA I) p x = I x
  | 0 => by
    rw [fold_0]
    exact pq_x hx 8
  | p + 1 => by
    show ppS p _ x = I x
    unfold ppS
    rw [goM_e (by omega) (by omega) (by omega) (by omega) (by omega), up_ne (by omega)]
    exact pr_x hx p
theorem cnO_s {I K : II} {x : Nat} (hx : x ≤ 507 ∨ (509 ≤ x ∧ x ≤ 514) ∨ 537 ≤ x) (h : cnO I = some K) : K x = I x := (cn_s hx _ _ _ h).trans (pr_x hx _)
theorem wq_MI {r : Nat} {qv : Int} {K : II} (hr : r < 9) : ∀ (k : Nat) (J : II), wqL r qv k J = some K → MI J → MI K
  | 0, _, h, _ => by cases h
  | k + 1, J, h, hM => by
    unfold wqL at h
    split at h
    · split at h
      · rename_i hc
        have hv := lkV_rng (r := r) (s := hpN J qv) (m := 1) hM.1
        exact wq_MI hr k _ h (MI_em hM hr (by omega) (by omega) ⟨hc.2.1, hc.2.2.1⟩ hc.2.2.2)
      · cases h
    · obtain rfl : J = K := by simpa using h
      exact hM
theorem wa_MI {r : Nat} {qv : Int} {K : II} (hr : r < 9) : ∀ (k : Nat) (J : II), waL r qv k J = some K → MI J → MI K
  | 0, _, h, _ => by cases h
  | k + 1, J, h, hM => by
    unfold waL at h
    split at h
    · split at h
      · rename_i hc
        have hv := lkV_rng (r := r) (s := hpN J 0) (m := 1) hM.1
        exact wa_MI hr k _ h (MI_em hM hr (by omega) (by omega) ⟨hc.2.1, hc.2.2.1⟩ hc.2.2.2)
      · cases h
    · obtain rfl : J = K := by simpa using h
      exact hM
theorem cn_MI {K : II} : ∀ (k r : Nat) (I : II), r + k ≤ 9 → cnL k r I = some K → MI I → MI K
  | 0, _, _, _, h, _ => by cases h
  | k + 1, r, I, hk, h, hM => by
    unfold cnL at h
    obtain ⟨⟨b, L⟩, hR, hT⟩ := Option.bind_eq_some_iff.mp h
    have hL : MI L := by
      unfold rdS at hR
      obtain ⟨K1, hQ, hR⟩ := Option.bind_eq_some_iff.mp hR
      have m1 : MI K1 := wq_MI (by omega) _ _ hQ (MI_no hM)
      unfold rdT at hR
      split at hR
      · split at hR
        · obtain ⟨L2, hL, h9⟩ := Option.map_eq_some_iff.mp hR
          obtain ⟨-, rfl⟩ : (0 : Int) = b ∧ L2 = L := by simpa using h9
          exact wa_MI (by omega) _ _ hL m1
        · split at hR
          · split at hR
            · obtain ⟨L2, hL, h9⟩ := Option.map_eq_some_iff.mp hR
              obtain ⟨-, rfl⟩ : (1 : Int) = b ∧ L2 = L := by simpa using h9
              have hv := lkV_rng (r := r) (s := wsF K1 r (K1 509 0).toNat) (m := 1) m1.1
              exact (tr_ok (MI_lk m1 (by omega)) (by omega) (by omega) hL).1
            · cases hR
          · obtain ⟨L2, hL, h9⟩ := Option.map_eq_some_iff.mp hR
            obtain ⟨-, rfl⟩ : (1 : Int) = b ∧ L2 = L := by simpa using h9
            exact (ex_okM m1 (by omega) hL).1
      · cases hR
    replace hT : (if b = 0 then some (up L 508 15 ((r : Int) + 1)) else cnL k (r + 1) (up L 508 15 ((r : Int) + 1))) = some K := hT
    split at hT
    · obtain rfl : up L 508 15 ((r : Int) + 1) = K := by simpa using hT
      exact MI_up hL (by omega) (by omega)
    · exact cn_MI k (r + 1) _ (by omega) hT (MI_up hL (by omega) (by omega))
theorem cnO_MI {I K : II} (h : cnO I = some K) (hM : MI I) : MI K := cn_MI 9 0 _ (by omega) h (MI_pr hM)


set_option maxRecDepth 100000 in
set_option maxHeartbeats 4000000 in
theorem k_nmE {l : Launch} {g : GV} {S : SS} {K : II} {X : XX} {x1 x2 x4 : Option Value} {y9 : Int} (hfl : l.stackTraces = false) (hM : isMod S) (hMI : MI K) : V l g mX9_needed 6 (Zm g (QE (some (.int (ii y9))) S (nmE K) X)) 0 0 120 [some (.ref 508), x1, x2, some (.int (ii y9)), x4] [] S K X := by
  obtain ⟨m0, ⟨p509, q509⟩, ⟨p510, q510⟩, ⟨p511, q511⟩, ⟨p512, q512⟩, ⟨p513, q513⟩, ⟨p514, q514⟩, ⟨p515, q515⟩, ⟨p516, q516⟩, ⟨p517, q517⟩, ⟨p518, q518⟩, ⟨p519, q519⟩, ⟨p520, q520⟩, ⟨p521, q521⟩, ⟨p522, q522⟩, ⟨p523, q523⟩, ⟨p524, q524⟩, ⟨p525, q525⟩, ⟨p526, q526⟩, ⟨p527, q527⟩, ⟨p528, q528⟩, ⟨p529, q529⟩, ⟨p530, q530⟩, ⟨p531, q531⟩, ⟨p532, q532⟩, ⟨p533, q533⟩, ⟨p534, q534⟩, ⟨p535, q535⟩, ⟨p536, q536⟩, ⟨p537, q537⟩, ⟨p538, q538⟩, ⟨p539, q539⟩, ⟨p540, q540⟩⟩ := id hM
  obtain ⟨w0, w1, w2, w3, w4, w5, w6, w7, w8, w9, w10⟩ := id hMI.1
  refine v_aload_n dX9_needed_120 rfl ?_
  refine v_getr dX9_needed_121 fr_X9_9 (by assumption) (by decide) rfl (by assumption) ?_
  refine v_iconst dX9_needed_124 ?_
  refine v_dup2 dX9_needed_125 rfl rfl ?_
  refine v_iald (j := 1) dX9_needed_126 (by assumption) rfl (by omega) ?_
  refine v_iconst dX9_needed_127 ?_
  refine v_isub dX9_needed_128 ?_
  refine v_iast (j := 1) dX9_needed_129 (by assumption) rfl (by omega) ?_
  refine v_aload_n dX9_needed_130 rfl ?_
  refine v_iconst dX9_needed_131 ?_
  refine v_putz dX9_needed_132 fr_X9_133 (by assumption) (by decide) rfl (by first | exact Or.inl rfl | exact Or.inr rfl | omega) ?_
  refine v_iload_n dX9_needed_135 rfl ?_
  exact v_iE dX9_needed_136 rfl (rfl) (rfl)

set_option maxRecDepth 100000 in
set_option maxHeartbeats 4000000 in
theorem k_nmL {l : Launch} {g : GV} {S : SS} {X : XX} {p c : Nat} {y9 : Int} {K : II} (hfl : l.stackTraces = false) (hM : isMod S) (hp : p < 25) (hc8 : c < 8) : ∀ z : Nat, z ≤ 61 → ∀ (f : Nat) (J : II), z + f = 61 → nmL p c f z J = some (y9, K) → MI J → V l g mX9_needed 6 (Zm g (QE (some (.int (ii y9))) S (nmE K) X)) 0 0 70 [some (.ref 508), some (.int (ii (c : Int))), some (.int (ii (p : Int))), some (.int (ii (-1))), some (.int (ii (z : Int)))] [] S J X := by
  obtain ⟨m0, ⟨p509, q509⟩, ⟨p510, q510⟩, ⟨p511, q511⟩, ⟨p512, q512⟩, ⟨p513, q513⟩, ⟨p514, q514⟩, ⟨p515, q515⟩, ⟨p516, q516⟩, ⟨p517, q517⟩, ⟨p518, q518⟩, ⟨p519, q519⟩, ⟨p520, q520⟩, ⟨p521, q521⟩, ⟨p522, q522⟩, ⟨p523, q523⟩, ⟨p524, q524⟩, ⟨p525, q525⟩, ⟨p526, q526⟩, ⟨p527, q527⟩, ⟨p528, q528⟩, ⟨p529, q529⟩, ⟨p530, q530⟩, ⟨p531, q531⟩, ⟨p532, q532⟩, ⟨p533, q533⟩, ⟨p534, q534⟩, ⟨p535, q535⟩, ⟨p536, q536⟩, ⟨p537, q537⟩, ⟨p538, q538⟩, ⟨p539, q539⟩, ⟨p540, q540⟩⟩ := id hM
  refine loop_up fun z hz ih => ?_
  intro f J hf hR hMI
  refine v_iload dX9_needed_70 rfl ?_
  refine v_bipush dX9_needed_72 (by decide) ?_
  refine v_ic_gt (tgt := 120) dX9_needed_74 (by decide) (fun h74 => ?_) (fun h74 => ?_)
  · obtain rfl : f = 0 := by omega
    unfold nmL at hR
    obtain ⟨rfl, rfl⟩ : (-1 : Int) = y9 ∧ J = K := by simpa using hR
    exact k_nmE hfl hM hMI
  · refine v_iload_n dX9_needed_77 rfl ?_
    refine v_if_ge (tgt := 120) dX9_needed_78 (by decide) (fun h78 => ?_) (fun h78 => ?_)
    · exfalso; omega
    · obtain ⟨f2, rfl⟩ : ∃ f2, f = f2 + 1 := ⟨f - 1, by omega⟩
      unfold nmL at hR
      obtain ⟨C, hC, hR⟩ := Option.bind_eq_some_iff.mp hR
      refine v_aload_n dX9_needed_81 rfl ?_
      refine v_getr dX9_needed_82 fr_X9_9 (by assumption) (by decide) rfl (by assumption) ?_
      refine v_iload_n dX9_needed_85 rfl ?_
      refine v_iconst dX9_needed_86 ?_
      refine v_cS2 dX9_needed_87 lk_X9_122 (k_pileAt hfl) (by decide) (Nat.le_of_ble_eq_true rfl) ?_ rfl
      refine v_iload dX9_needed_90 rfl ?_
      refine v_iast (j := 15 + 10 * p) dX9_needed_92 (by assumption) (by omega) (by omega) ?_
      have hJ1 : MI (up J 509 (15 + 10 * p) z) := ⟨WfM_size hMI.1 (by omega) (by omega), rg_up hMI.2 (by omega)⟩
      refine v_aload_n dX9_needed_93 rfl ?_
      refine v_cV0n dX9_needed_94 lk_X9_291 (by assumption) (by decide) rfl (k_count hfl hM hJ1 hC) (by decide) (Nat.le_of_ble_eq_true rfl) ?_ rfl
      have hC1 := cnO_MI hC hJ1
      refine v_aload_n dX9_needed_97 rfl ?_
      refine v_getr dX9_needed_98 fr_X9_62 (by assumption) (by decide) rfl (by assumption) ?_
      refine v_iload_n dX9_needed_101 rfl ?_
      refine v_iald (j := c) dX9_needed_102 (by assumption) rfl (by omega) ?_
      have g9 := hC1.2 525 c
      refine v_iconst dX9_needed_103 ?_
      refine v_ic_ne (tgt := 112) dX9_needed_104 (by decide) (fun h104 => ?_) (fun h104 => ?_)
      · refine v_iconst dX9_needed_112 ?_
        refine v_istn3 dX9_needed_113 rfl ?_
        refine v_iinc4 dX9_needed_114 rfl ?_
        refine v_goto (tgt := 70) dX9_needed_117 (by decide) ?_
        rw [if_neg (by omega)] at hR
        exact ih (z + 1) (by omega) (by omega) f2 _ (by omega) hR hC1
      · refine v_iload dX9_needed_107 rfl ?_
        refine v_goto (tgt := 113) dX9_needed_109 (by decide) ?_
        refine v_istn3 dX9_needed_113 rfl ?_
        refine v_iinc4 dX9_needed_114 rfl ?_
        refine v_goto (tgt := 70) dX9_needed_117 (by decide) ?_
        rw [if_pos (by omega)] at hR
        obtain ⟨rfl, rfl⟩ : (z : Int) = y9 ∧ C = K := by simpa using hR
        refine v_iload dX9_needed_70 rfl ?_
        refine v_bipush dX9_needed_72 (by decide) ?_
        refine v_ic_gt (tgt := 120) dX9_needed_74 (by decide) (fun h74b => ?_) (fun h74b => ?_)
        · exact k_nmE hfl hM hC1
        · refine v_iload_n dX9_needed_77 rfl ?_
          refine v_if_ge (tgt := 120) dX9_needed_78 (by decide) (fun h78b => ?_) (fun h78b => ?_)
          · exact k_nmE hfl hM hC1
          · exfalso; omega

theorem nb_MI {I : II} {n q : Nat} (h : MI I) (hn : I 509 1 = n ∧ n < 25) (hq : q < 8) : MI (up (up (up (up I 508 6 0) 509 1 (I 509 1 + 1)) 509 (16 + 10 * n) 1) 509 (17 + 10 * n) q) := by
  have h0 : MI (up I 508 6 0) := MI_up h (by omega) (by omega)
  have h1 : WfM (up (up I 508 6 0) 509 1 (I 509 1 + 1)) := WfM_s h0.1 (fun e => by omega) (fun _ => by omega) (fun e => by omega) (fun q hq e => by omega) (fun q hq e => by omega) (fun q k hq hk e => by omega) (fun k hk e => by omega) (fun e => by omega) (fun e => by omega) (fun e => by omega) (fun e => by omega)
  have h2 := WfM_len h1 hn.2 (z := 1) (by omega)
  have h3 := WfM_rank (k := 0) (z := (q : Int)) h2 hn.2 (by omega) (by omega)
  exact ⟨h3, rg_up (rg_up (rg_up h0.2 (by omega)) (by omega)) (by omega)⟩

set_option maxRecDepth 100000 in
set_option maxHeartbeats 4000000 in
theorem k_needed {l : Launch} {g : GV} {S : SS} {I : II} {X : XX} {K9 : II} {y9 c : Int} (hfl : l.stackTraces = false) (hM : isMod S) (hMI : MI I) (h24 : I 509 1 ≤ 24) (hK : tWd I c = 0 → nmL (I 509 1).toNat c.toNat 61 0 (nmB (up I 508 6 0) (I 509 1).toNat c.toNat) = some (y9, K9)) (hc : -2147483648 ≤ c ∧ c < 2147483648) : CE l g mX9_needed 6 [.ref 508, .int (ii c)] S I X (some (.int (ii ((if tWd I c ≤ 0 then (y9, nmE K9) else (0, up I 508 6 (tWd I c)))).1))) ((if tWd I c ≤ 0 then (y9, nmE K9) else (0, up I 508 6 (tWd I c)))).2 := by
  obtain ⟨m0, ⟨p509, q509⟩, ⟨p510, q510⟩, ⟨p511, q511⟩, ⟨p512, q512⟩, ⟨p513, q513⟩, ⟨p514, q514⟩, ⟨p515, q515⟩, ⟨p516, q516⟩, ⟨p517, q517⟩, ⟨p518, q518⟩, ⟨p519, q519⟩, ⟨p520, q520⟩, ⟨p521, q521⟩, ⟨p522, q522⟩, ⟨p523, q523⟩, ⟨p524, q524⟩, ⟨p525, q525⟩, ⟨p526, q526⟩, ⟨p527, q527⟩, ⟨p528, q528⟩, ⟨p529, q529⟩, ⟨p530, q530⟩, ⟨p531, q531⟩, ⟨p532, q532⟩, ⟨p533, q533⟩, ⟨p534, q534⟩, ⟨p535, q535⟩, ⟨p536, q536⟩, ⟨p537, q537⟩, ⟨p538, q538⟩, ⟨p539, q539⟩, ⟨p540, q540⟩⟩ := id hM
  obtain ⟨w0, w1, w2, w3, w4, w5, w6, w7, w8, w9, w10⟩ := id hMI.1
  obtain ⟨n, hn⟩ := Int.eq_ofNat_of_zero_le w1.1
  have Mt : ∀ T : Int, T = tWd I c → V l g mX9_needed 6 (Zm g (QE (some (.int (ii ((if tWd I c ≤ 0 then (y9, nmE K9) else (0, up I 508 6 (tWd I c)))).1))) S ((if tWd I c ≤ 0 then (y9, nmE K9) else (0, up I 508 6 (tWd I c)))).2 X)) 0 0 14 [some (.ref 508), some (.int (ii c)), none, none, none] [.int (ii T), .ref 508] S I X := by
    intro T hTf
    subst hTf
    refine v_puti dX9_needed_14 fr_X9_115 (by assumption) (by decide) rfl ?_
    refine v_aload_n dX9_needed_17 rfl ?_
    refine v_geti dX9_needed_18 fr_X9_115 (by assumption) (by decide) rfl ?_
    rw [up_eq]
    have t01 : tWd I c = 0 ∨ tWd I c = 1 := by unfold tWd; split <;> omega
    refine v_if_le (tgt := 26) dX9_needed_21 (by decide) (fun h21 => ?_) (fun h21 => ?_)
    · have hab : 0 ≤ c ∧ c ≤ I 509 0 - 1 := by
        by_cases hc : inF c 0 (I 509 0 - 1) = 0
        · have : tWd I c = 1 := if_pos hc
          omega
        · exact inF_1.mp hc
      obtain ⟨q, rfl⟩ := Int.eq_ofNat_of_zero_le hab.1
      have hN := hK (by omega)
      rw [hn, Int.toNat_natCast, Int.toNat_natCast] at hN
      refine v_aload_n dX9_needed_26 rfl ?_
      refine v_getr dX9_needed_27 fr_X9_9 (by assumption) (by decide) rfl (by assumption) ?_
      refine v_iconst dX9_needed_30 ?_
      refine v_iald (j := 1) dX9_needed_31 (by assumption) rfl (by omega) ?_
      rw [up_ne (by omega), hn]
      refine v_istn2 dX9_needed_32 rfl ?_
      refine v_aload_n dX9_needed_33 rfl ?_
      refine v_getr dX9_needed_34 fr_X9_9 (by assumption) (by decide) rfl (by assumption) ?_
      refine v_iconst dX9_needed_37 ?_
      refine v_dup2 dX9_needed_38 rfl rfl ?_
      refine v_iald (j := 1) dX9_needed_39 (by assumption) rfl (by omega) ?_
      rw [up_ne (by omega)]
      refine v_iconst dX9_needed_40 ?_
      refine v_iadd dX9_needed_41 ?_
      refine v_iast (j := 1) dX9_needed_42 (by assumption) rfl (by omega) ?_
      refine v_aload_n dX9_needed_43 rfl ?_
      refine v_getr dX9_needed_44 fr_X9_9 (by assumption) (by decide) rfl (by assumption) ?_
      refine v_iload_n dX9_needed_47 rfl ?_
      refine v_iconst dX9_needed_48 ?_
      refine v_cS2 dX9_needed_49 lk_X9_122 (k_pileAt hfl) (by decide) (Nat.le_of_ble_eq_true rfl) ?_ rfl
      refine v_iconst dX9_needed_52 ?_
      refine v_iast (j := 16 + 10 * n) dX9_needed_53 (by assumption) (by omega) (by omega) ?_
      refine v_aload_n dX9_needed_54 rfl ?_
      refine v_getr dX9_needed_55 fr_X9_9 (by assumption) (by decide) rfl (by assumption) ?_
      refine v_iload_n dX9_needed_58 rfl ?_
      refine v_iconst dX9_needed_59 ?_
      refine v_cS2 dX9_needed_60 lk_X9_122 (k_pileAt hfl) (by decide) (Nat.le_of_ble_eq_true rfl) ?_ rfl
      refine v_iload_n dX9_needed_63 rfl ?_
      refine v_iast (j := 17 + 10 * n) dX9_needed_64 (by assumption) (by omega) (by omega) ?_
      refine v_iconst dX9_needed_65 ?_
      refine v_istn3 dX9_needed_66 rfl ?_
      refine v_iconst dX9_needed_67 ?_
      refine v_ist4 dX9_needed_68 rfl ?_
      rw [if_pos (show tWd I (q : Int) ≤ 0 by omega), show tWd I (q : Int) = 0 by omega]
      exact k_nmL hfl hM (by omega) (by omega) 0 (by omega) 61 _ (by omega) hN (nb_MI hMI (by omega) (by omega))
    · refine v_iconst dX9_needed_24 ?_
      exact v_iE dX9_needed_25 rfl (by rw [if_neg (by omega)]) (by rw [if_neg (by omega)])
  refine v_startE hfl rfl (by decide) (Nat.le_of_ble_eq_true rfl) (ls := [some (.ref 508), some (.int (ii c)), none, none, none]) rfl ?_
  refine v_aload_n dX9_needed_0 rfl ?_
  refine v_aload_n dX9_needed_1 rfl ?_
  refine v_iload_n dX9_needed_2 rfl ?_
  refine v_cV1 dX9_needed_3 lk_X9_168 (by assumption) (by decide) rfl (k_isCand hfl hM hMI.1 (by omega)) (by decide) (Nat.le_of_ble_eq_true rfl) ?_ rfl
  have hi := inF_01 c 0 (I 509 0 - 1)
  refine v_if_eq (tgt := 13) dX9_needed_6 (by decide) (fun h6 => ?_) (fun h6 => ?_)
  · refine v_iconst dX9_needed_13 ?_
    exact Mt _ (by unfold tWd; (repeat (first | rw [if_pos (by omega)] | rw [if_neg (by omega)])))
  · refine v_iconst dX9_needed_9 ?_
    refine v_goto (tgt := 14) dX9_needed_10 (by decide) ?_
    exact Mt _ (by unfold tWd; (repeat (first | rw [if_pos (by omega)] | rw [if_neg (by omega)])))

set_option maxRecDepth 100000 in
set_option maxHeartbeats 4000000 in
theorem k_undo {l : Launch} {g : GV} {S : SS} {I : II} {X : XX} (hfl : l.stackTraces = false) (hM : isMod S) (hp3 : 0 ≤ I 508 3 ∧ I 508 3 ≤ 8) : CE l g mX9_undo 1 [.ref 508] S I X (some (.int (ii (unM I).1))) (unM I).2 := by
  obtain ⟨m0, ⟨p509, q509⟩, ⟨p510, q510⟩, ⟨p511, q511⟩, ⟨p512, q512⟩, ⟨p513, q513⟩, ⟨p514, q514⟩, ⟨p515, q515⟩, ⟨p516, q516⟩, ⟨p517, q517⟩, ⟨p518, q518⟩, ⟨p519, q519⟩, ⟨p520, q520⟩, ⟨p521, q521⟩, ⟨p522, q522⟩, ⟨p523, q523⟩, ⟨p524, q524⟩, ⟨p525, q525⟩, ⟨p526, q526⟩, ⟨p527, q527⟩, ⟨p528, q528⟩, ⟨p529, q529⟩, ⟨p530, q530⟩, ⟨p531, q531⟩, ⟨p532, q532⟩, ⟨p533, q533⟩, ⟨p534, q534⟩, ⟨p535, q535⟩, ⟨p536, q536⟩, ⟨p537, q537⟩, ⟨p538, q538⟩, ⟨p539, q539⟩, ⟨p540, q540⟩⟩ := id hM
  have Mt : ∀ T : Int, T = tUn I → V l g mX9_undo 1 (Zm g (QE (some (.int (ii (unM I).1))) S (unM I).2 X)) 0 0 13 [some (.ref 508)] [.int (ii T), .ref 508] S I X := by
    intro T hTf
    subst hTf
    refine v_puti dX9_undo_13 fr_X9_115 (by assumption) (by decide) rfl ?_
    refine v_aload_n dX9_undo_16 rfl ?_
    refine v_geti dX9_undo_17 fr_X9_115 (by assumption) (by decide) rfl ?_
    rw [up_eq]
    have t01 : tUn I = 0 ∨ tUn I = 1 := by unfold tUn; split <;> omega
    refine v_if_le (tgt := 25) dX9_undo_20 (by decide) (fun h20 => ?_) (fun h20 => ?_)
    · have h3 : ¬ I 508 3 = 0 := fun hc => by
        have : tUn I = 1 := if_pos hc
        omega
      obtain ⟨k, hk⟩ := Int.eq_ofNat_of_zero_le (show 0 ≤ I 508 3 - 1 by omega)
      refine v_aload_n dX9_undo_25 rfl ?_
      refine v_dup dX9_undo_26 rfl ?_
      refine v_geti dX9_undo_27 fr_X9_126 (by assumption) (by decide) rfl ?_
      rw [up_nk (by omega)]
      refine v_iconst dX9_undo_30 ?_
      refine v_isub dX9_undo_31 ?_
      refine v_puti dX9_undo_32 fr_X9_126 (by assumption) (by decide) rfl ?_
      refine v_aload_n dX9_undo_35 rfl ?_
      refine v_getr dX9_undo_36 fr_X9_16 (by assumption) (by decide) rfl (by assumption) ?_
      refine v_sipush dX9_undo_39 (by decide) ?_
      refine v_aload_n dX9_undo_42 rfl ?_
      refine v_geti dX9_undo_43 fr_X9_126 (by assumption) (by decide) rfl ?_
      rw [up_eq]
      refine v_imul dX9_undo_46 ?_
      rw [hk]
      refine v_aload_n dX9_undo_47 rfl ?_
      refine v_getr dX9_undo_48 fr_X9_9 (by assumption) (by decide) rfl (by assumption) ?_
      refine v_iconst dX9_undo_51 ?_
      refine v_sipush dX9_undo_52 (by decide) ?_
      refine v_copy (sp := 265 * k) (dq := 0) (n := 265) dX9_undo_55 cy_X9_136 (by assumption) (by assumption) (by first | rfl | omega) (by first | rfl | omega) (by first | rfl | omega) (by omega) (by omega) (by decide) (Nat.le_of_ble_eq_true rfl) ?_
      refine v_aload_n dX9_undo_58 rfl ?_
      refine v_iconst dX9_undo_59 ?_
      refine v_putz dX9_undo_60 fr_X9_133 (by assumption) (by decide) rfl (by first | exact Or.inl rfl | exact Or.inr rfl | omega) ?_
      refine v_aload_n dX9_undo_63 rfl ?_
      refine v_geti dX9_undo_64 fr_X9_126 (by assumption) (by decide) rfl ?_
      rw [up_nk (by omega), cpy_ne (by omega), up_eq]
      exact v_iE dX9_undo_67 rfl (by unfold unM; rw [if_pos (by omega), hk]) (by unfold unM unA; rw [if_pos (by omega), hk, show tUn I = 0 by omega]; rfl)
    · refine v_iconst dX9_undo_23 ?_
      exact v_iE dX9_undo_24 rfl (by unfold unM; rw [if_neg (by omega)]) (by unfold unM; rw [if_neg (by omega)])
  refine v_startE hfl rfl (by decide) (Nat.le_of_ble_eq_true rfl) (ls := [some (.ref 508)]) rfl ?_
  refine v_aload_n dX9_undo_0 rfl ?_
  refine v_aload_n dX9_undo_1 rfl ?_
  refine v_geti dX9_undo_2 fr_X9_126 (by assumption) (by decide) rfl ?_
  refine v_if_ne (tgt := 12) dX9_undo_5 (by decide) (fun h5 => ?_) (fun h5 => ?_)
  · refine v_iconst dX9_undo_12 ?_
    exact Mt _ (by unfold tUn; (repeat (first | rw [if_pos (by omega)] | rw [if_neg (by omega)])))
  · refine v_iconst dX9_undo_8 ?_
    refine v_goto (tgt := 13) dX9_undo_9 (by decide) ?_
    exact Mt _ (by unfold tUn; (repeat (first | rw [if_pos (by omega)] | rw [if_neg (by omega)])))

theorem svA_f {J : II} {k : Nat} (h6 : k ≠ 6) (h5 : k ≠ 5) : svA J 508 k = J 508 k := by
  unfold svA
  rw [cpy_ne (by omega), up_nk h5, up_nk h6]
theorem svA_s {J : II} {x : Nat} (h : x ≠ 508) (h2 : x ≠ 512) : svA J x = J x := by
  unfold svA
  rw [cpy_ne h2, up_ne h, up_ne h]
theorem rsA_f {J : II} {k : Nat} (h6 : k ≠ 6) : rsA J 508 k = J 508 k := by
  unfold rsA
  rw [cpy_ne (by omega), up_nk h6]
theorem rsA_s {J : II} {x : Nat} (h : x ≠ 508) (h2 : x ≠ 509) : rsA J x = J x := by
  unfold rsA
  rw [cpy_ne h2, up_ne h]

set_option maxRecDepth 100000 in
set_option maxHeartbeats 4000000 in
theorem k_save {l : Launch} {g : GV} {S : SS} {I : II} {X : XX} (hfl : l.stackTraces = false) (hM : isMod S) (hMI : MI I) : CE l g mX9_save 1 [.ref 508] S I X (some (.int (ii (I 509 1)))) (svM9 I) := by
  obtain ⟨m0, ⟨p509, q509⟩, ⟨p510, q510⟩, ⟨p511, q511⟩, ⟨p512, q512⟩, ⟨p513, q513⟩, ⟨p514, q514⟩, ⟨p515, q515⟩, ⟨p516, q516⟩, ⟨p517, q517⟩, ⟨p518, q518⟩, ⟨p519, q519⟩, ⟨p520, q520⟩, ⟨p521, q521⟩, ⟨p522, q522⟩, ⟨p523, q523⟩, ⟨p524, q524⟩, ⟨p525, q525⟩, ⟨p526, q526⟩, ⟨p527, q527⟩, ⟨p528, q528⟩, ⟨p529, q529⟩, ⟨p530, q530⟩, ⟨p531, q531⟩, ⟨p532, q532⟩, ⟨p533, q533⟩, ⟨p534, q534⟩, ⟨p535, q535⟩, ⟨p536, q536⟩, ⟨p537, q537⟩, ⟨p538, q538⟩, ⟨p539, q539⟩, ⟨p540, q540⟩⟩ := id hM
  have g43 := hMI.2 508 43
  have M43 : ∀ y : Int, y = (if I 508 43 = 0 then 0 else 1) → V l g mX9_save 1 (Zm g (QE (some (.int (ii (I 509 1)))) S (svM9 I) X)) 0 0 43 [some (.ref 508)] [.int (ii y), .int (ii 0), .ref 540] S (svA I) X := by
    intro y hy
    subst hy
    refine v_iast (j := 0) dX9_save_43 (by assumption) rfl (by omega) ?_
    refine v_aload_n dX9_save_44 rfl ?_
    refine v_getr dX9_save_45 fr_X9_108 (by assumption) (by decide) rfl (by assumption) ?_
    refine v_iconst dX9_save_48 ?_
    refine v_aload_n dX9_save_49 rfl ?_
    refine v_geti dX9_save_50 fr_X9_306 (by assumption) (by decide) rfl ?_
    rw [up_ne (by omega), svA_f (by omega) (by omega)]
    refine v_iast (j := 1) dX9_save_53 (by assumption) rfl (by omega) ?_
    refine v_aload_n dX9_save_54 rfl ?_
    refine v_getr dX9_save_55 fr_X9_108 (by assumption) (by decide) rfl (by assumption) ?_
    refine v_iconst dX9_save_58 ?_
    refine v_aload_n dX9_save_59 rfl ?_
    refine v_geti dX9_save_60 fr_X9_309 (by assumption) (by decide) rfl ?_
    rw [up_ne (by omega), up_ne (by omega), svA_f (by omega) (by omega)]
    refine v_iast (j := 2) dX9_save_63 (by assumption) rfl (by omega) ?_
    refine v_aload_n dX9_save_64 rfl ?_
    refine v_getr dX9_save_65 fr_X9_99 (by assumption) (by decide) rfl (by assumption) ?_
    refine v_iconst dX9_save_68 ?_
    refine v_aload_n dX9_save_69 rfl ?_
    refine v_getr dX9_save_70 fr_X9_108 (by assumption) (by decide) rfl (by assumption) ?_
    refine v_iconst dX9_save_73 ?_
    refine v_sipush dX9_save_74 (by decide) ?_
    refine v_copy (sp := 0) (dq := 3) (n := 192) dX9_save_77 cy_X9_136 (by assumption) (by assumption) (by first | rfl | omega) (by first | rfl | omega) (by first | rfl | omega) (by omega) (by omega) (by decide) (Nat.le_of_ble_eq_true rfl) ?_
    refine v_aload_n dX9_save_80 rfl ?_
    refine v_getr dX9_save_81 fr_X9_102 (by assumption) (by decide) rfl (by assumption) ?_
    refine v_iconst dX9_save_84 ?_
    refine v_aload_n dX9_save_85 rfl ?_
    refine v_getr dX9_save_86 fr_X9_108 (by assumption) (by decide) rfl (by assumption) ?_
    refine v_sipush dX9_save_89 (by decide) ?_
    refine v_bipush dX9_save_92 (by decide) ?_
    refine v_copy (sp := 0) (dq := 195) (n := 8) dX9_save_94 cy_X9_136 (by assumption) (by assumption) (by first | rfl | omega) (by first | rfl | omega) (by first | rfl | omega) (by omega) (by omega) (by decide) (Nat.le_of_ble_eq_true rfl) ?_
    refine v_aload_n dX9_save_97 rfl ?_
    refine v_getr dX9_save_98 fr_X9_105 (by assumption) (by decide) rfl (by assumption) ?_
    refine v_iconst dX9_save_101 ?_
    refine v_aload_n dX9_save_102 rfl ?_
    refine v_getr dX9_save_103 fr_X9_108 (by assumption) (by decide) rfl (by assumption) ?_
    refine v_sipush dX9_save_106 (by decide) ?_
    refine v_bipush dX9_save_109 (by decide) ?_
    refine v_copy (sp := 0) (dq := 203) (n := 8) dX9_save_111 cy_X9_136 (by assumption) (by assumption) (by first | rfl | omega) (by first | rfl | omega) (by first | rfl | omega) (by omega) (by omega) (by decide) (Nat.le_of_ble_eq_true rfl) ?_
    refine v_aload_n dX9_save_114 rfl ?_
    refine v_getr dX9_save_115 fr_X9_9 (by assumption) (by decide) rfl (by assumption) ?_
    refine v_iconst dX9_save_118 ?_
    refine v_iald (j := 1) dX9_save_119 (by assumption) rfl (by omega) ?_
    rw [cpy_ne (by omega), cpy_ne (by omega), cpy_ne (by omega), up_ne (by omega), up_ne (by omega), up_ne (by omega), svA_s (by omega) (by omega)]
    exact v_iE dX9_save_120 rfl (rfl) (rfl)
  refine v_startE hfl rfl (by decide) (Nat.le_of_ble_eq_true rfl) (ls := [some (.ref 508)]) rfl ?_
  refine v_aload_n dX9_save_0 rfl ?_
  refine v_iconst dX9_save_1 ?_
  refine v_puti dX9_save_2 fr_X9_115 (by assumption) (by decide) rfl ?_
  refine v_aload_n dX9_save_5 rfl ?_
  refine v_iconst dX9_save_6 ?_
  refine v_putz dX9_save_7 fr_X9_323 (by assumption) (by decide) rfl (by first | exact Or.inl rfl | exact Or.inr rfl | omega) ?_
  refine v_aload_n dX9_save_10 rfl ?_
  refine v_getr dX9_save_11 fr_X9_9 (by assumption) (by decide) rfl (by assumption) ?_
  refine v_iconst dX9_save_14 ?_
  refine v_aload_n dX9_save_15 rfl ?_
  refine v_getr dX9_save_16 fr_X9_19 (by assumption) (by decide) rfl (by assumption) ?_
  refine v_iconst dX9_save_19 ?_
  refine v_sipush dX9_save_20 (by decide) ?_
  refine v_copy (sp := 0) (dq := 0) (n := 265) dX9_save_23 cy_X9_136 (by assumption) (by assumption) (by first | rfl | omega) (by first | rfl | omega) (by first | rfl | omega) (by omega) (by omega) (by decide) (Nat.le_of_ble_eq_true rfl) ?_
  refine v_aload_n dX9_save_26 rfl ?_
  refine v_getr dX9_save_27 fr_X9_108 (by assumption) (by decide) rfl (by assumption) ?_
  refine v_iconst dX9_save_30 ?_
  refine v_aload_n dX9_save_31 rfl ?_
  refine v_geti dX9_save_32 fr_X9_129 (by assumption) (by decide) rfl ?_
  rw [cpy_ne (by omega), up_nk (by omega), up_nk (by omega)]
  refine v_if_eq (tgt := 42) dX9_save_35 (by decide) (fun h35 => ?_) (fun h35 => ?_)
  · refine v_iconst dX9_save_42 ?_
    first
      | exact M43 0 (if_pos (by omega)).symm
      | exact M43 1 (if_neg (by omega)).symm
  · refine v_iconst dX9_save_38 ?_
    refine v_goto (tgt := 43) dX9_save_39 (by decide) ?_
    first
      | exact M43 0 (if_pos (by omega)).symm
      | exact M43 1 (if_neg (by omega)).symm

set_option maxRecDepth 100000 in
set_option maxHeartbeats 4000000 in
theorem k_restore {l : Launch} {g : GV} {S : SS} {I : II} {X : XX} (hfl : l.stackTraces = false) (hM : isMod S) (hMI : MI I) : CE l g mX9_restore 1 [.ref 508] S I X (some (.int (ii (rsM9 I).1))) (rsM9 I).2 := by
  obtain ⟨m0, ⟨p509, q509⟩, ⟨p510, q510⟩, ⟨p511, q511⟩, ⟨p512, q512⟩, ⟨p513, q513⟩, ⟨p514, q514⟩, ⟨p515, q515⟩, ⟨p516, q516⟩, ⟨p517, q517⟩, ⟨p518, q518⟩, ⟨p519, q519⟩, ⟨p520, q520⟩, ⟨p521, q521⟩, ⟨p522, q522⟩, ⟨p523, q523⟩, ⟨p524, q524⟩, ⟨p525, q525⟩, ⟨p526, q526⟩, ⟨p527, q527⟩, ⟨p528, q528⟩, ⟨p529, q529⟩, ⟨p530, q530⟩, ⟨p531, q531⟩, ⟨p532, q532⟩, ⟨p533, q533⟩, ⟨p534, q534⟩, ⟨p535, q535⟩, ⟨p536, q536⟩, ⟨p537, q537⟩, ⟨p538, q538⟩, ⟨p539, q539⟩, ⟨p540, q540⟩⟩ := id hM
  have g5 := hMI.2 508 5
  have M57 : tRs I ≤ 0 → ∀ y : Int, y = (if I 540 0 = 1 then 1 else 0) → V l g mX9_restore 1 (Zm g (QE (some (.int (ii (rsM9 I).1))) S (rsM9 I).2 X)) 0 0 57 [some (.ref 508)] [.int (ii y), .ref 508] S (rsA I) X := by
    intro ht y hy
    subst hy
    refine v_putz dX9_restore_57 fr_X9_129 (by assumption) (by decide) rfl (by split <;> first | exact Or.inl rfl | exact Or.inr rfl) ?_
    refine v_aload_n dX9_restore_60 rfl ?_
    refine v_aload_n dX9_restore_61 rfl ?_
    refine v_getr dX9_restore_62 fr_X9_108 (by assumption) (by decide) rfl (by assumption) ?_
    refine v_iconst dX9_restore_65 ?_
    refine v_iald (j := 1) dX9_restore_66 (by assumption) rfl (by omega) ?_
    rw [up_ne (by omega), rsA_s (by omega) (by omega)]
    refine v_puti dX9_restore_67 fr_X9_306 (by assumption) (by decide) rfl ?_
    refine v_aload_n dX9_restore_70 rfl ?_
    refine v_aload_n dX9_restore_71 rfl ?_
    refine v_getr dX9_restore_72 fr_X9_108 (by assumption) (by decide) rfl (by assumption) ?_
    refine v_iconst dX9_restore_75 ?_
    refine v_iald (j := 2) dX9_restore_76 (by assumption) rfl (by omega) ?_
    rw [up_ne (by omega), up_ne (by omega), rsA_s (by omega) (by omega)]
    refine v_puti dX9_restore_77 fr_X9_309 (by assumption) (by decide) rfl ?_
    refine v_aload_n dX9_restore_80 rfl ?_
    refine v_getr dX9_restore_81 fr_X9_108 (by assumption) (by decide) rfl (by assumption) ?_
    refine v_iconst dX9_restore_84 ?_
    refine v_aload_n dX9_restore_85 rfl ?_
    refine v_getr dX9_restore_86 fr_X9_99 (by assumption) (by decide) rfl (by assumption) ?_
    refine v_iconst dX9_restore_89 ?_
    refine v_sipush dX9_restore_90 (by decide) ?_
    refine v_copy (sp := 3) (dq := 0) (n := 192) dX9_restore_93 cy_X9_136 (by assumption) (by assumption) (by first | rfl | omega) (by first | rfl | omega) (by first | rfl | omega) (by omega) (by omega) (by decide) (Nat.le_of_ble_eq_true rfl) ?_
    refine v_aload_n dX9_restore_96 rfl ?_
    refine v_getr dX9_restore_97 fr_X9_108 (by assumption) (by decide) rfl (by assumption) ?_
    refine v_sipush dX9_restore_100 (by decide) ?_
    refine v_aload_n dX9_restore_103 rfl ?_
    refine v_getr dX9_restore_104 fr_X9_102 (by assumption) (by decide) rfl (by assumption) ?_
    refine v_iconst dX9_restore_107 ?_
    refine v_bipush dX9_restore_108 (by decide) ?_
    refine v_copy (sp := 195) (dq := 0) (n := 8) dX9_restore_110 cy_X9_136 (by assumption) (by assumption) (by first | rfl | omega) (by first | rfl | omega) (by first | rfl | omega) (by omega) (by omega) (by decide) (Nat.le_of_ble_eq_true rfl) ?_
    refine v_aload_n dX9_restore_113 rfl ?_
    refine v_getr dX9_restore_114 fr_X9_108 (by assumption) (by decide) rfl (by assumption) ?_
    refine v_sipush dX9_restore_117 (by decide) ?_
    refine v_aload_n dX9_restore_120 rfl ?_
    refine v_getr dX9_restore_121 fr_X9_105 (by assumption) (by decide) rfl (by assumption) ?_
    refine v_iconst dX9_restore_124 ?_
    refine v_bipush dX9_restore_125 (by decide) ?_
    refine v_copy (sp := 203) (dq := 0) (n := 8) dX9_restore_127 cy_X9_136 (by assumption) (by assumption) (by first | rfl | omega) (by first | rfl | omega) (by first | rfl | omega) (by omega) (by omega) (by decide) (Nat.le_of_ble_eq_true rfl) ?_
    refine v_aload_n dX9_restore_130 rfl ?_
    refine v_iconst dX9_restore_131 ?_
    refine v_puti dX9_restore_132 fr_X9_126 (by assumption) (by decide) rfl ?_
    refine v_aload_n dX9_restore_135 rfl ?_
    refine v_iconst dX9_restore_136 ?_
    refine v_putz dX9_restore_137 fr_X9_133 (by assumption) (by decide) rfl (by first | exact Or.inl rfl | exact Or.inr rfl | omega) ?_
    refine v_aload_n dX9_restore_140 rfl ?_
    refine v_getr dX9_restore_141 fr_X9_9 (by assumption) (by decide) rfl (by assumption) ?_
    refine v_iconst dX9_restore_144 ?_
    refine v_iald (j := 1) dX9_restore_145 (by assumption) rfl (by omega) ?_
    rw [up_ne (by omega), up_ne (by omega)]
    exact v_iE dX9_restore_146 rfl (by unfold rsM9; rw [if_pos ht]; rfl) (by unfold rsM9; rw [if_pos ht]; rfl)
  have Mt : ∀ T : Int, T = tRs I → V l g mX9_restore 1 (Zm g (QE (some (.int (ii (rsM9 I).1))) S (rsM9 I).2 X)) 0 0 13 [some (.ref 508)] [.int (ii T), .ref 508] S I X := by
    intro T hTf
    subst hTf
    refine v_puti dX9_restore_13 fr_X9_115 (by assumption) (by decide) rfl ?_
    refine v_aload_n dX9_restore_16 rfl ?_
    refine v_geti dX9_restore_17 fr_X9_115 (by assumption) (by decide) rfl ?_
    rw [up_eq]
    have t01 : tRs I = 0 ∨ tRs I = 1 := by unfold tRs; split <;> omega
    refine v_if_le (tgt := 25) dX9_restore_20 (by decide) (fun h20 => ?_) (fun h20 => ?_)
    · refine v_aload_n dX9_restore_25 rfl ?_
      refine v_getr dX9_restore_26 fr_X9_19 (by assumption) (by decide) rfl (by assumption) ?_
      refine v_iconst dX9_restore_29 ?_
      refine v_aload_n dX9_restore_30 rfl ?_
      refine v_getr dX9_restore_31 fr_X9_9 (by assumption) (by decide) rfl (by assumption) ?_
      refine v_iconst dX9_restore_34 ?_
      refine v_sipush dX9_restore_35 (by decide) ?_
      refine v_copy (sp := 0) (dq := 0) (n := 265) dX9_restore_38 cy_X9_136 (by assumption) (by assumption) (by first | rfl | omega) (by first | rfl | omega) (by first | rfl | omega) (by omega) (by omega) (by decide) (Nat.le_of_ble_eq_true rfl) ?_
      refine v_aload_n dX9_restore_41 rfl ?_
      refine v_aload_n dX9_restore_42 rfl ?_
      refine v_getr dX9_restore_43 fr_X9_108 (by assumption) (by decide) rfl (by assumption) ?_
      refine v_iconst dX9_restore_46 ?_
      refine v_iald (j := 0) dX9_restore_47 (by assumption) rfl (by omega) ?_
      rw [cpy_ne (by omega), up_ne (by omega)]
      have g540 := hMI.2 540 0
      refine v_iconst dX9_restore_48 ?_
      refine v_ic_ne (tgt := 56) dX9_restore_49 (by decide) (fun h49 => ?_) (fun h49 => ?_)
      · refine v_iconst dX9_restore_56 ?_
        have e9 := M57 (by omega)
        unfold rsA at e9
        rw [show tRs I = 0 by omega]
        first
          | exact e9 1 (if_pos (by omega)).symm
          | exact e9 0 (if_neg (by omega)).symm
      · refine v_iconst dX9_restore_52 ?_
        refine v_goto (tgt := 57) dX9_restore_53 (by decide) ?_
        have e9 := M57 (by omega)
        unfold rsA at e9
        rw [show tRs I = 0 by omega]
        first
          | exact e9 1 (if_pos (by omega)).symm
          | exact e9 0 (if_neg (by omega)).symm
    · refine v_iconst dX9_restore_23 ?_
      exact v_iE dX9_restore_24 rfl (by unfold rsM9; rw [if_neg (by omega)]) (by unfold rsM9; rw [if_neg (by omega)])
  refine v_startE hfl rfl (by decide) (Nat.le_of_ble_eq_true rfl) (ls := [some (.ref 508)]) rfl ?_
  refine v_aload_n dX9_restore_0 rfl ?_
  refine v_aload_n dX9_restore_1 rfl ?_
  refine v_geti dX9_restore_2 fr_X9_323 (by assumption) (by decide) rfl ?_
  refine v_if_eq (tgt := 12) dX9_restore_5 (by decide) (fun h5 => ?_) (fun h5 => ?_)
  · refine v_iconst dX9_restore_12 ?_
    exact Mt _ (by unfold tRs; (repeat (first | rw [if_pos (by omega)] | rw [if_neg (by omega)])))
  · refine v_iconst dX9_restore_8 ?_
    refine v_goto (tgt := 13) dX9_restore_9 (by decide) ?_
    exact Mt _ (by unfold tRs; (repeat (first | rw [if_pos (by omega)] | rw [if_neg (by omega)])))

set_option maxRecDepth 100000 in
set_option maxHeartbeats 4000000 in
theorem k_countW {l : Launch} {g : GV} {S : SS} {I : II} {X : XX} {K9 : II} {w : Int} (hfl : l.stackTraces = false) (hM : isMod S) (hMI : MI I) (hK : tKn I w = 0 → w = 3 → ∃ K, knO (up I 508 6 0) = some K ∧ K = K9) (hw : -2147483648 ≤ w ∧ w < 2147483648) : CE l g mX9_count_ 8 [.ref 508, .int (ii w)] S I X (some (.int (ii ((if tKn I w ≤ 0 then (if w = 3 then (K9 508 32, K9) else (knA I w, up I 508 6 0)) else (0, up I 508 6 (tKn I w)))).1))) ((if tKn I w ≤ 0 then (if w = 3 then (K9 508 32, K9) else (knA I w, up I 508 6 0)) else (0, up I 508 6 (tKn I w)))).2 := by
  obtain ⟨m0, ⟨p509, q509⟩, ⟨p510, q510⟩, ⟨p511, q511⟩, ⟨p512, q512⟩, ⟨p513, q513⟩, ⟨p514, q514⟩, ⟨p515, q515⟩, ⟨p516, q516⟩, ⟨p517, q517⟩, ⟨p518, q518⟩, ⟨p519, q519⟩, ⟨p520, q520⟩, ⟨p521, q521⟩, ⟨p522, q522⟩, ⟨p523, q523⟩, ⟨p524, q524⟩, ⟨p525, q525⟩, ⟨p526, q526⟩, ⟨p527, q527⟩, ⟨p528, q528⟩, ⟨p529, q529⟩, ⟨p530, q530⟩, ⟨p531, q531⟩, ⟨p532, q532⟩, ⟨p533, q533⟩, ⟨p534, q534⟩, ⟨p535, q535⟩, ⟨p536, q536⟩, ⟨p537, q537⟩, ⟨p538, q538⟩, ⟨p539, q539⟩, ⟨p540, q540⟩⟩ := id hM
  obtain ⟨w0, w1, w2, w3, w4, w5, w6, w7, w8, w9, w10⟩ := id hMI.1
  have Mt : ∀ (T : Int) (x2 : Option Value), T = tKn I w → V l g mX9_count_ 8 (Zm g (QE (some (.int (ii ((if tKn I w ≤ 0 then (if w = 3 then (K9 508 32, K9) else (knA I w, up I 508 6 0)) else (0, up I 508 6 (tKn I w)))).1))) S ((if tKn I w ≤ 0 then (if w = 3 then (K9 508 32, K9) else (knA I w, up I 508 6 0)) else (0, up I 508 6 (tKn I w)))).2 X)) 0 0 56 [some (.ref 508), some (.int (ii w)), x2] [.int (ii T), .ref 508] S I X := by
    intro T x2 hTf
    subst hTf
    refine v_puti dX9_count__56 fr_X9_115 (by assumption) (by decide) rfl ?_
    refine v_aload_n dX9_count__59 rfl ?_
    refine v_geti dX9_count__60 fr_X9_115 (by assumption) (by decide) rfl ?_
    rw [up_eq]
    have t01 : tKn I w = 0 ∨ tKn I w = 1 := by unfold tKn; split <;> omega
    have hU : MI (up I 508 6 (tKn I w)) := MI_up hMI (by omega) (by omega)
    refine v_if_le (tgt := 68) dX9_count__63 (by decide) (fun h63 => ?_) (fun h63 => ?_)
    · refine v_iload_n dX9_count__68 rfl ?_
      have e09 : (up I 508 6 (tKn I w)) 509 = I 509 := up_ne (by omega)
      have ht0 : tKn I w = 0 := by omega
      have hw8 : w = 0 ∨ w = 1 ∨ w = 2 ∨ w = 3 ∨ w = 4 ∨ w = 5 ∨ w = 6 ∨ (10 ≤ w ∧ w ≤ 13) ∨ (20 ≤ w ∧ w - 20 < I 509 0) := by
        by_cases hc : inF w 0 6 = 0 ∧ inF w 10 13 = 0 ∧ (w < 20 ∨ I 509 0 ≤ w - 20)
        · have : tKn I w = 1 := if_pos hc
          omega
        · have i1 := @inF_1 w 0 6
          have i2 := @inF_1 w 10 13
          omega
      have res : ∀ y : Int, ¬ w = 3 → y = knA I w → ((if tKn I w ≤ 0 then (if w = 3 then (K9 508 32, K9) else (knA I w, up I 508 6 0)) else (0, up I 508 6 (tKn I w)))).1 = y ∧ ((if tKn I w ≤ 0 then (if w = 3 then (K9 508 32, K9) else (knA I w, up I 508 6 0)) else (0, up I 508 6 (tKn I w)))).2 = up I 508 6 (tKn I w) := fun y h3 hy => by
        rw [if_pos (show tKn I w ≤ 0 by omega), if_neg h3, hy, ht0]
        exact ⟨rfl, rfl⟩
      rcases hw8 with hw | hw | hw | hw | hw | hw | hw | hw | hw
      · rw [show (ii w) = ii 0 by rw [hw]]
        refine v_tabIn (z := 0) (off := 43) (tgt := 112) dX9_count__69 (by omega) (by omega) rfl (by decide) ?_
        refine v_aload_n dX9_count__112 rfl ?_
        refine v_getr dX9_count__113 fr_X9_9 (by assumption) (by decide) rfl (by assumption) ?_
        refine v_iconst dX9_count__116 ?_
        refine v_iald (j := 0) dX9_count__117 (by assumption) rfl (by omega) ?_
        rw [e09]
        exact v_iE dX9_count__118 rfl ((res _ (by omega) (by unfold knA; rw [hw]; rfl)).1.symm) ((res _ (by omega) rfl).2.symm)
      · rw [show (ii w) = ii 1 by rw [hw]]
        refine v_tabIn (z := 1) (off := 50) (tgt := 119) dX9_count__69 (by omega) (by omega) rfl (by decide) ?_
        refine v_aload_n dX9_count__119 rfl ?_
        refine v_getr dX9_count__120 fr_X9_9 (by assumption) (by decide) rfl (by assumption) ?_
        refine v_iconst dX9_count__123 ?_
        refine v_iald (j := 1) dX9_count__124 (by assumption) rfl (by omega) ?_
        rw [e09]
        exact v_iE dX9_count__125 rfl ((res _ (by omega) (by unfold knA; rw [hw]; rfl)).1.symm) ((res _ (by omega) rfl).2.symm)
      · rw [show (ii w) = ii 2 by rw [hw]]
        refine v_tabIn (z := 2) (off := 57) (tgt := 126) dX9_count__69 (by omega) (by omega) rfl (by decide) ?_
        refine v_aload_n dX9_count__126 rfl ?_
        refine v_cV0 dX9_count__127 lk_X9_225 (by assumption) (by decide) rfl (k_papers hfl hM hU.1) (by decide) (Nat.le_of_ble_eq_true rfl) ?_ rfl
        rw [mPs_s (J := I) e09]
        exact v_iE dX9_count__130 rfl ((res _ (by omega) (by unfold knA; rw [hw]; rfl)).1.symm) ((res _ (by omega) rfl).2.symm)
      · rw [show (ii w) = ii 3 by rw [hw]]
        refine v_tabIn (z := 3) (off := 62) (tgt := 131) dX9_count__69 (by omega) (by omega) rfl (by decide) ?_
        obtain ⟨K, hK9, rfl⟩ := hK ht0 hw
        rw [ht0]
        refine v_aload_n dX9_count__131 rfl ?_
        refine v_cV0n dX9_count__132 lk_X9_294 (by assumption) (by decide) rfl (k_know hfl hM (MI_up hMI (by omega) (by omega)) hK9) (by decide) (Nat.le_of_ble_eq_true rfl) ?_ rfl
        refine v_aload_n dX9_count__135 rfl ?_
        refine v_geti dX9_count__136 fr_X9_215 (by assumption) (by decide) rfl ?_
        exact v_iE dX9_count__139 rfl (by rw [if_pos (by omega), if_pos hw]) (by rw [if_pos (by omega), if_pos hw])
      · rw [show (ii w) = ii 4 by rw [hw]]
        refine v_tabIn (z := 4) (off := 71) (tgt := 140) dX9_count__69 (by omega) (by omega) rfl (by decide) ?_
        refine v_aload_n dX9_count__140 rfl ?_
        refine v_getr dX9_count__141 fr_X9_9 (by assumption) (by decide) rfl (by assumption) ?_
        refine v_iconst dX9_count__144 ?_
        refine v_iald (j := 2) dX9_count__145 (by assumption) rfl (by omega) ?_
        rw [e09]
        obtain ⟨u, hu⟩ := Int.eq_ofNat_of_zero_le w2.1
        have hu8 : u < 256 := by omega
        rw [hu]
        refine v_cS1 dX9_count__146 lk_X9_279 (k_bits hfl hu8) (by decide) (Nat.le_of_ble_eq_true rfl) ?_ rfl
        exact v_iE dX9_count__149 rfl (((res (pop8 u : Nat) (by omega) (by unfold knA; rw [hw, hu]; rfl)).1).symm) ((res _ (by omega) rfl).2.symm)
      · rw [show (ii w) = ii 5 by rw [hw]]
        refine v_tabIn (z := 5) (off := 81) (tgt := 150) dX9_count__69 (by omega) (by omega) rfl (by decide) ?_
        refine v_aload_n dX9_count__150 rfl ?_
        refine v_geti dX9_count__151 fr_X9_126 (by assumption) (by decide) rfl ?_
        rw [up_nk (by omega)]
        exact v_iE dX9_count__154 rfl ((res _ (by omega) (by unfold knA; rw [hw]; rfl)).1.symm) ((res _ (by omega) rfl).2.symm)
      · rw [show (ii w) = ii 6 by rw [hw]]
        refine v_tabIn (z := 6) (off := 86) (tgt := 155) dX9_count__69 (by omega) (by omega) rfl (by decide) ?_
        refine v_aload_n dX9_count__155 rfl ?_
        refine v_geti dX9_count__156 fr_X9_142 (by assumption) (by decide) rfl ?_
        rw [up_nk (by omega)]
        exact v_iE dX9_count__159 rfl ((res _ (by omega) (by unfold knA; rw [hw]; rfl)).1.symm) ((res _ (by omega) rfl).2.symm)
      · refine v_tabOut (tgt := 160) dX9_count__69 (Or.inr (by omega)) (by decide) ?_
        refine v_iload_n dX9_count__160 rfl ?_
        refine v_bipush dX9_count__161 (by decide) ?_
        refine v_ic_ge (tgt := 180) dX9_count__163 (by decide) (fun h163 => ?_) (fun h163 => ?_)
        · exfalso; omega
        · refine v_aload_n dX9_count__166 rfl ?_
          refine v_getr dX9_count__167 fr_X9_9 (by assumption) (by decide) rfl (by assumption) ?_
          refine v_iconst dX9_count__170 ?_
          refine v_iload_n dX9_count__171 rfl ?_
          refine v_iadd dX9_count__172 ?_
          refine v_bipush dX9_count__173 (by decide) ?_
          refine v_isub dX9_count__175 ?_
          refine v_iald (j := 3 + (w - 10).toNat) dX9_count__176 (by assumption) (by omega) (by omega) ?_
          rw [e09]
          refine v_goto (tgt := 192) dX9_count__177 (by decide) ?_
          exact v_iE dX9_count__192 rfl (res _ (by omega) (by unfold knA; (repeat (first | rw [if_pos (by omega)] | rw [if_neg (by omega)])))).1.symm (res _ (by omega) rfl).2.symm
      · refine v_tabOut (tgt := 160) dX9_count__69 (Or.inr (by omega)) (by decide) ?_
        refine v_iload_n dX9_count__160 rfl ?_
        refine v_bipush dX9_count__161 (by decide) ?_
        refine v_ic_ge (tgt := 180) dX9_count__163 (by decide) (fun h163 => ?_) (fun h163 => ?_)
        · refine v_aload_n dX9_count__180 rfl ?_
          refine v_getr dX9_count__181 fr_X9_9 (by assumption) (by decide) rfl (by assumption) ?_
          refine v_bipush dX9_count__184 (by decide) ?_
          refine v_iload_n dX9_count__186 rfl ?_
          refine v_iadd dX9_count__187 ?_
          refine v_bipush dX9_count__188 (by decide) ?_
          refine v_isub dX9_count__190 ?_
          refine v_iald (j := 7 + (w - 20).toNat) dX9_count__191 (by assumption) (by omega) (by omega) ?_
          rw [e09]
          exact v_iE dX9_count__192 rfl (res _ (by omega) (by unfold knA; (repeat (first | rw [if_pos (by omega)] | rw [if_neg (by omega)])))).1.symm (res _ (by omega) rfl).2.symm
        · exfalso; omega
    · refine v_iconst dX9_count__66 ?_
      exact v_iE dX9_count__67 rfl (by rw [if_neg (by omega)]) (by rw [if_neg (by omega)])
  have M45 : ∀ y : Int, y = 1 - tKn I w → V l g mX9_count_ 8 (Zm g (QE (some (.int (ii ((if tKn I w ≤ 0 then (if w = 3 then (K9 508 32, K9) else (knA I w, up I 508 6 0)) else (0, up I 508 6 (tKn I w)))).1))) S ((if tKn I w ≤ 0 then (if w = 3 then (K9 508 32, K9) else (knA I w, up I 508 6 0)) else (0, up I 508 6 (tKn I w)))).2 X)) 0 0 45 [some (.ref 508), some (.int (ii w)), none] [.int (ii y)] S I X := by
    intro y hy
    have t01 : tKn I w = 0 ∨ tKn I w = 1 := by unfold tKn; split <;> omega
    refine v_istn2 dX9_count__45 rfl ?_
    refine v_aload_n dX9_count__46 rfl ?_
    refine v_iload_n dX9_count__47 rfl ?_
    refine v_if_eq (tgt := 55) dX9_count__48 (by decide) (fun h48 => ?_) (fun h48 => ?_)
    · refine v_iconst dX9_count__55 ?_
      first
        | (exfalso; omega)
        | exact Mt _ _ (by omega)
    · refine v_iconst dX9_count__51 ?_
      refine v_goto (tgt := 56) dX9_count__52 (by decide) ?_
      first
        | (exfalso; omega)
        | exact Mt _ _ (by omega)
  refine v_startE hfl rfl (by decide) (Nat.le_of_ble_eq_true rfl) (ls := [some (.ref 508), some (.int (ii w)), none]) rfl ?_
  refine v_iload_n dX9_count__0 rfl ?_
  refine v_iconst dX9_count__1 ?_
  refine v_bipush dX9_count__2 (by decide) ?_
  refine v_cS3 dX9_count__4 lk_X9_118 (k_in hfl (by omega) (by omega) (by omega)) (by decide) (Nat.le_of_ble_eq_true rfl) ?_ rfl
  have hi := inF_01 w 0 6
  refine v_if_ne (tgt := 40) dX9_count__7 (by decide) (fun h7 => ?_) (fun h7 => ?_)
  · refine v_iconst dX9_count__40 ?_
    refine v_goto (tgt := 45) dX9_count__41 (by decide) ?_
    exact M45 _ (by unfold tKn; (repeat (first | rw [if_pos (by omega)] | rw [if_neg (by omega)])); first | done | omega)
  · refine v_iload_n dX9_count__10 rfl ?_
    refine v_bipush dX9_count__11 (by decide) ?_
    refine v_bipush dX9_count__13 (by decide) ?_
    refine v_cS3 dX9_count__15 lk_X9_118 (k_in hfl (by omega) (by omega) (by omega)) (by decide) (Nat.le_of_ble_eq_true rfl) ?_ rfl
    have hj := inF_01 w 10 13
    refine v_if_ne (tgt := 40) dX9_count__18 (by decide) (fun h18 => ?_) (fun h18 => ?_)
    · refine v_iconst dX9_count__40 ?_
      refine v_goto (tgt := 45) dX9_count__41 (by decide) ?_
      exact M45 _ (by unfold tKn; (repeat (first | rw [if_pos (by omega)] | rw [if_neg (by omega)])); first | done | omega)
    · refine v_iload_n dX9_count__21 rfl ?_
      refine v_bipush dX9_count__22 (by decide) ?_
      refine v_ic_lt (tgt := 44) dX9_count__24 (by decide) (fun h24 => ?_) (fun h24 => ?_)
      · refine v_iconst dX9_count__44 ?_
        exact M45 _ (by unfold tKn; (repeat (first | rw [if_pos (by omega)] | rw [if_neg (by omega)])); first | done | omega)
      · refine v_iload_n dX9_count__27 rfl ?_
        refine v_bipush dX9_count__28 (by decide) ?_
        refine v_isub dX9_count__30 ?_
        refine v_aload_n dX9_count__31 rfl ?_
        refine v_getr dX9_count__32 fr_X9_9 (by assumption) (by decide) rfl (by assumption) ?_
        refine v_iconst dX9_count__35 ?_
        refine v_iald (j := 0) dX9_count__36 (by assumption) rfl (by omega) ?_
        refine v_ic_ge (tgt := 44) dX9_count__37 (by decide) (fun h37 => ?_) (fun h37 => ?_)
        · refine v_iconst dX9_count__44 ?_
          exact M45 _ (by unfold tKn; (repeat (first | rw [if_pos (by omega)] | rw [if_neg (by omega)])); first | done | omega)
        · refine v_iconst dX9_count__40 ?_
          refine v_goto (tgt := 45) dX9_count__41 (by decide) ?_
          exact M45 _ (by unfold tKn; (repeat (first | rw [if_pos (by omega)] | rw [if_neg (by omega)])); first | done | omega)
