set_option maxRecDepth 100000 in
set_option maxHeartbeats 4000000 in
theorem k_prepare {l : Launch} {g : GV} {S : SS} {I : II} {X : XX} (hfl : l.stackTraces = false) (hM : isMod S) (hW : WfM I) (hRG : RG I) : CE l g mX9_prepare 3 [.ref 508] S I X none (prM I) := by
  obtain ⟨m0, ⟨p509, q509⟩, ⟨p510, q510⟩, ⟨p511, q511⟩, ⟨p512, q512⟩, ⟨p513, q513⟩, ⟨p514, q514⟩, ⟨p515, q515⟩, ⟨p516, q516⟩, ⟨p517, q517⟩, ⟨p518, q518⟩, ⟨p519, q519⟩, ⟨p520, q520⟩, ⟨p521, q521⟩, ⟨p522, q522⟩, ⟨p523, q523⟩, ⟨p524, q524⟩, ⟨p525, q525⟩, ⟨p526, q526⟩, ⟨p527, q527⟩, ⟨p528, q528⟩, ⟨p529, q529⟩, ⟨p530, q530⟩, ⟨p531, q531⟩, ⟨p532, q532⟩, ⟨p533, q533⟩, ⟨p534, q534⟩, ⟨p535, q535⟩, ⟨p536, q536⟩, ⟨p537, q537⟩, ⟨p538, q538⟩, ⟨p539, q539⟩, ⟨p540, q540⟩⟩ := id hM
  obtain ⟨w0, w1, w2, w3, w4, w5, w6, w7, w8, w9, w10⟩ := id hW
  obtain ⟨n, hn⟩ := Int.eq_ofNat_of_zero_le w1.1
  have L : ∀ k : Nat, k ≤ 8 → V l g mX9_prepare 3 (Zm g (QE none S (prM I) X)) 0 0 22 [some (.ref 508), some (.int (ii (k : Int)))] [] S (foldUp (pqS I) (prI I) k) X := by
    refine loop_up fun k hk ih => ?_
    refine v_iload_n dX9_prepare_22 rfl ?_
    refine v_bipush dX9_prepare_23 (by decide) ?_
    refine v_ic_ge (tgt := 105) dX9_prepare_25 (by decide) (fun h25 => ?_) (fun h25 => ?_)
    · obtain rfl : k = 8 := by omega
      refine v_iconst dX9_prepare_105 ?_
      refine v_istn1 dX9_prepare_106 rfl ?_
      have L2 : ∀ p : Nat, p ≤ n → V l g mX9_prepare 3 (Zm g (QE none S (prM I) X)) 0 0 107 [some (.ref 508), some (.int (ii (p : Int)))] [] S (foldUp ppS (prA I) p) X := by
        refine loop_up fun p hp jh => ?_
        refine v_iload_n dX9_prepare_107 rfl ?_
        refine v_aload_n dX9_prepare_108 rfl ?_
        refine v_getr dX9_prepare_109 fr_X9_9 (by assumption) (by decide) rfl (by assumption) ?_
        refine v_iconst dX9_prepare_112 ?_
        refine v_iald (j := 1) dX9_prepare_113 (by assumption) rfl (by omega) ?_
        rw [pp_s p, hn]
        refine v_ic_ge (tgt := 139) dX9_prepare_114 (by decide) (fun h114 => ?_) (fun h114 => ?_)
        · obtain rfl : p = n := by omega
          exact v_vE dX9_prepare_139 rfl (by unfold prM; rw [hn]; rfl)
        · refine v_aload_n dX9_prepare_117 rfl ?_
          refine v_getr dX9_prepare_118 fr_X9_93 (by assumption) (by decide) rfl (by assumption) ?_
          refine v_iload_n dX9_prepare_121 rfl ?_
          refine v_sipush dX9_prepare_122 (by decide) ?_
          refine v_iast (j := p) dX9_prepare_125 (by assumption) (by first | rfl | omega) (by omega) ?_
          refine v_aload_n dX9_prepare_126 rfl ?_
          refine v_iload_n dX9_prepare_127 rfl ?_
          refine v_iconst dX9_prepare_128 ?_
          refine v_iconst dX9_prepare_129 ?_
          refine v_cV3n dX9_prepare_130 lk_X9_221 (by assumption) (by decide) rfl (k_goOn hfl hM (WfM_of hW ((up_ne (by omega)).trans (pp_s p))) (rg_up (rg_pp hRG hW p (by omega)) (by omega)) (by omega) (by omega)) (by decide) (Nat.le_of_ble_eq_true rfl) ?_ rfl
          refine v_iinc1 dX9_prepare_133 rfl ?_
          refine v_goto (tgt := 107) dX9_prepare_136 (by decide) ?_
          have q9 := jh (p + 1) (by omega) (by omega)
          rw [fold_s, ppS_eq] at q9
          exact q9
      have q0 := L2 0 (Nat.zero_le _)
      rw [fold_0] at q0
      unfold prA at q0
      exact q0
    · have ec : foldUp (pqS I) (prI I) k 509 = I 509 := pq_s k
      have h01 := btI_01 (I 509 2).toNat k
      have ps : psF I k = if I 509 0 ≤ k ∨ ¬ btI (I 509 2).toNat k = 0 then 3 else 0 := rfl
      refine v_aload_n dX9_prepare_28 rfl ?_
      refine v_getr dX9_prepare_29 fr_X9_62 (by assumption) (by decide) rfl (by assumption) ?_
      refine v_iload_n dX9_prepare_32 rfl ?_
      refine v_iload_n dX9_prepare_33 rfl ?_
      refine v_aload_n dX9_prepare_34 rfl ?_
      refine v_getr dX9_prepare_35 fr_X9_9 (by assumption) (by decide) rfl (by assumption) ?_
      refine v_iconst dX9_prepare_38 ?_
      refine v_iald (j := 0) dX9_prepare_39 (by assumption) rfl (by omega) ?_
      rw [ec]
      refine v_ic_ge (tgt := 51) dX9_prepare_40 (by decide) (fun h40 => ?_) (fun h40 => ?_)
      · refine v_iconst dX9_prepare_51 ?_
        refine v_goto (tgt := 56) dX9_prepare_52 (by decide) ?_
        refine v_iast (j := k) dX9_prepare_56 (by assumption) (by first | rfl | omega) (by omega) ?_
        refine v_aload_n dX9_prepare_57 rfl ?_
        refine v_getr dX9_prepare_58 fr_X9_65 (by assumption) (by decide) rfl (by assumption) ?_
        refine v_iload_n dX9_prepare_61 rfl ?_
        refine v_iconst dX9_prepare_62 ?_
        refine v_iast (j := k) dX9_prepare_63 (by assumption) (by first | rfl | omega) (by omega) ?_
        refine v_aload_n dX9_prepare_64 rfl ?_
        refine v_getr dX9_prepare_65 fr_X9_68 (by assumption) (by decide) rfl (by assumption) ?_
        refine v_iload_n dX9_prepare_68 rfl ?_
        refine v_iconst dX9_prepare_69 ?_
        refine v_iast (j := k) dX9_prepare_70 (by assumption) (by first | rfl | omega) (by omega) ?_
        refine v_aload_n dX9_prepare_71 rfl ?_
        refine v_getr dX9_prepare_72 fr_X9_71 (by assumption) (by decide) rfl (by assumption) ?_
        refine v_iload_n dX9_prepare_75 rfl ?_
        refine v_iconst dX9_prepare_76 ?_
        refine v_iast (j := k) dX9_prepare_77 (by assumption) (by first | rfl | omega) (by omega) ?_
        refine v_aload_n dX9_prepare_78 rfl ?_
        refine v_getr dX9_prepare_79 fr_X9_74 (by assumption) (by decide) rfl (by assumption) ?_
        refine v_iload_n dX9_prepare_82 rfl ?_
        refine v_iconst dX9_prepare_83 ?_
        refine v_iast (j := k) dX9_prepare_84 (by assumption) (by first | rfl | omega) (by omega) ?_
        refine v_aload_n dX9_prepare_85 rfl ?_
        refine v_getr dX9_prepare_86 fr_X9_80 (by assumption) (by decide) rfl (by assumption) ?_
        refine v_iload_n dX9_prepare_89 rfl ?_
        refine v_iconst dX9_prepare_90 ?_
        refine v_iast (j := k) dX9_prepare_91 (by assumption) (by first | rfl | omega) (by omega) ?_
        refine v_aload_n dX9_prepare_92 rfl ?_
        refine v_getr dX9_prepare_93 fr_X9_83 (by assumption) (by decide) rfl (by assumption) ?_
        refine v_iload_n dX9_prepare_96 rfl ?_
        refine v_iconst dX9_prepare_97 ?_
        refine v_bast (j := k) dX9_prepare_98 (by assumption) rfl (by omega) (Or.inl rfl) ?_
        refine v_iinc1 dX9_prepare_99 rfl ?_
        refine v_goto (tgt := 22) dX9_prepare_102 (by decide) ?_
        have q9 := ih (k + 1) (by omega) (by omega)
        rw [fold_s, pqS_eq] at q9
        first
          | (rw [show psF I k = 3 by rw [ps]; exact if_pos (by omega)] at q9; exact q9)
          | (rw [show psF I k = 0 by rw [ps]; exact if_neg (by omega)] at q9; exact q9)
      · refine v_aload_n dX9_prepare_43 rfl ?_
        refine v_iload_n dX9_prepare_44 rfl ?_
        refine v_cV1 dX9_prepare_45 lk_X9_196 (by assumption) (by decide) rfl (k_isGone hfl hM (WfM_of hW (pq_s k)) (by omega)) (by decide) (Nat.le_of_ble_eq_true rfl) ?_ rfl
        rw [ec]
        refine v_if_eq (tgt := 55) dX9_prepare_48 (by decide) (fun h48 => ?_) (fun h48 => ?_)
        · refine v_iconst dX9_prepare_55 ?_
          refine v_iast (j := k) dX9_prepare_56 (by assumption) (by first | rfl | omega) (by omega) ?_
          refine v_aload_n dX9_prepare_57 rfl ?_
          refine v_getr dX9_prepare_58 fr_X9_65 (by assumption) (by decide) rfl (by assumption) ?_
          refine v_iload_n dX9_prepare_61 rfl ?_
          refine v_iconst dX9_prepare_62 ?_
          refine v_iast (j := k) dX9_prepare_63 (by assumption) (by first | rfl | omega) (by omega) ?_
          refine v_aload_n dX9_prepare_64 rfl ?_
          refine v_getr dX9_prepare_65 fr_X9_68 (by assumption) (by decide) rfl (by assumption) ?_
          refine v_iload_n dX9_prepare_68 rfl ?_
          refine v_iconst dX9_prepare_69 ?_
          refine v_iast (j := k) dX9_prepare_70 (by assumption) (by first | rfl | omega) (by omega) ?_
          refine v_aload_n dX9_prepare_71 rfl ?_
          refine v_getr dX9_prepare_72 fr_X9_71 (by assumption) (by decide) rfl (by assumption) ?_
          refine v_iload_n dX9_prepare_75 rfl ?_
          refine v_iconst dX9_prepare_76 ?_
          refine v_iast (j := k) dX9_prepare_77 (by assumption) (by first | rfl | omega) (by omega) ?_
          refine v_aload_n dX9_prepare_78 rfl ?_
          refine v_getr dX9_prepare_79 fr_X9_74 (by assumption) (by decide) rfl (by assumption) ?_
          refine v_iload_n dX9_prepare_82 rfl ?_
          refine v_iconst dX9_prepare_83 ?_
          refine v_iast (j := k) dX9_prepare_84 (by assumption) (by first | rfl | omega) (by omega) ?_
          refine v_aload_n dX9_prepare_85 rfl ?_
          refine v_getr dX9_prepare_86 fr_X9_80 (by assumption) (by decide) rfl (by assumption) ?_
          refine v_iload_n dX9_prepare_89 rfl ?_
          refine v_iconst dX9_prepare_90 ?_
          refine v_iast (j := k) dX9_prepare_91 (by assumption) (by first | rfl | omega) (by omega) ?_
          refine v_aload_n dX9_prepare_92 rfl ?_
          refine v_getr dX9_prepare_93 fr_X9_83 (by assumption) (by decide) rfl (by assumption) ?_
          refine v_iload_n dX9_prepare_96 rfl ?_
          refine v_iconst dX9_prepare_97 ?_
          refine v_bast (j := k) dX9_prepare_98 (by assumption) rfl (by omega) (Or.inl rfl) ?_
          refine v_iinc1 dX9_prepare_99 rfl ?_
          refine v_goto (tgt := 22) dX9_prepare_102 (by decide) ?_
          have q9 := ih (k + 1) (by omega) (by omega)
          rw [fold_s, pqS_eq] at q9
          first
            | (rw [show psF I k = 3 by rw [ps]; exact if_pos (by omega)] at q9; exact q9)
            | (rw [show psF I k = 0 by rw [ps]; exact if_neg (by omega)] at q9; exact q9)
        · refine v_iconst dX9_prepare_51 ?_
          refine v_goto (tgt := 56) dX9_prepare_52 (by decide) ?_
          refine v_iast (j := k) dX9_prepare_56 (by assumption) (by first | rfl | omega) (by omega) ?_
          refine v_aload_n dX9_prepare_57 rfl ?_
          refine v_getr dX9_prepare_58 fr_X9_65 (by assumption) (by decide) rfl (by assumption) ?_
          refine v_iload_n dX9_prepare_61 rfl ?_
          refine v_iconst dX9_prepare_62 ?_
          refine v_iast (j := k) dX9_prepare_63 (by assumption) (by first | rfl | omega) (by omega) ?_
          refine v_aload_n dX9_prepare_64 rfl ?_
          refine v_getr dX9_prepare_65 fr_X9_68 (by assumption) (by decide) rfl (by assumption) ?_
          refine v_iload_n dX9_prepare_68 rfl ?_
          refine v_iconst dX9_prepare_69 ?_
          refine v_iast (j := k) dX9_prepare_70 (by assumption) (by first | rfl | omega) (by omega) ?_
          refine v_aload_n dX9_prepare_71 rfl ?_
          refine v_getr dX9_prepare_72 fr_X9_71 (by assumption) (by decide) rfl (by assumption) ?_
          refine v_iload_n dX9_prepare_75 rfl ?_
          refine v_iconst dX9_prepare_76 ?_
          refine v_iast (j := k) dX9_prepare_77 (by assumption) (by first | rfl | omega) (by omega) ?_
          refine v_aload_n dX9_prepare_78 rfl ?_
          refine v_getr dX9_prepare_79 fr_X9_74 (by assumption) (by decide) rfl (by assumption) ?_
          refine v_iload_n dX9_prepare_82 rfl ?_
          refine v_iconst dX9_prepare_83 ?_
          refine v_iast (j := k) dX9_prepare_84 (by assumption) (by first | rfl | omega) (by omega) ?_
          refine v_aload_n dX9_prepare_85 rfl ?_
          refine v_getr dX9_prepare_86 fr_X9_80 (by assumption) (by decide) rfl (by assumption) ?_
          refine v_iload_n dX9_prepare_89 rfl ?_
          refine v_iconst dX9_prepare_90 ?_
          refine v_iast (j := k) dX9_prepare_91 (by assumption) (by first | rfl | omega) (by omega) ?_
          refine v_aload_n dX9_prepare_92 rfl ?_
          refine v_getr dX9_prepare_93 fr_X9_83 (by assumption) (by decide) rfl (by assumption) ?_
          refine v_iload_n dX9_prepare_96 rfl ?_
          refine v_iconst dX9_prepare_97 ?_
          refine v_bast (j := k) dX9_prepare_98 (by assumption) rfl (by omega) (Or.inl rfl) ?_
          refine v_iinc1 dX9_prepare_99 rfl ?_
          refine v_goto (tgt := 22) dX9_prepare_102 (by decide) ?_
          have q9 := ih (k + 1) (by omega) (by omega)
          rw [fold_s, pqS_eq] at q9
          first
            | (rw [show psF I k = 3 by rw [ps]; exact if_pos (by omega)] at q9; exact q9)
            | (rw [show psF I k = 0 by rw [ps]; exact if_neg (by omega)] at q9; exact q9)
  refine v_startE hfl rfl (by decide) (Nat.le_of_ble_eq_true rfl) (ls := [some (.ref 508), none]) rfl ?_
  refine v_aload_n dX9_prepare_0 rfl ?_
  refine v_iconst dX9_prepare_1 ?_
  refine v_puti dX9_prepare_2 fr_X9_212 (by assumption) (by decide) rfl ?_
  refine v_aload_n dX9_prepare_5 rfl ?_
  refine v_iconst dX9_prepare_6 ?_
  refine v_puti dX9_prepare_7 fr_X9_215 (by assumption) (by decide) rfl ?_
  refine v_aload_n dX9_prepare_10 rfl ?_
  refine v_iconst dX9_prepare_11 ?_
  refine v_puti dX9_prepare_12 fr_X9_209 (by assumption) (by decide) rfl ?_
  refine v_aload_n dX9_prepare_15 rfl ?_
  refine v_iconst dX9_prepare_16 ?_
  refine v_puti dX9_prepare_17 fr_X9_218 (by assumption) (by decide) rfl ?_
  refine v_iconst dX9_prepare_20 ?_
  refine v_istn1 dX9_prepare_21 rfl ?_
  have q0 := L 0 (Nat.zero_le _)
  rw [fold_0] at q0
  exact q0
