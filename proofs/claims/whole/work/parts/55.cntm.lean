/-! THE MODEL: exclusions, the count -/
set_option maxRecDepth 100000 in
set_option maxHeartbeats 4000000 in
theorem k_exL {l : Launch} {g : GV} {S : SS} {X : XX} {q r n : Nat} {un : Int} {K : II} (hfl : l.stackTraces = false) (hM : isMod S) (hq : q < 8) (hr : r < 9) (hn25 : n ≤ 25) : ∀ (j p : Nat) (J : II), p + j = n → xcL r q j p J = some K → WfM J → RG J → J 508 15 = (r : Int) → J 509 1 = (n : Int) → V l g mX9_exclude 3 (Zm g (QE none S (hnM K r 2 q un) X)) 0 0 121 [some (.ref 508), some (.int (ii (q : Int))), none, some (.int (ii un)), some (.int (ii (p : Int)))] [] S J X := by
  obtain ⟨m0, ⟨p509, q509⟩, ⟨p510, q510⟩, ⟨p511, q511⟩, ⟨p512, q512⟩, ⟨p513, q513⟩, ⟨p514, q514⟩, ⟨p515, q515⟩, ⟨p516, q516⟩, ⟨p517, q517⟩, ⟨p518, q518⟩, ⟨p519, q519⟩, ⟨p520, q520⟩, ⟨p521, q521⟩, ⟨p522, q522⟩, ⟨p523, q523⟩, ⟨p524, q524⟩, ⟨p525, q525⟩, ⟨p526, q526⟩, ⟨p527, q527⟩, ⟨p528, q528⟩, ⟨p529, q529⟩, ⟨p530, q530⟩, ⟨p531, q531⟩, ⟨p532, q532⟩, ⟨p533, q533⟩, ⟨p534, q534⟩, ⟨p535, q535⟩, ⟨p536, q536⟩, ⟨p537, q537⟩, ⟨p538, q538⟩, ⟨p539, q539⟩, ⟨p540, q540⟩⟩ := id hM
  have main : ∀ p : Nat, p ≤ n → ∀ (j : Nat) (J : II), p + j = n → xcL r q j p J = some K → WfM J → RG J → J 508 15 = (r : Int) → J 509 1 = (n : Int) → V l g mX9_exclude 3 (Zm g (QE none S (hnM K r 2 q un) X)) 0 0 121 [some (.ref 508), some (.int (ii (q : Int))), none, some (.int (ii un)), some (.int (ii (p : Int)))] [] S J X := by
    refine loop_up fun p hpn ih0 => ?_
    intro j J hj hT hW hRG hrr hn
    have ih : ∀ (k p2 : Nat) (J2 : II), p2 = p + 1 → p2 + k = n → xcL r q k p2 J2 = some K → WfM J2 → RG J2 → J2 508 15 = (r : Int) → J2 509 1 = (n : Int) → V l g mX9_exclude 3 (Zm g (QE none S (hnM K r 2 q un) X)) 0 0 121 [some (.ref 508), some (.int (ii (q : Int))), none, some (.int (ii un)), some (.int (ii (p2 : Int)))] [] S J2 X := fun k p2 J2 e1 e2 e3 e4 e5 e6 e7 => ih0 p2 (by omega) (by omega) k J2 e2 e3 e4 e5 e6 e7
    obtain ⟨w0, w1, w2, w3, w4, w5, w6, w7, w8, w9, w10⟩ := id hW
    refine v_iload dX9_exclude_121 rfl ?_
    refine v_aload_n dX9_exclude_123 rfl ?_
    refine v_getr dX9_exclude_124 fr_X9_9 (by assumption) (by decide) rfl (by assumption) ?_
    refine v_iconst dX9_exclude_127 ?_
    refine v_iald (j := 1) dX9_exclude_128 (by assumption) rfl (by omega) ?_
    rw [hn]
    refine v_ic_ge (tgt := 166) dX9_exclude_129 (by decide) (fun h129 => ?_) (fun h129 => ?_)
    · obtain rfl : j = 0 := by omega
      obtain rfl : J = K := by
        have hT2 : some J = some K := hT
        simpa using hT2
      refine v_aload_n dX9_exclude_166 rfl ?_
      refine v_iconst dX9_exclude_167 ?_
      refine v_iload_n dX9_exclude_168 rfl ?_
      refine v_iload_n dX9_exclude_169 rfl ?_
      refine v_cV3n dX9_exclude_170 lk_X9_263 (by assumption) (by decide) rfl (k_happened hfl hM hrr hr) (by decide) (Nat.le_of_ble_eq_true rfl) ?_ rfl
      exact v_vE dX9_exclude_173 rfl (rfl)
    · obtain ⟨k, rfl⟩ : ∃ k, j = k + 1 := ⟨j - 1, by omega⟩
      have hp : p < 25 := by omega
      have g1 := hRG 533 p
      unfold xcL at hT
      refine v_aload_n dX9_exclude_132 rfl ?_
      refine v_getr dX9_exclude_133 fr_X9_87 (by assumption) (by decide) rfl (by assumption) ?_
      refine v_iload dX9_exclude_136 rfl ?_
      refine v_iald (j := p) dX9_exclude_138 (by assumption) (by first | rfl | omega) (by omega) ?_
      refine v_iload_n dX9_exclude_139 rfl ?_
      refine v_ic_ne (tgt := 160) dX9_exclude_140 (by decide) (fun h140 => ?_) (fun h140 => ?_)
      · refine v_iinc4 dX9_exclude_160 rfl ?_
        refine v_goto (tgt := 121) dX9_exclude_163 (by decide) ?_
        first
          | (rw [if_neg (by omega)] at hT; exact ih k (p + 1) _ (by omega) (by omega) hT hW hRG hrr hn)
          | exact ih k (p + 1) _ (by omega) (by omega) hT (WfM_of hW (goM_e (by omega) (by omega) (by omega) (by omega) (by omega))) (rg_go hRG hW hp hb (by omega)) (by rw [go_f (by omega)]; exact hrr) (by rw [goM_e (by omega) (by omega) (by omega) (by omega) (by omega)]; exact hn)
      · rw [if_pos (by omega)] at hT
        have hb : -1 ≤ J 534 p ∧ J 534 p ≤ 8 := by
          by_cases hb : -1 ≤ J 534 p ∧ J 534 p ≤ 8
          · exact hb
          · rw [if_neg hb] at hT
            cases hT
        rw [if_pos hb] at hT
        refine v_aload_n dX9_exclude_143 rfl ?_
        refine v_iload dX9_exclude_144 rfl ?_
        refine v_aload_n dX9_exclude_146 rfl ?_
        refine v_getr dX9_exclude_147 fr_X9_90 (by assumption) (by decide) rfl (by assumption) ?_
        refine v_iload dX9_exclude_150 rfl ?_
        refine v_iald (j := p) dX9_exclude_152 (by assumption) (by first | rfl | omega) (by omega) ?_
        refine v_aload_n dX9_exclude_153 rfl ?_
        refine v_geti dX9_exclude_154 fr_X9_212 (by assumption) (by decide) rfl ?_
        rw [hrr]
        refine v_cV3n dX9_exclude_157 lk_X9_221 (by assumption) (by decide) rfl (k_goOn hfl hM hW hRG (by omega) (by omega)) (by decide) (Nat.le_of_ble_eq_true rfl) ?_ rfl
        refine v_iinc4 dX9_exclude_160 rfl ?_
        refine v_goto (tgt := 121) dX9_exclude_163 (by decide) ?_
        first
          | (rw [if_neg (by omega)] at hT; exact ih k (p + 1) _ (by omega) (by omega) hT hW hRG hrr hn)
          | exact ih k (p + 1) _ (by omega) (by omega) hT (WfM_of hW (goM_e (by omega) (by omega) (by omega) (by omega) (by omega))) (rg_go hRG hW hp hb (by omega)) (by rw [go_f (by omega)]; exact hrr) (by rw [goM_e (by omega) (by omega) (by omega) (by omega) (by omega)]; exact hn)
  exact fun j p J hj hT hW hRG hrr hn => main p (by omega) j J hj hT hW hRG hrr hn

set_option maxRecDepth 100000 in
set_option maxHeartbeats 4000000 in
theorem k_exclude {l : Launch} {g : GV} {S : SS} {I : II} {X : XX} {r : Nat} {K : II} (hfl : l.stackTraces = false) (hM : isMod S) (hW : WfM I) (hRG : RG I) (hrr : I 508 15 = (r : Int)) (hr : r < 9) (hK : exO I r = some K) : CE l g mX9_exclude 3 [.ref 508] S I X none K := by
  obtain ⟨m0, ⟨p509, q509⟩, ⟨p510, q510⟩, ⟨p511, q511⟩, ⟨p512, q512⟩, ⟨p513, q513⟩, ⟨p514, q514⟩, ⟨p515, q515⟩, ⟨p516, q516⟩, ⟨p517, q517⟩, ⟨p518, q518⟩, ⟨p519, q519⟩, ⟨p520, q520⟩, ⟨p521, q521⟩, ⟨p522, q522⟩, ⟨p523, q523⟩, ⟨p524, q524⟩, ⟨p525, q525⟩, ⟨p526, q526⟩, ⟨p527, q527⟩, ⟨p528, q528⟩, ⟨p529, q529⟩, ⟨p530, q530⟩, ⟨p531, q531⟩, ⟨p532, q532⟩, ⟨p533, q533⟩, ⟨p534, q534⟩, ⟨p535, q535⟩, ⟨p536, q536⟩, ⟨p537, q537⟩, ⟨p538, q538⟩, ⟨p539, q539⟩, ⟨p540, q540⟩⟩ := id hM
  obtain ⟨w0, w1, w2, w3, w4, w5, w6, w7, w8, w9, w10⟩ := id hW
  obtain ⟨n, hn⟩ := Int.eq_ofNat_of_zero_le w1.1
  unfold exO at hK
  have hs8 : hpF I 0 (I 509 0).toNat < 256 := hpF_lt I 0 _ (by omega)
  generalize hs : hpF I 0 (I 509 0).toNat = s at hK hs8
  have hlv := lkV_rng (r := r) (s := s) (m := 0) hW
  by_cases hv : 0 ≤ lkV I r s 0
  · rw [if_pos hv] at hK
    obtain ⟨q, hq⟩ := Int.eq_ofNat_of_zero_le hv
    rw [hq, Int.toNat_natCast] at hK
    have hq8 : q < 8 := by omega
    have hJ : MI (lkM I r s 0) := MI_lk ⟨hW, hRG⟩ hr
    have hrJ : lkM I r s 0 508 15 = (r : Int) := (lkM_f (by omega) (by omega)).trans hrr
    have hnJ : lkM I r s 0 509 1 = (n : Int) := by rw [lkM_ne (by omega)]; exact hn
    have hbJ := lk_b01 (I := I) (r := r) (s := s) (m := 0)
    have hsJ : hpF (lkM I r s 0) 0 (lkM I r s 0 509 0).toNat = s := by rw [lk_hp, lkM_ne (by omega)]; exact hs
    have e0 : lkM I r s 0 509 = I 509 := lkM_ne (by omega)
    have w0J : 2 ≤ lkM I r s 0 509 0 ∧ lkM I r s 0 509 0 ≤ 8 := by rw [e0]; exact w0
    have g41 := hJ.2 508 41
    have g531 := hJ.2 531 q
    have h41 := g41
    unfold xcB at hK
    rw [hnJ, Int.toNat_natCast] at hK
    obtain ⟨K1, hT, rfl⟩ := Option.map_eq_some_iff.mp hK
    have hss := hs
    generalize hJd : lkM I r s 0 = J at *
    have M103 : ∀ v : Int, v = (if xcR J r s = 4 then J 508 41 else -1) → V l g mX9_exclude 3 (Zm g (QE none S (hnM K1 r 2 q (J 531 q)) X)) 0 0 103 [some (.ref 508), some (.int (ii (q : Int))), none, none, none] [.int (ii v), .int (ii (q : Int)), .ref 529] S (up (up (up J 525 q 2) 526 q r) 528 q (xcR J r s)) X := by
      intro v hv9
      subst hv9
      refine v_iast (j := q) dX9_exclude_103 (by assumption) (by first | rfl | omega) (by omega) ?_
      refine v_aload_n dX9_exclude_104 rfl ?_
      refine v_getr dX9_exclude_105 fr_X9_80 (by assumption) (by decide) rfl (by assumption) ?_
      refine v_iload_n dX9_exclude_108 rfl ?_
      refine v_iald (j := q) dX9_exclude_109 (by assumption) rfl (by omega) ?_
      rw [up_ne (by omega), up_ne (by omega), up_ne (by omega), up_ne (by omega)]
      refine v_istn3 dX9_exclude_110 rfl ?_
      refine v_aload_n dX9_exclude_111 rfl ?_
      refine v_getr dX9_exclude_112 fr_X9_80 (by assumption) (by decide) rfl (by assumption) ?_
      refine v_iload_n dX9_exclude_115 rfl ?_
      refine v_iconst dX9_exclude_116 ?_
      refine v_iast (j := q) dX9_exclude_117 (by assumption) (by first | rfl | omega) (by omega) ?_
      refine v_iconst dX9_exclude_118 ?_
      refine v_ist4 dX9_exclude_119 rfl ?_
      have hA := MI_xcA (q := q) (rs := xcR J r s) hJ hr (by have := xcR_rng J r s; omega)
      have h15 : xcA J r q (xcR J r s) 508 15 = (r : Int) := by rw [xcA_e (by omega) (by omega) (by omega) (by omega) (by omega)]; exact hrJ
      have h01 : xcA J r q (xcR J r s) 509 1 = (n : Int) := by rw [xcA_e (by omega) (by omega) (by omega) (by omega) (by omega)]; exact hnJ
      exact k_exL hfl hM hq8 hr (by omega) n 0 _ (by omega) hT hA.1 hA.2 h15 h01
    have M79 : ∀ (z : Int) (x2 : Option Value), z = xcR J r s → V l g mX9_exclude 3 (Zm g (QE none S (hnM K1 r 2 q (J 531 q)) X)) 0 0 79 [some (.ref 508), some (.int (ii (q : Int))), x2, none, none] [.int (ii z), .int (ii (q : Int)), .ref 528] S (up (up J 525 q 2) 526 q r) X := by
      intro z x2 hz9
      subst hz9
      have hx3 := xcR_rng J r s
      refine v_iast (j := q) dX9_exclude_79 (by assumption) (by first | rfl | omega) (by omega) ?_
      refine v_aload_n dX9_exclude_80 rfl ?_
      refine v_getr dX9_exclude_81 fr_X9_74 (by assumption) (by decide) rfl (by assumption) ?_
      refine v_iload_n dX9_exclude_84 rfl ?_
      refine v_aload_n dX9_exclude_85 rfl ?_
      refine v_getr dX9_exclude_86 fr_X9_71 (by assumption) (by decide) rfl (by assumption) ?_
      refine v_iload_n dX9_exclude_89 rfl ?_
      refine v_iald (j := q) dX9_exclude_90 (by assumption) rfl (by omega) ?_
      rw [up_eq]
      refine v_iconst dX9_exclude_91 ?_
      refine v_ic_ne (tgt := 102) dX9_exclude_92 (by decide) (fun h92 => ?_) (fun h92 => ?_)
      · refine v_iconst dX9_exclude_102 ?_
        first
          | (exfalso; omega)
          | exact v_fgt2 (M103 _ (if_pos (by omega)).symm) (fgt_c (Or.inr rfl) (fgt_c (Or.inr rfl) (fgt_c (Or.inl rfl) (fgt_c (Or.inl rfl) (fgt_c (Or.inl rfl) (fgt_n))))))
          | exact v_fgt2 (M103 _ (if_neg (by omega)).symm) (fgt_c (Or.inr rfl) (fgt_c (Or.inr rfl) (fgt_c (Or.inl rfl) (fgt_c (Or.inl rfl) (fgt_c (Or.inl rfl) (fgt_n))))))
      · refine v_aload_n dX9_exclude_95 rfl ?_
        refine v_geti dX9_exclude_96 fr_X9_238 (by assumption) (by decide) rfl ?_
        rw [up_ne (by omega), up_ne (by omega), up_ne (by omega)]
        refine v_goto (tgt := 103) dX9_exclude_99 (by decide) ?_
        first
          | (exfalso; omega)
          | exact v_fgt2 (M103 _ (if_pos (by omega)).symm) (fgt_c (Or.inr rfl) (fgt_c (Or.inr rfl) (fgt_c (Or.inl rfl) (fgt_c (Or.inl rfl) (fgt_c (Or.inl rfl) (fgt_n))))))
          | exact v_fgt2 (M103 _ (if_neg (by omega)).symm) (fgt_c (Or.inr rfl) (fgt_c (Or.inr rfl) (fgt_c (Or.inl rfl) (fgt_c (Or.inl rfl) (fgt_c (Or.inl rfl) (fgt_n))))))
    refine v_startE hfl rfl (by decide) (Nat.le_of_ble_eq_true rfl) (ls := [some (.ref 508), none, none, none, none]) rfl ?_
    refine v_aload_n dX9_exclude_0 rfl ?_
    refine v_aload_n dX9_exclude_1 rfl ?_
    refine v_iconst dX9_exclude_2 ?_
    refine v_cV1 dX9_exclude_3 lk_X9_266 (by assumption) (by decide) rfl (k_hopeful hfl hM hW hRG (by omega)) (by decide) (Nat.le_of_ble_eq_true rfl) ?_ rfl
    rw [hs]
    refine v_iconst dX9_exclude_6 ?_
    refine v_cV2 dX9_exclude_7 lk_X9_247 (by assumption) (by decide) rfl (k_look hfl hM hW hRG hrr hs8 hr (Or.inl rfl)) (by decide) (Nat.le_of_ble_eq_true rfl) ?_ rfl
    rw [hq, hJd]
    refine v_istn1 dX9_exclude_10 rfl ?_
    refine v_aload_n dX9_exclude_11 rfl ?_
    refine v_aload_n dX9_exclude_12 rfl ?_
    refine v_iconst dX9_exclude_13 ?_
    refine v_cV1 dX9_exclude_14 lk_X9_266 (by assumption) (by decide) rfl (k_hopeful hfl hM hJ.1 hJ.2 (by omega)) (by decide) (Nat.le_of_ble_eq_true rfl) ?_ rfl
    rw [hsJ]
    refine v_aload_n dX9_exclude_17 rfl ?_
    refine v_geti dX9_exclude_18 fr_X9_212 (by assumption) (by decide) rfl ?_
    rw [hrJ]
    refine v_iconst dX9_exclude_21 ?_
    refine v_cV3 dX9_exclude_22 lk_X9_234 (by assumption) (by decide) rfl (k_foremost hfl hM hJ.1 hJ.2 hs8 hr (Or.inl rfl)) (by decide) (Nat.le_of_ble_eq_true rfl) ?_ rfl
    refine v_cS1 dX9_exclude_25 lk_X9_244 (k_isOne hfl (extF_ok (fun c hc => hJ.2 515 (8 * r + c)) (J 509 0).toNat (by omega)).1) (by decide) (Nat.le_of_ble_eq_true rfl) ?_ rfl
    have hon : (onF (extF (mVt J r) s 0 (J 509 0).toNat).1 = 1 ∧ pop8 (extF (mVt J r) s 0 (J 509 0).toNat).1 ≤ 1) ∨ (onF (extF (mVt J r) s 0 (J 509 0).toNat).1 = 0 ∧ ¬ pop8 (extF (mVt J r) s 0 (J 509 0).toNat).1 ≤ 1) := by
      unfold onF
      split
      · exact Or.inl ⟨rfl, by assumption⟩
      · exact Or.inr ⟨rfl, by assumption⟩
    refine v_if_ne (tgt := 35) dX9_exclude_28 (by decide) (fun h28 => ?_) (fun h28 => ?_)
    · refine v_iconst dX9_exclude_35 ?_
      refine v_istn2 dX9_exclude_36 rfl ?_
      refine v_aload_n dX9_exclude_37 rfl ?_
      refine v_getr dX9_exclude_38 fr_X9_62 (by assumption) (by decide) rfl (by assumption) ?_
      refine v_iload_n dX9_exclude_41 rfl ?_
      refine v_iconst dX9_exclude_42 ?_
      refine v_iast (j := q) dX9_exclude_43 (by assumption) (by first | rfl | omega) (by omega) ?_
      refine v_aload_n dX9_exclude_44 rfl ?_
      refine v_getr dX9_exclude_45 fr_X9_65 (by assumption) (by decide) rfl (by assumption) ?_
      refine v_iload_n dX9_exclude_48 rfl ?_
      refine v_aload_n dX9_exclude_49 rfl ?_
      refine v_geti dX9_exclude_50 fr_X9_212 (by assumption) (by decide) rfl ?_
      rw [up_ne (by omega), hrJ]
      refine v_iast (j := q) dX9_exclude_53 (by assumption) rfl (by omega) ?_
      refine v_aload_n dX9_exclude_54 rfl ?_
      refine v_getr dX9_exclude_55 fr_X9_71 (by assumption) (by decide) rfl (by assumption) ?_
      refine v_iload_n dX9_exclude_58 rfl ?_
      refine v_iload_n dX9_exclude_59 rfl ?_
      refine v_if_ne (tgt := 67) dX9_exclude_60 (by decide) (fun h60 => ?_) (fun h60 => ?_)
      · refine v_aload_n dX9_exclude_67 rfl ?_
        refine v_geti dX9_exclude_68 fr_X9_241 (by assumption) (by decide) rfl ?_
        rw [up_ne (by omega), up_ne (by omega)]
        refine v_if_eq (tgt := 78) dX9_exclude_71 (by decide) (fun h71 => ?_) (fun h71 => ?_)
        · refine v_iconst dX9_exclude_78 ?_
          first
            | (exfalso; omega)
            | exact M79 _ _ (by unfold xcR; first | exact (if_pos (by omega)).symm | (rw [if_neg (by omega)]; first | exact (if_pos (by omega)).symm | exact (if_neg (by omega)).symm))
        · refine v_iconst dX9_exclude_74 ?_
          refine v_goto (tgt := 79) dX9_exclude_75 (by decide) ?_
          first
            | (exfalso; omega)
            | exact M79 _ _ (by unfold xcR; first | exact (if_pos (by omega)).symm | (rw [if_neg (by omega)]; first | exact (if_pos (by omega)).symm | exact (if_neg (by omega)).symm))
      · refine v_iconst dX9_exclude_63 ?_
        refine v_goto (tgt := 79) dX9_exclude_64 (by decide) ?_
        first
          | (exfalso; omega)
          | exact M79 _ _ (by unfold xcR; first | exact (if_pos (by omega)).symm | (rw [if_neg (by omega)]; first | exact (if_pos (by omega)).symm | exact (if_neg (by omega)).symm))
    · refine v_iconst dX9_exclude_31 ?_
      refine v_goto (tgt := 36) dX9_exclude_32 (by decide) ?_
      refine v_istn2 dX9_exclude_36 rfl ?_
      refine v_aload_n dX9_exclude_37 rfl ?_
      refine v_getr dX9_exclude_38 fr_X9_62 (by assumption) (by decide) rfl (by assumption) ?_
      refine v_iload_n dX9_exclude_41 rfl ?_
      refine v_iconst dX9_exclude_42 ?_
      refine v_iast (j := q) dX9_exclude_43 (by assumption) (by first | rfl | omega) (by omega) ?_
      refine v_aload_n dX9_exclude_44 rfl ?_
      refine v_getr dX9_exclude_45 fr_X9_65 (by assumption) (by decide) rfl (by assumption) ?_
      refine v_iload_n dX9_exclude_48 rfl ?_
      refine v_aload_n dX9_exclude_49 rfl ?_
      refine v_geti dX9_exclude_50 fr_X9_212 (by assumption) (by decide) rfl ?_
      rw [up_ne (by omega), hrJ]
      refine v_iast (j := q) dX9_exclude_53 (by assumption) rfl (by omega) ?_
      refine v_aload_n dX9_exclude_54 rfl ?_
      refine v_getr dX9_exclude_55 fr_X9_71 (by assumption) (by decide) rfl (by assumption) ?_
      refine v_iload_n dX9_exclude_58 rfl ?_
      refine v_iload_n dX9_exclude_59 rfl ?_
      refine v_if_ne (tgt := 67) dX9_exclude_60 (by decide) (fun h60 => ?_) (fun h60 => ?_)
      · refine v_aload_n dX9_exclude_67 rfl ?_
        refine v_geti dX9_exclude_68 fr_X9_241 (by assumption) (by decide) rfl ?_
        rw [up_ne (by omega), up_ne (by omega)]
        refine v_if_eq (tgt := 78) dX9_exclude_71 (by decide) (fun h71 => ?_) (fun h71 => ?_)
        · refine v_iconst dX9_exclude_78 ?_
          first
            | (exfalso; omega)
            | exact M79 _ _ (by unfold xcR; first | exact (if_pos (by omega)).symm | (rw [if_neg (by omega)]; first | exact (if_pos (by omega)).symm | exact (if_neg (by omega)).symm))
        · refine v_iconst dX9_exclude_74 ?_
          refine v_goto (tgt := 79) dX9_exclude_75 (by decide) ?_
          first
            | (exfalso; omega)
            | exact M79 _ _ (by unfold xcR; first | exact (if_pos (by omega)).symm | (rw [if_neg (by omega)]; first | exact (if_pos (by omega)).symm | exact (if_neg (by omega)).symm))
      · refine v_iconst dX9_exclude_63 ?_
        refine v_goto (tgt := 79) dX9_exclude_64 (by decide) ?_
        first
          | (exfalso; omega)
          | exact M79 _ _ (by unfold xcR; first | exact (if_pos (by omega)).symm | (rw [if_neg (by omega)]; first | exact (if_pos (by omega)).symm | exact (if_neg (by omega)).symm))
  · rw [if_neg hv] at hK
    cases hK

abbrev hpN (I : II) (ls : Int) : Nat := hpF I ls (I 509 0).toNat
abbrev emC (I : II) (r s : Nat) : Prop := 0 ≤ lkV I r s 1 ∧ 0 ≤ I 508 32 ∧ I 508 32 < 8 ∧ 0 ≤ I 522 r ∧ I 522 r < 256
/-- seats by the quota -/
def wqL (r : Nat) (qv : Int) : Nat → II → Option II
  | 0, _ => none
  | k + 1, I => if I 508 32 < I 509 6 ∧ ¬ hpN I qv = 0 then (if emC I r (hpN I qv) then wqL r qv k (emM I r (hpN I qv) 1 (lkV I r (hpN I qv) 1).toNat) else none) else some I
/-- seats for all -/
def waL (r : Nat) (fr : Int) : Nat → II → Option II
  | 0, _ => none
  | k + 1, I => if 0 < fr ∧ ¬ hpN I 0 = 0 then (if emC I r (hpN I 0) then waL r fr k (emM I r (hpN I 0) 2 (lkV I r (hpN I 0) 1).toNat) else none) else some I
def rdT (K : II) (r : Nat) : Option (Int × II) :=
  if 0 ≤ K 508 32 ∧ K 508 32 ≤ 8 then
    if K 509 6 - K 508 32 = 0 ∨ (pop8 (hpN K 0) : Int) ≤ K 509 6 - K 508 32 then (waL r (K 509 6 - K 508 32) 9 K).map (fun L => (0, L))
    else if ¬ wsF K r (K 509 0).toNat = 0 then (if 0 ≤ lkV K r (wsF K r (K 509 0).toNat) 1 then (trO (lkM K r (wsF K r (K 509 0).toNat) 1) r (lkV K r (wsF K r (K 509 0).toNat) 1).toNat).map (fun L => (1, L)) else none)
    else (exO K r).map (fun L => (1, L))
  else none
/-- a round: whether it is the last one (0), the cells -/
def rdS (I : II) (r : Nat) : Option (Int × II) := (wqL r (noM I r 516 r) 9 (noM I r)).bind (fun K => rdT K r)
def cnL : Nat → Nat → II → Option II
  | 0, _, _ => none
  | k + 1, r, I => (rdS I r).bind (fun q => if q.1 = 0 then some (up q.2 508 15 ((r : Int) + 1)) else cnL k (r + 1) (up q.2 508 15 ((r : Int) + 1)))
def cnO (I : II) : Option II := cnL 9 0 (prM I)
theorem em_e {I : II} {r s q x : Nat} {rs : Int} (h0 : x ≠ 508) (h1 : x ≠ 525) (h2 : x ≠ 526) (h3 : x ≠ 527) (h4 : x ≠ 528) (h5 : x ≠ 530) (h6 : x ≠ 522) : emM I r s rs q x = I x := by
  unfold emM
  rw [up_ne h6, up_ne h0, up_ne h5, up_ne h4, up_ne h3, up_ne h2, up_ne h1, lkM_ne h0]
theorem em_15 {I : II} {r s q : Nat} {rs : Int} : emM I r s rs q 508 15 = I 508 15 := by
  unfold emM
  rw [up_ne (by omega), up_nk (by omega), up_ne (by omega), up_ne (by omega), up_ne (by omega), up_ne (by omega), up_ne (by omega)]
  exact lkM_f (by omega) (by omega)
theorem MI_em {I : II} {r s q : Nat} {rs : Int} (h : MI I) (hr : r < 9) (hq : q < 8) (hrs : 0 ≤ rs ∧ rs ≤ 5) (hw : 0 ≤ I 508 32 ∧ I 508 32 < 8) (hu : 0 ≤ I 522 r ∧ I 522 r < 256) : MI (emM I r s rs q) := by
  have ho := or_lt (I 522 r).toNat (by omega) q hq
  unfold emM
  exact MI_up (MI_up (MI_up (MI_up (MI_up (MI_up (MI_up (MI_lk h hr) (by omega) (by omega)) (by omega) (by omega)) (by omega) (by omega)) (by omega) (by omega)) (by omega) (by omega)) (by omega) (by omega)) (by omega) (by omega)
theorem MI_cpy {I : II} {a0 a sp dp n : Nat} (h : MI I) (ha : a ≠ 509) : MI (cpy I a0 a sp dp n) := ⟨WfM_of h.1 (cpy_ne (fun e => ha e.symm)), rg_cpy h.2⟩
theorem MI_no {I : II} {r : Nat} (h : MI I) : MI (noM I r) := by
  have g1 := h.2 508 39
  have g2 := h.2 508 40
  unfold noM noI
  exact MI_cpy (MI_cpy (MI_cpy (MI_up (MI_up (MI_up (MI_up (MI_up (MI_up (MI_up h (by omega) (wr_rng _)) (by omega) g1) (by omega) g2) (by omega) (by omega)) (by omega) (by omega)) (by omega) (by omega)) (by omega) (by omega)) (by omega)) (by omega)) (by omega)
theorem no_e {I : II} {r x : Nat} (h1 : x ≠ 515) (h2 : x ≠ 523) (h3 : x ≠ 524) (h : x < 516 ∨ 522 < x) : noM I r x = I x := by
  unfold noM noI
  rw [cpy_ne (by omega), cpy_ne (by omega), cpy_ne (by omega), up_ne (by omega), up_ne (by omega), up_ne (by omega), up_ne (by omega), up_ne (by omega), up_ne (by omega), up_ne (by omega)]
theorem tf_ok {r n : Nat} {q la su al u2 : Int} {K : II} (hr : r < 9) (hn : n ≤ 25) : ∀ (j p : Nat) (J : II) (u : Int), p + j = n → tfL r q la su al j p J u = some (K, u2) → MI J → MI K ∧ K 508 15 = J 508 15
  | 0, _, J, u, _, h, hM => by
    have h2 : some (J, u) = some (K, u2) := h
    obtain ⟨rfl, rfl⟩ : J = K ∧ u = u2 := by simpa using h2
    exact ⟨hM, rfl⟩
  | j + 1, p, J, u, hj, h, hM => by
    unfold tfL at h
    split at h
    · exact tf_ok hr hn j (p + 1) J u (by omega) h hM
    · split at h
      · rename_i hb
        have hU : MI (tfS J p su al) := MI_up hM (by omega) (wr_rng _)
        obtain ⟨h1, h2⟩ := tf_ok hr hn j (p + 1) _ _ (by omega) h (MI_go hU (by omega) hb (by omega))
        exact ⟨h1, h2.trans ((go_f (by omega)).trans (by unfold tfS; rw [up_ne (by omega)]))⟩
      · cases h
theorem tr_ok {I K : II} {r q : Nat} (h : MI I) (hr : r < 9) (hq : q < 8) (hK : trO I r q = some K) : MI K ∧ K 508 15 = I 508 15 := by
  unfold trO tfA at hK
  obtain ⟨⟨K1, u2⟩, hT, rfl⟩ := Option.map_eq_some_iff.mp hK
  have w1 := h.1.2.1
  obtain ⟨h1, h2⟩ := tf_ok (n := (I 509 1).toNat) hr (by omega) _ _ _ _ (by omega) hT h
  have g1 := h1.2 516 r
  refine ⟨?_, ?_⟩
  · unfold tfE
    exact MI_hn (MI_up (MI_up (MI_up h1 (by omega) g1) (by omega) (by omega)) (by omega) (wr_rng _)) (by omega) (by omega)
  · unfold tfE
    rw [hn_e (by omega) (by omega) (by omega), up_nk (by omega), up_ne (by omega), up_ne (by omega)]
    exact h2
theorem xc_ok {r n : Nat} {q : Int} {K : II} (hr : r < 9) (hn : n ≤ 25) : ∀ (j p : Nat) (J : II), p + j = n → xcL r q j p J = some K → MI J → MI K ∧ K 508 15 = J 508 15
  | 0, _, J, _, h, hM => by
    have h2 : some J = some K := h
    obtain rfl : J = K := by simpa using h2
    exact ⟨hM, rfl⟩
  | j + 1, p, J, hj, h, hM => by
    unfold xcL at h
    split at h
    · split at h
      · rename_i hb
        obtain ⟨h1, h2⟩ := xc_ok hr hn j (p + 1) _ (by omega) h (MI_go hM (by omega) hb (by omega))
        exact ⟨h1, h2.trans (go_f (by omega))⟩
      · cases h
    · exact xc_ok hr hn j (p + 1) J (by omega) h hM
theorem ex_okM {I K : II} {r : Nat} (h : MI I) (hr : r < 9) (hK : exO I r = some K) : MI K ∧ K 508 15 = I 508 15 := by
  unfold exO at hK
  have hv := lkV_rng (r := r) (s := hpF I 0 (I 509 0).toNat) (m := 0) h.1
  split at hK
  · unfold xcB at hK
    obtain ⟨K1, hT, rfl⟩ := Option.map_eq_some_iff.mp hK
    have hJ := MI_lk (r := r) (s := hpF I 0 (I 509 0).toNat) (m := 0) h hr
    have w1 := hJ.1.2.1
    have hx := xcR_rng (lkM I r (hpF I 0 (I 509 0).toNat) 0) r (hpF I 0 (I 509 0).toNat)
    obtain ⟨h1, h2⟩ := xc_ok hr (n := (lkM I r (hpF I 0 (I 509 0).toNat) 0 509 1).toNat) (by omega) _ _ _ (by omega) hT (MI_xcA hJ hr (by omega))
    refine ⟨MI_hn h1 (by omega) (by omega), ?_⟩
    rw [hn_e (by omega) (by omega) (by omega), h2, xcA_e (by omega) (by omega) (by omega) (by omega) (by omega)]
    exact lkM_f (by omega) (by omega)
  · cases hK

set_option maxRecDepth 100000 in
set_option maxHeartbeats 4000000 in
theorem k_wq {l : Launch} {g : GV} {S : SS} {X : XX} {Z : ZZ} {r : Nat} {qv : Int} {K : II} {x1 x3 : Option Value} (hfl : l.stackTraces = false) (hM : isMod S) (hr : r < 9) (hqv : -2147483648 ≤ qv ∧ qv < 2147483648) (kk : MI K → K 508 15 = (r : Int) → V l g mX9_count 5 Z 0 0 59 [some (.ref 508), x1, some (.int (ii qv)), x3] [] S K X) : ∀ (k : Nat) (J : II), J 508 15 = (r : Int) → wqL r qv k J = some K → MI J → V l g mX9_count 5 Z 0 0 24 [some (.ref 508), x1, some (.int (ii qv)), x3] [] S J X := by
  obtain ⟨m0, ⟨p509, q509⟩, ⟨p510, q510⟩, ⟨p511, q511⟩, ⟨p512, q512⟩, ⟨p513, q513⟩, ⟨p514, q514⟩, ⟨p515, q515⟩, ⟨p516, q516⟩, ⟨p517, q517⟩, ⟨p518, q518⟩, ⟨p519, q519⟩, ⟨p520, q520⟩, ⟨p521, q521⟩, ⟨p522, q522⟩, ⟨p523, q523⟩, ⟨p524, q524⟩, ⟨p525, q525⟩, ⟨p526, q526⟩, ⟨p527, q527⟩, ⟨p528, q528⟩, ⟨p529, q529⟩, ⟨p530, q530⟩, ⟨p531, q531⟩, ⟨p532, q532⟩, ⟨p533, q533⟩, ⟨p534, q534⟩, ⟨p535, q535⟩, ⟨p536, q536⟩, ⟨p537, q537⟩, ⟨p538, q538⟩, ⟨p539, q539⟩, ⟨p540, q540⟩⟩ := id hM
  intro k
  induction k with
  | zero => intro J hrr hT hMI; cases hT
  | succ k ih =>
    intro J hrr hT hMI
    have hW := hMI.1
    have hRG := hMI.2
    obtain ⟨w0, w1, w2, w3, w4, w5, w6, w7, w8, w9, w10⟩ := id hW
    have g32 := hRG 508 32
    have hs8 := hpF_lt J qv (J 509 0).toNat (by omega)
    unfold wqL hpN at hT
    refine v_aload_n dX9_count_24 rfl ?_
    refine v_geti dX9_count_25 fr_X9_215 (by assumption) (by decide) rfl ?_
    refine v_aload_n dX9_count_28 rfl ?_
    refine v_getr dX9_count_29 fr_X9_9 (by assumption) (by decide) rfl (by assumption) ?_
    refine v_bipush dX9_count_32 (by decide) ?_
    refine v_iald (j := 6) dX9_count_34 (by assumption) (by first | rfl | omega) (by omega) ?_
    refine v_ic_ge (tgt := 59) dX9_count_35 (by decide) (fun h35 => ?_) (fun h35 => ?_)
    · rw [if_neg (by omega)] at hT
      obtain rfl : J = K := by simpa using hT
      exact kk hMI hrr
    · refine v_aload_n dX9_count_38 rfl ?_
      refine v_iload_n dX9_count_39 rfl ?_
      refine v_cV1 dX9_count_40 lk_X9_266 (by assumption) (by decide) rfl (k_hopeful hfl hM hW hRG (by omega)) (by decide) (Nat.le_of_ble_eq_true rfl) ?_ rfl
      refine v_if_eq (tgt := 59) dX9_count_43 (by decide) (fun h43 => ?_) (fun h43 => ?_)
      · rw [if_neg (by omega)] at hT
        obtain rfl : J = K := by simpa using hT
        exact kk hMI hrr
      · rw [if_pos (by omega)] at hT
        have hc : emC J r (hpF J qv (J 509 0).toNat) := by
          by_cases hc : emC J r (hpF J qv (J 509 0).toNat)
          · exact hc
          · rw [if_neg hc] at hT
            cases hT
        rw [if_pos hc] at hT
        obtain ⟨c1, c2, c3, c4, c5⟩ := hc
        obtain ⟨q, hq⟩ := Int.eq_ofNat_of_zero_le c1
        obtain ⟨w, hw⟩ := Int.eq_ofNat_of_zero_le c2
        obtain ⟨u, hu⟩ := Int.eq_ofNat_of_zero_le c4
        rw [hq, Int.toNat_natCast] at hT
        have hlv := lkV_rng (r := r) (s := (hpF J qv (J 509 0).toNat)) (m := 1) hW
        refine v_aload_n dX9_count_46 rfl ?_
        refine v_aload_n dX9_count_47 rfl ?_
        refine v_iload_n dX9_count_48 rfl ?_
        refine v_cV1 dX9_count_49 lk_X9_266 (by assumption) (by decide) rfl (k_hopeful hfl hM hW hRG (by omega)) (by decide) (Nat.le_of_ble_eq_true rfl) ?_ rfl
        refine v_iconst dX9_count_52 ?_
        refine v_cV2n dX9_count_53 lk_X9_275 (by assumption) (by decide) rfl (k_elect hfl hM hW hRG hrr hs8 hr hq hw (by omega) hu (by omega)) (by decide) (Nat.le_of_ble_eq_true rfl) ?_ rfl
        refine v_goto (tgt := 24) dX9_count_56 (by decide) ?_
        exact ih _ (em_15.trans hrr) hT (MI_em hMI hr (by omega) (by omega) ⟨c2, c3⟩ ⟨c4, c5⟩)

set_option maxRecDepth 100000 in
set_option maxHeartbeats 4000000 in
theorem k_wa {l : Launch} {g : GV} {S : SS} {X : XX} {Z : ZZ} {r : Nat} {fr : Int} {K : II} {x1 x2 : Option Value} (hfl : l.stackTraces = false) (hM : isMod S) (hr : r < 9) (hfr : -2147483648 ≤ fr ∧ fr < 2147483648) (kk : MI K → K 508 15 = (r : Int) → V l g mX9_count 5 Z 0 0 113 [some (.ref 508), x1, x2, some (.int (ii fr))] [] S K X) : ∀ (k : Nat) (J : II), J 508 15 = (r : Int) → waL r fr k J = some K → MI J → V l g mX9_count 5 Z 0 0 88 [some (.ref 508), x1, x2, some (.int (ii fr))] [] S J X := by
  obtain ⟨m0, ⟨p509, q509⟩, ⟨p510, q510⟩, ⟨p511, q511⟩, ⟨p512, q512⟩, ⟨p513, q513⟩, ⟨p514, q514⟩, ⟨p515, q515⟩, ⟨p516, q516⟩, ⟨p517, q517⟩, ⟨p518, q518⟩, ⟨p519, q519⟩, ⟨p520, q520⟩, ⟨p521, q521⟩, ⟨p522, q522⟩, ⟨p523, q523⟩, ⟨p524, q524⟩, ⟨p525, q525⟩, ⟨p526, q526⟩, ⟨p527, q527⟩, ⟨p528, q528⟩, ⟨p529, q529⟩, ⟨p530, q530⟩, ⟨p531, q531⟩, ⟨p532, q532⟩, ⟨p533, q533⟩, ⟨p534, q534⟩, ⟨p535, q535⟩, ⟨p536, q536⟩, ⟨p537, q537⟩, ⟨p538, q538⟩, ⟨p539, q539⟩, ⟨p540, q540⟩⟩ := id hM
  intro k
  induction k with
  | zero => intro J hrr hT hMI; cases hT
  | succ k ih =>
    intro J hrr hT hMI
    have hW := hMI.1
    have hRG := hMI.2
    obtain ⟨w0, w1, w2, w3, w4, w5, w6, w7, w8, w9, w10⟩ := id hW
    have g32 := hRG 508 32
    have hs8 := hpF_lt J 0 (J 509 0).toNat (by omega)
    unfold waL hpN at hT
    refine v_iload_n dX9_count_88 rfl ?_
    refine v_if_le (tgt := 113) dX9_count_89 (by decide) (fun h89 => ?_) (fun h89 => ?_)
    · rw [if_neg (by omega)] at hT
      obtain rfl : J = K := by simpa using hT
      exact kk hMI hrr
    · refine v_aload_n dX9_count_92 rfl ?_
      refine v_iconst dX9_count_93 ?_
      refine v_cV1 dX9_count_94 lk_X9_266 (by assumption) (by decide) rfl (k_hopeful hfl hM hW hRG (by omega)) (by decide) (Nat.le_of_ble_eq_true rfl) ?_ rfl
      refine v_if_eq (tgt := 113) dX9_count_97 (by decide) (fun h97 => ?_) (fun h97 => ?_)
      · rw [if_neg (by omega)] at hT
        obtain rfl : J = K := by simpa using hT
        exact kk hMI hrr
      · rw [if_pos (by omega)] at hT
        have hc : emC J r (hpF J 0 (J 509 0).toNat) := by
          by_cases hc : emC J r (hpF J 0 (J 509 0).toNat)
          · exact hc
          · rw [if_neg hc] at hT
            cases hT
        rw [if_pos hc] at hT
        obtain ⟨c1, c2, c3, c4, c5⟩ := hc
        obtain ⟨q, hq⟩ := Int.eq_ofNat_of_zero_le c1
        obtain ⟨w, hw⟩ := Int.eq_ofNat_of_zero_le c2
        obtain ⟨u, hu⟩ := Int.eq_ofNat_of_zero_le c4
        rw [hq, Int.toNat_natCast] at hT
        have hlv := lkV_rng (r := r) (s := (hpF J 0 (J 509 0).toNat)) (m := 1) hW
        refine v_aload_n dX9_count_100 rfl ?_
        refine v_aload_n dX9_count_101 rfl ?_
        refine v_iconst dX9_count_102 ?_
        refine v_cV1 dX9_count_103 lk_X9_266 (by assumption) (by decide) rfl (k_hopeful hfl hM hW hRG (by omega)) (by decide) (Nat.le_of_ble_eq_true rfl) ?_ rfl
        refine v_iconst dX9_count_106 ?_
        refine v_cV2n dX9_count_107 lk_X9_275 (by assumption) (by decide) rfl (k_elect hfl hM hW hRG hrr hs8 hr hq hw (by omega) hu (by omega)) (by decide) (Nat.le_of_ble_eq_true rfl) ?_ rfl
        refine v_goto (tgt := 88) dX9_count_110 (by decide) ?_
        exact ih _ (em_15.trans hrr) hT (MI_em hMI hr (by omega) (by omega) ⟨c2, c3⟩ ⟨c4, c5⟩)

set_option maxRecDepth 100000 in
set_option maxHeartbeats 4000000 in
theorem k_rdT {l : Launch} {g : GV} {S : SS} {X : XX} {Z : ZZ} {r : Nat} {b : Int} {K L : II} (hfl : l.stackTraces = false) (hM : isMod S) (hr : r < 9) (hrr : K 508 15 = (r : Int)) (hT : rdT K r = some (b, L)) (hMI : MI K) (kk : MI L → L 508 15 = (r : Int) → V l g mX9_count 5 Z 0 0 145 [some (.ref 508), some (.int (ii b)), none, none] [] S L X) : V l g mX9_count 5 Z 0 0 59 [some (.ref 508), some (.int (ii 1)), none, none] [] S K X := by
  obtain ⟨m0, ⟨p509, q509⟩, ⟨p510, q510⟩, ⟨p511, q511⟩, ⟨p512, q512⟩, ⟨p513, q513⟩, ⟨p514, q514⟩, ⟨p515, q515⟩, ⟨p516, q516⟩, ⟨p517, q517⟩, ⟨p518, q518⟩, ⟨p519, q519⟩, ⟨p520, q520⟩, ⟨p521, q521⟩, ⟨p522, q522⟩, ⟨p523, q523⟩, ⟨p524, q524⟩, ⟨p525, q525⟩, ⟨p526, q526⟩, ⟨p527, q527⟩, ⟨p528, q528⟩, ⟨p529, q529⟩, ⟨p530, q530⟩, ⟨p531, q531⟩, ⟨p532, q532⟩, ⟨p533, q533⟩, ⟨p534, q534⟩, ⟨p535, q535⟩, ⟨p536, q536⟩, ⟨p537, q537⟩, ⟨p538, q538⟩, ⟨p539, q539⟩, ⟨p540, q540⟩⟩ := id hM
  have hW := hMI.1
  have hRG := hMI.2
  obtain ⟨w0, w1, w2, w3, w4, w5, w6, w7, w8, w9, w10⟩ := id hW
  unfold rdT hpN at hT
  have hc : 0 ≤ K 508 32 ∧ K 508 32 ≤ 8 := by
    by_cases hc : 0 ≤ K 508 32 ∧ K 508 32 ≤ 8
    · exact hc
    · rw [if_neg hc] at hT
      cases hT
  rw [if_pos hc] at hT
  have hp8 := pop8_le (hpF K 0 (K 509 0).toNat)
  have hws9 := wsF_lt K r (K 509 0).toNat (by omega)
  refine v_aload_n dX9_count_59 rfl ?_
  refine v_getr dX9_count_60 fr_X9_9 (by assumption) (by decide) rfl (by assumption) ?_
  refine v_bipush dX9_count_63 (by decide) ?_
  refine v_iald (j := 6) dX9_count_65 (by assumption) (by first | rfl | omega) (by omega) ?_
  refine v_aload_n dX9_count_66 rfl ?_
  refine v_geti dX9_count_67 fr_X9_215 (by assumption) (by decide) rfl ?_
  refine v_isub dX9_count_70 ?_
  refine v_istn3 dX9_count_71 rfl ?_
  refine v_iload_n dX9_count_72 rfl ?_
  refine v_if_eq (tgt := 88) dX9_count_73 (by decide) (fun h73 => ?_) (fun h73 => ?_)
  · rw [if_pos (by omega)] at hT
    obtain ⟨L2, hL, h9⟩ := Option.map_eq_some_iff.mp hT
    obtain ⟨rfl, rfl⟩ : 0 = b ∧ L2 = L := by simpa using h9
    have M113 : MI L2 → L2 508 15 = (r : Int) → V l g mX9_count 5 Z 0 0 113 [some (.ref 508), none, none, some (.int (ii (K 509 6 - K 508 32)))] [] S L2 X := by
      intro m1 m2
      refine v_iconst dX9_count_113 ?_
      refine v_istn1 dX9_count_114 rfl ?_
      refine v_goto (tgt := 145) dX9_count_115 (by decide) ?_
      exact v_fgt2 (kk m1 m2) (fgt_c (Or.inr rfl) (fgt_c (Or.inr rfl) (fgt_c (Or.inl rfl) (fgt_c (Or.inl rfl) (fgt_n)))))
    exact v_fgt2 (k_wa (x1 := none) (x2 := none) hfl hM hr (by omega) M113 9 K hrr hL hMI) (fgt_c (Or.inr rfl) (fgt_c (Or.inl rfl) (fgt_c (Or.inl rfl) (fgt_c (Or.inr rfl) (fgt_n)))))
  · refine v_aload_n dX9_count_76 rfl ?_
    refine v_iconst dX9_count_77 ?_
    refine v_cV1 dX9_count_78 lk_X9_266 (by assumption) (by decide) rfl (k_hopeful hfl hM hW hRG (by omega)) (by decide) (Nat.le_of_ble_eq_true rfl) ?_ rfl
    refine v_cS1 dX9_count_81 lk_X9_279 (k_bits hfl (hpF_lt K 0 _ (by omega))) (by decide) (Nat.le_of_ble_eq_true rfl) ?_ rfl
    refine v_iload_n dX9_count_84 rfl ?_
    refine v_ic_gt (tgt := 118) dX9_count_85 (by decide) (fun h85 => ?_) (fun h85 => ?_)
    · rw [if_neg (by omega)] at hT
      refine v_aload_n dX9_count_118 rfl ?_
      refine v_cV0 dX9_count_119 lk_X9_282 (by assumption) (by decide) rfl (k_withSurplus hfl hM hW hRG hrr hr) (by decide) (Nat.le_of_ble_eq_true rfl) ?_ rfl
      refine v_if_eq (tgt := 141) dX9_count_122 (by decide) (fun h122 => ?_) (fun h122 => ?_)
      · rw [if_neg (by omega)] at hT
        obtain ⟨L2, hL, h9⟩ := Option.map_eq_some_iff.mp hT
        obtain ⟨rfl, rfl⟩ : 1 = b ∧ L2 = L := by simpa using h9
        obtain ⟨o1, o2⟩ := ex_okM hMI hr hL
        have hrJ := hrr
        refine v_aload_n dX9_count_141 rfl ?_
        refine v_cV0n dX9_count_142 lk_X9_288 (by assumption) (by decide) rfl (k_exclude hfl hM hW hRG hrr hr hL) (by decide) (Nat.le_of_ble_eq_true rfl) ?_ rfl
        exact v_fgt2 (kk o1 (o2.trans hrJ)) (fgt_c (Or.inr rfl) (fgt_c (Or.inr rfl) (fgt_c (Or.inl rfl) (fgt_c (Or.inl rfl) (fgt_n)))))
      · rw [if_pos (by omega)] at hT
        have hv : 0 ≤ lkV K r (wsF K r (K 509 0).toNat) 1 := by
          by_cases hv : 0 ≤ lkV K r (wsF K r (K 509 0).toNat) 1
          · exact hv
          · rw [if_neg hv] at hT
            cases hT
        rw [if_pos hv] at hT
        obtain ⟨L2, hL, h9⟩ := Option.map_eq_some_iff.mp hT
        obtain ⟨rfl, rfl⟩ : 1 = b ∧ L2 = L := by simpa using h9
        have hlv := lkV_rng (r := r) (s := wsF K r (K 509 0).toNat) (m := 1) hW
        have hws8 := wsF_lt K r (K 509 0).toNat (by omega)
        obtain ⟨q, hq⟩ := Int.eq_ofNat_of_zero_le hv
        rw [hq, Int.toNat_natCast] at hL
        have hq8 : q < 8 := by omega
        have hJ : MI (lkM K r (wsF K r (K 509 0).toNat) 1) := MI_lk hMI hr
        have hrJ : lkM K r (wsF K r (K 509 0).toNat) 1 508 15 = (r : Int) := (lkM_f (by omega) (by omega)).trans hrr
        obtain ⟨o1, o2⟩ := tr_ok hJ hr hq8 hL
        refine v_aload_n dX9_count_125 rfl ?_
        refine v_aload_n dX9_count_126 rfl ?_
        refine v_aload_n dX9_count_127 rfl ?_
        refine v_cV0 dX9_count_128 lk_X9_282 (by assumption) (by decide) rfl (k_withSurplus hfl hM hW hRG hrr hr) (by decide) (Nat.le_of_ble_eq_true rfl) ?_ rfl
        refine v_iconst dX9_count_131 ?_
        refine v_cV2 dX9_count_132 lk_X9_247 (by assumption) (by decide) rfl (k_look hfl hM hW hRG hrr hws8 hr (Or.inr rfl)) (by decide) (Nat.le_of_ble_eq_true rfl) ?_ rfl
        rw [hq]
        refine v_cV1n dX9_count_135 lk_X9_285 (by assumption) (by decide) rfl (k_transfer hfl hM hJ.1 hJ.2 hrJ hq8 hr hL) (by decide) (Nat.le_of_ble_eq_true rfl) ?_ rfl
        refine v_goto (tgt := 145) dX9_count_138 (by decide) ?_
        exact v_fgt2 (kk o1 (o2.trans hrJ)) (fgt_c (Or.inr rfl) (fgt_c (Or.inr rfl) (fgt_c (Or.inl rfl) (fgt_c (Or.inl rfl) (fgt_n)))))
    · rw [if_pos (by omega)] at hT
      obtain ⟨L2, hL, h9⟩ := Option.map_eq_some_iff.mp hT
      obtain ⟨rfl, rfl⟩ : 0 = b ∧ L2 = L := by simpa using h9
      have M113 : MI L2 → L2 508 15 = (r : Int) → V l g mX9_count 5 Z 0 0 113 [some (.ref 508), none, none, some (.int (ii (K 509 6 - K 508 32)))] [] S L2 X := by
        intro m1 m2
        refine v_iconst dX9_count_113 ?_
        refine v_istn1 dX9_count_114 rfl ?_
        refine v_goto (tgt := 145) dX9_count_115 (by decide) ?_
        exact v_fgt2 (kk m1 m2) (fgt_c (Or.inr rfl) (fgt_c (Or.inr rfl) (fgt_c (Or.inl rfl) (fgt_c (Or.inl rfl) (fgt_n)))))
      exact v_fgt2 (k_wa (x1 := none) (x2 := none) hfl hM hr (by omega) M113 9 K hrr hL hMI) (fgt_c (Or.inr rfl) (fgt_c (Or.inl rfl) (fgt_c (Or.inl rfl) (fgt_c (Or.inr rfl) (fgt_n)))))

set_option maxRecDepth 100000 in
set_option maxHeartbeats 4000000 in
theorem k_rdS {l : Launch} {g : GV} {S : SS} {X : XX} {Z : ZZ} {r : Nat} {b : Int} {I L : II} (hfl : l.stackTraces = false) (hM : isMod S) (hr : r < 9) (hrr : I 508 15 = (r : Int)) (hT : rdS I r = some (b, L)) (hMI : MI I) (kk : MI L → L 508 15 = (r : Int) → V l g mX9_count 5 Z 0 0 145 [some (.ref 508), some (.int (ii b)), none, none] [] S L X) : V l g mX9_count 5 Z 0 0 10 [some (.ref 508), some (.int (ii 1)), none, none] [] S I X := by
  obtain ⟨m0, ⟨p509, q509⟩, ⟨p510, q510⟩, ⟨p511, q511⟩, ⟨p512, q512⟩, ⟨p513, q513⟩, ⟨p514, q514⟩, ⟨p515, q515⟩, ⟨p516, q516⟩, ⟨p517, q517⟩, ⟨p518, q518⟩, ⟨p519, q519⟩, ⟨p520, q520⟩, ⟨p521, q521⟩, ⟨p522, q522⟩, ⟨p523, q523⟩, ⟨p524, q524⟩, ⟨p525, q525⟩, ⟨p526, q526⟩, ⟨p527, q527⟩, ⟨p528, q528⟩, ⟨p529, q529⟩, ⟨p530, q530⟩, ⟨p531, q531⟩, ⟨p532, q532⟩, ⟨p533, q533⟩, ⟨p534, q534⟩, ⟨p535, q535⟩, ⟨p536, q536⟩, ⟨p537, q537⟩, ⟨p538, q538⟩, ⟨p539, q539⟩, ⟨p540, q540⟩⟩ := id hM
  have hW := hMI.1
  have hRG := hMI.2
  obtain ⟨w0, w1, w2, w3, w4, w5, w6, w7, w8, w9, w10⟩ := id hW
  unfold rdS at hT
  obtain ⟨K, hQ, hT⟩ := Option.bind_eq_some_iff.mp hT
  have h15 : noM I r 508 15 = (r : Int) := by rw [no_e (by omega) (by omega) (by omega) (by omega)]; exact hrr
  have g1 := (MI_no (r := r) hMI).2 516 r
  refine v_aload_n dX9_count_10 rfl ?_
  refine v_cV0n dX9_count_11 lk_X9_272 (by assumption) (by decide) rfl (k_note hfl hM hW hrr hr) (by decide) (Nat.le_of_ble_eq_true rfl) ?_ rfl
  refine v_aload_n dX9_count_14 rfl ?_
  refine v_getr dX9_count_15 fr_X9_35 (by assumption) (by decide) rfl (by assumption) ?_
  refine v_aload_n dX9_count_18 rfl ?_
  refine v_geti dX9_count_19 fr_X9_212 (by assumption) (by decide) rfl ?_
  rw [h15]
  refine v_iald (j := r) dX9_count_22 (by assumption) rfl (by omega) ?_
  refine v_istn2 dX9_count_23 rfl ?_
  exact k_wq hfl hM hr g1 (fun m1 m2 => v_fgt2 (k_rdT hfl hM hr m2 hT m1 kk) (fgt_c (Or.inr rfl) (fgt_c (Or.inr rfl) (fgt_c (Or.inl rfl) (fgt_c (Or.inr rfl) (fgt_n)))))) 9 _ h15 hQ (MI_no hMI)

theorem rd_01 {I L : II} {r : Nat} {b : Int} (h : rdS I r = some (b, L)) (hb : ¬ b = 0) : b = 1 := by
  unfold rdS at h
  obtain ⟨K, hQ, h⟩ := Option.bind_eq_some_iff.mp h
  unfold rdT at h
  have fin : ∀ (o : Option II) (z : Int), o.map (fun L => (z, L)) = some (b, L) → z = b := fun o z h => by
    obtain ⟨L2, hL, h9⟩ := Option.map_eq_some_iff.mp h
    have h8 : z = b ∧ L2 = L := by simpa using h9
    exact h8.1
  split at h
  · split at h
    · exact (hb (fin _ _ h).symm).elim
    · split at h
      · split at h
        · exact (fin _ _ h).symm
        · cases h
      · exact (fin _ _ h).symm
  · cases h
theorem MI_pr {I : II} (h : MI I) : MI (prM I) := by
  have w1 := h.1.2.1
  exact ⟨WfM_of h.1 (pp_s _), rg_pp h.2 h.1 _ (by omega)⟩
theorem pq_15 {I : II} : ∀ k, foldUp (pqS I) (prI I) k 508 15 = 0
  | 0 => by
    show prI I 508 15 = 0
    unfold prI
    rw [up_nk (by omega), up_nk (by omega), up_nk (by omega), up_eq]
  | k + 1 => by
    show pqS I k _ 508 15 = 0
    unfold pqS
    rw [up_ne (by omega), up_ne (by omega), up_ne (by omega), up_ne (by omega), up_ne (by omega), up_ne (by omega), up_ne (by omega)]
    exact pq_15 k
theorem pr_15 {I : II} : ∀ p, foldUp ppS (prA I) p 508 15 = 0
  | 0 => by
    rw [fold_0]
    exact pq_15 8
  | p + 1 => by
    show ppS p _ 508 15 = 0
    unfold ppS
    rw [go_f (by omega), up_ne (by omega)]
    exact pr_15 p

set_option maxRecDepth 100000 in
set_option maxHeartbeats 4000000 in
theorem k_cnL {l : Launch} {g : GV} {S : SS} {X : XX} {K : II} (hfl : l.stackTraces = false) (hM : isMod S) : ∀ (k r : Nat) (I : II), r + k ≤ 9 → I 508 15 = (r : Int) → cnL k r I = some K → MI I → V l g mX9_count 5 (Zm g (QE none S K X)) 0 0 6 [some (.ref 508), some (.int (ii 1)), none, none] [] S I X := by
  obtain ⟨m0, ⟨p509, q509⟩, ⟨p510, q510⟩, ⟨p511, q511⟩, ⟨p512, q512⟩, ⟨p513, q513⟩, ⟨p514, q514⟩, ⟨p515, q515⟩, ⟨p516, q516⟩, ⟨p517, q517⟩, ⟨p518, q518⟩, ⟨p519, q519⟩, ⟨p520, q520⟩, ⟨p521, q521⟩, ⟨p522, q522⟩, ⟨p523, q523⟩, ⟨p524, q524⟩, ⟨p525, q525⟩, ⟨p526, q526⟩, ⟨p527, q527⟩, ⟨p528, q528⟩, ⟨p529, q529⟩, ⟨p530, q530⟩, ⟨p531, q531⟩, ⟨p532, q532⟩, ⟨p533, q533⟩, ⟨p534, q534⟩, ⟨p535, q535⟩, ⟨p536, q536⟩, ⟨p537, q537⟩, ⟨p538, q538⟩, ⟨p539, q539⟩, ⟨p540, q540⟩⟩ := id hM
  intro k
  induction k with
  | zero => intro r I hk hrr hT hMI; cases hT
  | succ k ih =>
    intro r I hk hrr hT hMI
    unfold cnL at hT
    obtain ⟨⟨b, L⟩, hR, hT⟩ := Option.bind_eq_some_iff.mp hT
    replace hT : (if b = 0 then some (up L 508 15 ((r : Int) + 1)) else cnL k (r + 1) (up L 508 15 ((r : Int) + 1))) = some K := hT
    refine v_iload_n dX9_count_6 rfl ?_
    refine v_if_eq (tgt := 158) dX9_count_7 (by decide) (fun h7 => ?_) (fun h7 => ?_)
    · exfalso; omega
    · refine k_rdS hfl hM (by omega) hrr hR hMI (fun o1 o2 => ?_)
      refine v_aload_n dX9_count_145 rfl ?_
      refine v_dup dX9_count_146 rfl ?_
      refine v_geti dX9_count_147 fr_X9_212 (by assumption) (by decide) rfl ?_
      rw [o2]
      refine v_iconst dX9_count_150 ?_
      refine v_iadd dX9_count_151 ?_
      refine v_puti dX9_count_152 fr_X9_212 (by assumption) (by decide) rfl ?_
      refine v_goto (tgt := 6) dX9_count_155 (by decide) ?_
      by_cases hb : b = 0
      · subst hb
        rw [if_pos rfl] at hT
        obtain rfl : up L 508 15 ((r : Int) + 1) = K := by simpa using hT
        refine v_iload_n dX9_count_6 rfl ?_
        refine v_if_eq (tgt := 158) dX9_count_7 (by decide) (fun h8 => ?_) (fun h8 => ?_)
        · exact v_vE dX9_count_158 rfl rfl
        · exfalso; omega
      · rw [if_neg hb] at hT
        obtain rfl : b = 1 := rd_01 hR hb
        exact ih (r + 1) _ (by omega) up_eq hT (MI_up o1 (by omega) (by omega))

set_option maxRecDepth 100000 in
set_option maxHeartbeats 4000000 in
theorem k_count {l : Launch} {g : GV} {S : SS} {I : II} {X : XX} {K : II} (hfl : l.stackTraces = false) (hM : isMod S) (hMI : MI I) (hK : cnO I = some K) : CE l g mX9_count 5 [.ref 508] S I X none K := by
  obtain ⟨m0, ⟨p509, q509⟩, ⟨p510, q510⟩, ⟨p511, q511⟩, ⟨p512, q512⟩, ⟨p513, q513⟩, ⟨p514, q514⟩, ⟨p515, q515⟩, ⟨p516, q516⟩, ⟨p517, q517⟩, ⟨p518, q518⟩, ⟨p519, q519⟩, ⟨p520, q520⟩, ⟨p521, q521⟩, ⟨p522, q522⟩, ⟨p523, q523⟩, ⟨p524, q524⟩, ⟨p525, q525⟩, ⟨p526, q526⟩, ⟨p527, q527⟩, ⟨p528, q528⟩, ⟨p529, q529⟩, ⟨p530, q530⟩, ⟨p531, q531⟩, ⟨p532, q532⟩, ⟨p533, q533⟩, ⟨p534, q534⟩, ⟨p535, q535⟩, ⟨p536, q536⟩, ⟨p537, q537⟩, ⟨p538, q538⟩, ⟨p539, q539⟩, ⟨p540, q540⟩⟩ := id hM
  refine v_startE hfl rfl (by decide) (Nat.le_of_ble_eq_true rfl) (ls := [some (.ref 508), none, none, none]) rfl ?_
  refine v_aload_n dX9_count_0 rfl ?_
  refine v_cV0n dX9_count_1 lk_X9_269 (by assumption) (by decide) rfl (k_prepare hfl hM hMI.1 hMI.2) (by decide) (Nat.le_of_ble_eq_true rfl) ?_ rfl
  refine v_iconst dX9_count_4 ?_
  refine v_istn1 dX9_count_5 rfl ?_
  exact k_cnL hfl hM 9 0 _ (by omega) (pr_15 _) hK (MI_pr hMI)

/-- the count, where it is wanted -/
def knO (I : II) : Option II := if I 508 14 = 0 then (cnO I).map (fun K => up K 508 14 1) else some I

set_option maxRecDepth 100000 in
set_option maxHeartbeats 4000000 in
theorem k_know {l : Launch} {g : GV} {S : SS} {I : II} {X : XX} {K : II} (hfl : l.stackTraces = false) (hM : isMod S) (hMI : MI I) (hK : knO I = some K) : CE l g mX9_know 6 [.ref 508] S I X none K := by
  obtain ⟨m0, ⟨p509, q509⟩, ⟨p510, q510⟩, ⟨p511, q511⟩, ⟨p512, q512⟩, ⟨p513, q513⟩, ⟨p514, q514⟩, ⟨p515, q515⟩, ⟨p516, q516⟩, ⟨p517, q517⟩, ⟨p518, q518⟩, ⟨p519, q519⟩, ⟨p520, q520⟩, ⟨p521, q521⟩, ⟨p522, q522⟩, ⟨p523, q523⟩, ⟨p524, q524⟩, ⟨p525, q525⟩, ⟨p526, q526⟩, ⟨p527, q527⟩, ⟨p528, q528⟩, ⟨p529, q529⟩, ⟨p530, q530⟩, ⟨p531, q531⟩, ⟨p532, q532⟩, ⟨p533, q533⟩, ⟨p534, q534⟩, ⟨p535, q535⟩, ⟨p536, q536⟩, ⟨p537, q537⟩, ⟨p538, q538⟩, ⟨p539, q539⟩, ⟨p540, q540⟩⟩ := id hM
  unfold knO at hK
  have g14 := hMI.2 508 14
  refine v_startE hfl rfl (by decide) (Nat.le_of_ble_eq_true rfl) (ls := [some (.ref 508)]) rfl ?_
  refine v_aload_n dX9_know_0 rfl ?_
  refine v_geti dX9_know_1 fr_X9_133 (by assumption) (by decide) rfl ?_
  refine v_if_ne (tgt := 16) dX9_know_4 (by decide) (fun h4 => ?_) (fun h4 => ?_)
  · first
      | exact v_vE dX9_know_16 rfl rfl
      | (rw [if_neg (by omega)] at hK; exact v_vE dX9_know_16 rfl (by simpa using hK))
  · rw [if_pos (by omega)] at hK
    obtain ⟨K1, hC, rfl⟩ := Option.map_eq_some_iff.mp hK
    refine v_aload_n dX9_know_7 rfl ?_
    refine v_cV0n dX9_know_8 lk_X9_291 (by assumption) (by decide) rfl (k_count hfl hM hMI hC) (by decide) (Nat.le_of_ble_eq_true rfl) ?_ rfl
    refine v_aload_n dX9_know_11 rfl ?_
    refine v_iconst dX9_know_12 ?_
    refine v_putz dX9_know_13 fr_X9_133 (by assumption) (by decide) rfl (by first | exact Or.inl rfl | exact Or.inr rfl | omega) ?_
    first
      | exact v_vE dX9_know_16 rfl rfl
      | (rw [if_neg (by omega)] at hK; exact v_vE dX9_know_16 rfl (by simpa using hK))
