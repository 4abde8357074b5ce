/-! THE MODEL: notes, seats, beginnings -/
set_option maxRecDepth 100000 in
set_option maxHeartbeats 4000000 in
theorem k_happened {l : Launch} {g : GV} {S : SS} {I : II} {X : XX} {r : Nat} {a b m : Int} (hfl : l.stackTraces = false) (hM : isMod S) (hrr : I 508 15 = (r : Int)) (hr : r < 9) : CE l g mX9_happened 0 [.ref 508, .int (ii a), .int (ii b), .int (ii m)] S I X none (hnM I r a b m) := by
  obtain ⟨m0, ⟨p509, q509⟩, ⟨p510, q510⟩, ⟨p511, q511⟩, ⟨p512, q512⟩, ⟨p513, q513⟩, ⟨p514, q514⟩, ⟨p515, q515⟩, ⟨p516, q516⟩, ⟨p517, q517⟩, ⟨p518, q518⟩, ⟨p519, q519⟩, ⟨p520, q520⟩, ⟨p521, q521⟩, ⟨p522, q522⟩, ⟨p523, q523⟩, ⟨p524, q524⟩, ⟨p525, q525⟩, ⟨p526, q526⟩, ⟨p527, q527⟩, ⟨p528, q528⟩, ⟨p529, q529⟩, ⟨p530, q530⟩, ⟨p531, q531⟩, ⟨p532, q532⟩, ⟨p533, q533⟩, ⟨p534, q534⟩, ⟨p535, q535⟩, ⟨p536, q536⟩, ⟨p537, q537⟩, ⟨p538, q538⟩, ⟨p539, q539⟩, ⟨p540, q540⟩⟩ := id hM
  refine v_startE hfl rfl (by decide) (Nat.le_of_ble_eq_true rfl) (ls := [some (.ref 508), some (.int (ii a)), some (.int (ii b)), some (.int (ii m))]) rfl ?_
  refine v_aload_n dX9_happened_0 rfl ?_
  refine v_getr dX9_happened_1 fr_X9_44 (by assumption) (by decide) rfl (by assumption) ?_
  refine v_aload_n dX9_happened_4 rfl ?_
  refine v_geti dX9_happened_5 fr_X9_212 (by assumption) (by decide) rfl ?_
  rw [hrr]
  refine v_iload_n dX9_happened_8 rfl ?_
  refine v_iast (j := r) dX9_happened_9 (by assumption) (by first | rfl | omega) (by omega) ?_
  refine v_aload_n dX9_happened_10 rfl ?_
  refine v_getr dX9_happened_11 fr_X9_47 (by assumption) (by decide) rfl (by assumption) ?_
  refine v_aload_n dX9_happened_14 rfl ?_
  refine v_geti dX9_happened_15 fr_X9_212 (by assumption) (by decide) rfl ?_
  rw [up_ne (by omega), hrr]
  refine v_iload_n dX9_happened_18 rfl ?_
  refine v_iast (j := r) dX9_happened_19 (by assumption) (by first | rfl | omega) (by omega) ?_
  refine v_aload_n dX9_happened_20 rfl ?_
  refine v_getr dX9_happened_21 fr_X9_50 (by assumption) (by decide) rfl (by assumption) ?_
  refine v_aload_n dX9_happened_24 rfl ?_
  refine v_geti dX9_happened_25 fr_X9_212 (by assumption) (by decide) rfl ?_
  rw [up_ne (by omega), up_ne (by omega), hrr]
  refine v_iload_n dX9_happened_28 rfl ?_
  refine v_wr ?_
  refine v_iast (j := r) dX9_happened_29 (by assumption) (by first | rfl | omega) (by omega) ?_
  exact v_vE dX9_happened_30 rfl (rfl)

set_option maxRecDepth 100000 in
set_option maxHeartbeats 4000000 in
theorem k_quota {l : Launch} {g : GV} {S : SS} {I : II} {X : XX} (hfl : l.stackTraces = false) (hM : isMod S) (hW : WfM I) : CE l g mX9_quota 3 [.ref 508] S I X (some (.int (ii (qmF I)))) I := by
  obtain ⟨m0, ⟨p509, q509⟩, ⟨p510, q510⟩, ⟨p511, q511⟩, ⟨p512, q512⟩, ⟨p513, q513⟩, ⟨p514, q514⟩, ⟨p515, q515⟩, ⟨p516, q516⟩, ⟨p517, q517⟩, ⟨p518, q518⟩, ⟨p519, q519⟩, ⟨p520, q520⟩, ⟨p521, q521⟩, ⟨p522, q522⟩, ⟨p523, q523⟩, ⟨p524, q524⟩, ⟨p525, q525⟩, ⟨p526, q526⟩, ⟨p527, q527⟩, ⟨p528, q528⟩, ⟨p529, q529⟩, ⟨p530, q530⟩, ⟨p531, q531⟩, ⟨p532, q532⟩, ⟨p533, q533⟩, ⟨p534, q534⟩, ⟨p535, q535⟩, ⟨p536, q536⟩, ⟨p537, q537⟩, ⟨p538, q538⟩, ⟨p539, q539⟩, ⟨p540, q540⟩⟩ := id hM
  obtain ⟨w0, w1, w2, w3, w4, w5, w6, w7, w8, w9, w10⟩ := id hW
  refine v_startE hfl rfl (by decide) (Nat.le_of_ble_eq_true rfl) (ls := [some (.ref 508), none, none]) rfl ?_
  refine v_aload_n dX9_quota_0 rfl ?_
  refine v_cV0 dX9_quota_1 lk_X9_225 (by assumption) (by decide) rfl (k_papers hfl hM hW) (by decide) (Nat.le_of_ble_eq_true rfl) ?_ rfl
  refine v_istn1 dX9_quota_4 rfl ?_
  refine v_aload_n dX9_quota_5 rfl ?_
  refine v_getr dX9_quota_6 fr_X9_9 (by assumption) (by decide) rfl (by assumption) ?_
  refine v_bipush dX9_quota_9 (by decide) ?_
  refine v_iald (j := 6) dX9_quota_11 (by assumption) (by first | rfl | omega) (by omega) ?_
  refine v_istn2 dX9_quota_12 rfl ?_
  refine v_aload_n dX9_quota_13 rfl ?_
  refine v_getr dX9_quota_14 fr_X9_9 (by assumption) (by decide) rfl (by assumption) ?_
  refine v_iconst dX9_quota_17 ?_
  refine v_iald (j := 3) dX9_quota_18 (by assumption) (by first | rfl | omega) (by omega) ?_
  have hz4 : I 509 3 = 0 ∨ I 509 3 = 1 ∨ I 509 3 = 2 ∨ I 509 3 = 3 := by omega
  rcases hz4 with hz | hz | hz | hz
  · rw [hz]
    refine v_tabIn (off := 25) (tgt := 44) dX9_quota_19 (by omega) (by omega) rfl (by decide) ?_
    refine v_iload_n dX9_quota_44 rfl ?_
    refine v_iload_n dX9_quota_45 rfl ?_
    refine v_iconst dX9_quota_46 ?_
    refine v_iadd dX9_quota_47 ?_
    refine v_idiv dX9_quota_48 (ii_ne0 (by omega) (by omega)) (dvI_ii _ _) ?_
    refine v_iconst dX9_quota_49 ?_
    refine v_iadd dX9_quota_50 ?_
    refine v_sipush dX9_quota_51 (by decide) ?_
    refine v_imul dX9_quota_54 ?_
    exact v_iE dX9_quota_55 rfl (by unfold qmF; simp [hz]) (rfl)
  · rw [hz]
    refine v_tabIn (off := 37) (tgt := 56) dX9_quota_19 (by omega) (by omega) rfl (by decide) ?_
    refine v_iload_n dX9_quota_56 rfl ?_
    refine v_iload_n dX9_quota_57 rfl ?_
    refine v_iadd dX9_quota_58 ?_
    refine v_iconst dX9_quota_59 ?_
    refine v_isub dX9_quota_60 ?_
    refine v_iload_n dX9_quota_61 rfl ?_
    refine v_idiv dX9_quota_62 (ii_ne0 (by omega) (by omega)) (dvI_ii _ _) ?_
    refine v_sipush dX9_quota_63 (by decide) ?_
    refine v_imul dX9_quota_66 ?_
    exact v_iE dX9_quota_67 rfl (by unfold qmF; simp [hz]) (rfl)
  · rw [hz]
    refine v_tabIn (off := 49) (tgt := 68) dX9_quota_19 (by omega) (by omega) rfl (by decide) ?_
    refine v_iload_n dX9_quota_68 rfl ?_
    refine v_sipush dX9_quota_69 (by decide) ?_
    refine v_imul dX9_quota_72 ?_
    refine v_iload_n dX9_quota_73 rfl ?_
    refine v_iconst dX9_quota_74 ?_
    refine v_iadd dX9_quota_75 ?_
    refine v_idiv dX9_quota_76 (ii_ne0 (by omega) (by omega)) (dvI_ii _ _) ?_
    refine v_iconst dX9_quota_77 ?_
    refine v_iadd dX9_quota_78 ?_
    exact v_iE dX9_quota_79 rfl (by unfold qmF; simp [hz]) (rfl)
  · rw [hz]
    refine v_tabOut (tgt := 80) dX9_quota_19 (Or.inr (by omega)) (by decide) ?_
    refine v_iload_n dX9_quota_80 rfl ?_
    refine v_sipush dX9_quota_81 (by decide) ?_
    refine v_imul dX9_quota_84 ?_
    refine v_aload_n dX9_quota_85 rfl ?_
    refine v_geti dX9_quota_86 fr_X9_209 (by assumption) (by decide) rfl ?_
    refine v_isub dX9_quota_89 ?_
    refine v_aload_n dX9_quota_90 rfl ?_
    refine v_geti dX9_quota_91 fr_X9_218 (by assumption) (by decide) rfl ?_
    refine v_isub dX9_quota_94 ?_
    refine v_iload_n dX9_quota_95 rfl ?_
    refine v_iconst dX9_quota_96 ?_
    refine v_iadd dX9_quota_97 ?_
    refine v_idiv dX9_quota_98 (ii_ne0 (by omega) (by omega)) (dvI_ii _ _) ?_
    refine v_iconst dX9_quota_99 ?_
    refine v_iadd dX9_quota_100 ?_
    exact v_iE dX9_quota_101 rfl (by unfold qmF; simp [hz]) (rfl)

set_option maxRecDepth 100000 in
set_option maxHeartbeats 4000000 in
theorem k_note {l : Launch} {g : GV} {S : SS} {I : II} {X : XX} {r : Nat} (hfl : l.stackTraces = false) (hM : isMod S) (hW : WfM I) (hrr : I 508 15 = (r : Int)) (hr : r < 9) : CE l g mX9_note 4 [.ref 508] S I X none (noM I r) := by
  obtain ⟨m0, ⟨p509, q509⟩, ⟨p510, q510⟩, ⟨p511, q511⟩, ⟨p512, q512⟩, ⟨p513, q513⟩, ⟨p514, q514⟩, ⟨p515, q515⟩, ⟨p516, q516⟩, ⟨p517, q517⟩, ⟨p518, q518⟩, ⟨p519, q519⟩, ⟨p520, q520⟩, ⟨p521, q521⟩, ⟨p522, q522⟩, ⟨p523, q523⟩, ⟨p524, q524⟩, ⟨p525, q525⟩, ⟨p526, q526⟩, ⟨p527, q527⟩, ⟨p528, q528⟩, ⟨p529, q529⟩, ⟨p530, q530⟩, ⟨p531, q531⟩, ⟨p532, q532⟩, ⟨p533, q533⟩, ⟨p534, q534⟩, ⟨p535, q535⟩, ⟨p536, q536⟩, ⟨p537, q537⟩, ⟨p538, q538⟩, ⟨p539, q539⟩, ⟨p540, q540⟩⟩ := id hM
  refine v_startE hfl rfl (by decide) (Nat.le_of_ble_eq_true rfl) (ls := [some (.ref 508)]) rfl ?_
  refine v_aload_n dX9_note_0 rfl ?_
  refine v_getr dX9_note_1 fr_X9_35 (by assumption) (by decide) rfl (by assumption) ?_
  refine v_aload_n dX9_note_4 rfl ?_
  refine v_geti dX9_note_5 fr_X9_212 (by assumption) (by decide) rfl ?_
  rw [hrr]
  refine v_aload_n dX9_note_8 rfl ?_
  refine v_cV0 dX9_note_9 lk_X9_228 (by assumption) (by decide) rfl (k_quota hfl hM hW) (by decide) (Nat.le_of_ble_eq_true rfl) ?_ rfl
  refine v_wr ?_
  refine v_iast (j := r) dX9_note_12 (by assumption) (by first | rfl | omega) (by omega) ?_
  refine v_aload_n dX9_note_13 rfl ?_
  refine v_getr dX9_note_14 fr_X9_38 (by assumption) (by decide) rfl (by assumption) ?_
  refine v_aload_n dX9_note_17 rfl ?_
  refine v_geti dX9_note_18 fr_X9_212 (by assumption) (by decide) rfl ?_
  rw [up_ne (by omega), hrr]
  refine v_aload_n dX9_note_21 rfl ?_
  refine v_geti dX9_note_22 fr_X9_209 (by assumption) (by decide) rfl ?_
  rw [up_ne (by omega)]
  refine v_iast (j := r) dX9_note_25 (by assumption) (by first | rfl | omega) (by omega) ?_
  refine v_aload_n dX9_note_26 rfl ?_
  refine v_getr dX9_note_27 fr_X9_41 (by assumption) (by decide) rfl (by assumption) ?_
  refine v_aload_n dX9_note_30 rfl ?_
  refine v_geti dX9_note_31 fr_X9_212 (by assumption) (by decide) rfl ?_
  rw [up_ne (by omega), up_ne (by omega), hrr]
  refine v_aload_n dX9_note_34 rfl ?_
  refine v_geti dX9_note_35 fr_X9_218 (by assumption) (by decide) rfl ?_
  rw [up_ne (by omega), up_ne (by omega)]
  refine v_iast (j := r) dX9_note_38 (by assumption) (by first | rfl | omega) (by omega) ?_
  refine v_aload_n dX9_note_39 rfl ?_
  refine v_getr dX9_note_40 fr_X9_44 (by assumption) (by decide) rfl (by assumption) ?_
  refine v_aload_n dX9_note_43 rfl ?_
  refine v_geti dX9_note_44 fr_X9_212 (by assumption) (by decide) rfl ?_
  rw [up_ne (by omega), up_ne (by omega), up_ne (by omega), hrr]
  refine v_iconst dX9_note_47 ?_
  refine v_iast (j := r) dX9_note_48 (by assumption) (by first | rfl | omega) (by omega) ?_
  refine v_aload_n dX9_note_49 rfl ?_
  refine v_getr dX9_note_50 fr_X9_47 (by assumption) (by decide) rfl (by assumption) ?_
  refine v_aload_n dX9_note_53 rfl ?_
  refine v_geti dX9_note_54 fr_X9_212 (by assumption) (by decide) rfl ?_
  rw [up_ne (by omega), up_ne (by omega), up_ne (by omega), up_ne (by omega), hrr]
  refine v_iconst dX9_note_57 ?_
  refine v_iast (j := r) dX9_note_58 (by assumption) (by first | rfl | omega) (by omega) ?_
  refine v_aload_n dX9_note_59 rfl ?_
  refine v_getr dX9_note_60 fr_X9_50 (by assumption) (by decide) rfl (by assumption) ?_
  refine v_aload_n dX9_note_63 rfl ?_
  refine v_geti dX9_note_64 fr_X9_212 (by assumption) (by decide) rfl ?_
  rw [up_ne (by omega), up_ne (by omega), up_ne (by omega), up_ne (by omega), up_ne (by omega), hrr]
  refine v_iconst dX9_note_67 ?_
  refine v_iast (j := r) dX9_note_68 (by assumption) (by first | rfl | omega) (by omega) ?_
  refine v_aload_n dX9_note_69 rfl ?_
  refine v_getr dX9_note_70 fr_X9_53 (by assumption) (by decide) rfl (by assumption) ?_
  refine v_aload_n dX9_note_73 rfl ?_
  refine v_geti dX9_note_74 fr_X9_212 (by assumption) (by decide) rfl ?_
  rw [up_ne (by omega), up_ne (by omega), up_ne (by omega), up_ne (by omega), up_ne (by omega), up_ne (by omega), hrr]
  refine v_iconst dX9_note_77 ?_
  refine v_iast (j := r) dX9_note_78 (by assumption) (by first | rfl | omega) (by omega) ?_
  refine v_aload_n dX9_note_79 rfl ?_
  refine v_getr dX9_note_80 fr_X9_80 (by assumption) (by decide) rfl (by assumption) ?_
  refine v_iconst dX9_note_83 ?_
  refine v_aload_n dX9_note_84 rfl ?_
  refine v_getr dX9_note_85 fr_X9_32 (by assumption) (by decide) rfl (by assumption) ?_
  refine v_bipush dX9_note_88 (by decide) ?_
  refine v_aload_n dX9_note_90 rfl ?_
  rw [show up (up (up (up (up (up (up I 516 r (wr (qmF I))) 517 r (I 508 39)) 518 r (I 508 40)) 519 r 0) 520 r (-1)) 521 r 0) 522 r 0 = noI I r from rfl]
  refine v_geti dX9_note_91 fr_X9_212 (by assumption) (by decide) rfl ?_
  rw [show noI I r 508 15 = (r : Int) by unfold noI; rw [up_ne (by omega), up_ne (by omega), up_ne (by omega), up_ne (by omega), up_ne (by omega), up_ne (by omega), up_ne (by omega)]; exact hrr]
  refine v_imul dX9_note_94 ?_
  refine v_bipush dX9_note_95 (by decide) ?_
  refine v_copy (sp := 0) (dq := 8 * r) (n := 8) dX9_note_97 cy_X9_136 (by assumption) (by assumption) (by first | rfl | omega) (by first | rfl | omega) (by first | rfl | omega) (by omega) (by omega) (by decide) (Nat.le_of_ble_eq_true rfl) ?_
  refine v_aload_n dX9_note_100 rfl ?_
  refine v_getr dX9_note_101 fr_X9_87 (by assumption) (by decide) rfl (by assumption) ?_
  refine v_iconst dX9_note_104 ?_
  refine v_aload_n dX9_note_105 rfl ?_
  refine v_getr dX9_note_106 fr_X9_56 (by assumption) (by decide) rfl (by assumption) ?_
  refine v_bipush dX9_note_109 (by decide) ?_
  refine v_aload_n dX9_note_111 rfl ?_
  refine v_geti dX9_note_112 fr_X9_212 (by assumption) (by decide) rfl ?_
  rw [cpy_ne (by omega)]
  rw [show noI I r 508 15 = (r : Int) by unfold noI; rw [up_ne (by omega), up_ne (by omega), up_ne (by omega), up_ne (by omega), up_ne (by omega), up_ne (by omega), up_ne (by omega)]; exact hrr]
  refine v_imul dX9_note_115 ?_
  refine v_bipush dX9_note_116 (by decide) ?_
  refine v_copy (sp := 0) (dq := 25 * r) (n := 25) dX9_note_118 cy_X9_136 (by assumption) (by assumption) (by first | rfl | omega) (by first | rfl | omega) (by first | rfl | omega) (by omega) (by omega) (by decide) (Nat.le_of_ble_eq_true rfl) ?_
  refine v_aload_n dX9_note_121 rfl ?_
  refine v_getr dX9_note_122 fr_X9_93 (by assumption) (by decide) rfl (by assumption) ?_
  refine v_iconst dX9_note_125 ?_
  refine v_aload_n dX9_note_126 rfl ?_
  refine v_getr dX9_note_127 fr_X9_59 (by assumption) (by decide) rfl (by assumption) ?_
  refine v_bipush dX9_note_130 (by decide) ?_
  refine v_aload_n dX9_note_132 rfl ?_
  refine v_geti dX9_note_133 fr_X9_212 (by assumption) (by decide) rfl ?_
  rw [cpy_ne (by omega), cpy_ne (by omega)]
  rw [show noI I r 508 15 = (r : Int) by unfold noI; rw [up_ne (by omega), up_ne (by omega), up_ne (by omega), up_ne (by omega), up_ne (by omega), up_ne (by omega), up_ne (by omega)]; exact hrr]
  refine v_imul dX9_note_136 ?_
  refine v_bipush dX9_note_137 (by decide) ?_
  refine v_copy (sp := 0) (dq := 25 * r) (n := 25) dX9_note_139 cy_X9_136 (by assumption) (by assumption) (by first | rfl | omega) (by first | rfl | omega) (by first | rfl | omega) (by omega) (by omega) (by decide) (Nat.le_of_ble_eq_true rfl) ?_
  exact v_vE dX9_note_142 rfl (rfl)

set_option maxRecDepth 100000 in
set_option maxHeartbeats 4000000 in
theorem k_elect {l : Launch} {g : GV} {S : SS} {I : II} {X : XX} {r s q w u : Nat} {rs : Int} (hfl : l.stackTraces = false) (hM : isMod S) (hW : WfM I) (hRG : RG I) (hrr : I 508 15 = (r : Int)) (hs : s < 256) (hr : r < 9) (hq : lkV I r s 1 = (q : Int)) (hw : I 508 32 = (w : Int)) (hw8 : w < 8) (hu : I 522 r = (u : Int)) (hu8 : u < 256) : CE l g mX9_elect 3 [.ref 508, .int (ii (s : Int)), .int (ii rs)] S I X none (emM I r s rs q) := by
  obtain ⟨m0, ⟨p509, q509⟩, ⟨p510, q510⟩, ⟨p511, q511⟩, ⟨p512, q512⟩, ⟨p513, q513⟩, ⟨p514, q514⟩, ⟨p515, q515⟩, ⟨p516, q516⟩, ⟨p517, q517⟩, ⟨p518, q518⟩, ⟨p519, q519⟩, ⟨p520, q520⟩, ⟨p521, q521⟩, ⟨p522, q522⟩, ⟨p523, q523⟩, ⟨p524, q524⟩, ⟨p525, q525⟩, ⟨p526, q526⟩, ⟨p527, q527⟩, ⟨p528, q528⟩, ⟨p529, q529⟩, ⟨p530, q530⟩, ⟨p531, q531⟩, ⟨p532, q532⟩, ⟨p533, q533⟩, ⟨p534, q534⟩, ⟨p535, q535⟩, ⟨p536, q536⟩, ⟨p537, q537⟩, ⟨p538, q538⟩, ⟨p539, q539⟩, ⟨p540, q540⟩⟩ := id hM
  obtain ⟨w0, w1, w2, w3, w4, w5, w6, w7, w8, w9, w10⟩ := id hW
  have hq8 : q < 8 := by
    have := lkF_rng (f := fun k => I 509 (7 + k)) (s := (lkQ I r s 1 r).1) (m := 1) (fun k hk => w6 k hk) (I 509 0).toNat (by omega)
    have e : lkV I r s 1 = lkF (fun k => I 509 (7 + k)) (lkQ I r s 1 r).1 1 (I 509 0).toNat := rfl
    omega
  refine v_startE hfl rfl (by decide) (Nat.le_of_ble_eq_true rfl) (ls := [some (.ref 508), some (.int (ii (s : Int))), some (.int (ii rs)), none]) rfl ?_
  refine v_aload_n dX9_elect_0 rfl ?_
  refine v_iload_n dX9_elect_1 rfl ?_
  refine v_iconst dX9_elect_2 ?_
  refine v_cV2 dX9_elect_3 lk_X9_247 (by assumption) (by decide) rfl (k_look hfl hM hW hRG hrr hs hr (Or.inr rfl)) (by decide) (Nat.le_of_ble_eq_true rfl) ?_ rfl
  rw [hq]
  refine v_istn3 dX9_elect_6 rfl ?_
  refine v_aload_n dX9_elect_7 rfl ?_
  refine v_getr dX9_elect_8 fr_X9_62 (by assumption) (by decide) rfl (by assumption) ?_
  refine v_iload_n dX9_elect_11 rfl ?_
  refine v_iconst dX9_elect_12 ?_
  refine v_iast (j := q) dX9_elect_13 (by assumption) (by first | rfl | omega) (by omega) ?_
  refine v_aload_n dX9_elect_14 rfl ?_
  refine v_getr dX9_elect_15 fr_X9_65 (by assumption) (by decide) rfl (by assumption) ?_
  refine v_iload_n dX9_elect_18 rfl ?_
  refine v_aload_n dX9_elect_19 rfl ?_
  refine v_geti dX9_elect_20 fr_X9_212 (by assumption) (by decide) rfl ?_
  rw [up_ne (by omega), lkM_f (by omega) (by omega), hrr]
  refine v_iast (j := q) dX9_elect_23 (by assumption) (by first | rfl | omega) (by omega) ?_
  refine v_aload_n dX9_elect_24 rfl ?_
  refine v_getr dX9_elect_25 fr_X9_68 (by assumption) (by decide) rfl (by assumption) ?_
  refine v_iload_n dX9_elect_28 rfl ?_
  refine v_aload_n dX9_elect_29 rfl ?_
  refine v_geti dX9_elect_30 fr_X9_215 (by assumption) (by decide) rfl ?_
  rw [up_ne (by omega), up_ne (by omega), lkM_f (by omega) (by omega), hw]
  refine v_iast (j := q) dX9_elect_33 (by assumption) (by first | rfl | omega) (by omega) ?_
  refine v_aload_n dX9_elect_34 rfl ?_
  refine v_getr dX9_elect_35 fr_X9_71 (by assumption) (by decide) rfl (by assumption) ?_
  refine v_iload_n dX9_elect_38 rfl ?_
  refine v_iload_n dX9_elect_39 rfl ?_
  refine v_iast (j := q) dX9_elect_40 (by assumption) (by first | rfl | omega) (by omega) ?_
  refine v_aload_n dX9_elect_41 rfl ?_
  refine v_getr dX9_elect_42 fr_X9_77 (by assumption) (by decide) rfl (by assumption) ?_
  refine v_aload_n dX9_elect_45 rfl ?_
  refine v_geti dX9_elect_46 fr_X9_215 (by assumption) (by decide) rfl ?_
  rw [up_ne (by omega), up_ne (by omega), up_ne (by omega), up_ne (by omega), lkM_f (by omega) (by omega), hw]
  refine v_iload_n dX9_elect_49 rfl ?_
  refine v_iast (j := w) dX9_elect_50 (by assumption) rfl (by omega) ?_
  refine v_aload_n dX9_elect_51 rfl ?_
  refine v_dup dX9_elect_52 rfl ?_
  refine v_geti dX9_elect_53 fr_X9_215 (by assumption) (by decide) rfl ?_
  rw [up_ne (by omega), up_ne (by omega), up_ne (by omega), up_ne (by omega), up_ne (by omega), lkM_f (by omega) (by omega), hw]
  refine v_iconst dX9_elect_56 ?_
  refine v_iadd dX9_elect_57 ?_
  refine v_puti dX9_elect_58 fr_X9_215 (by assumption) (by decide) rfl ?_
  refine v_aload_n dX9_elect_61 rfl ?_
  refine v_getr dX9_elect_62 fr_X9_53 (by assumption) (by decide) rfl (by assumption) ?_
  refine v_aload_n dX9_elect_65 rfl ?_
  refine v_geti dX9_elect_66 fr_X9_212 (by assumption) (by decide) rfl ?_
  rw [up_nk (by omega), up_ne (by omega), up_ne (by omega), up_ne (by omega), up_ne (by omega), up_ne (by omega), lkM_f (by omega) (by omega), hrr]
  refine v_dup2 dX9_elect_69 rfl rfl ?_
  refine v_iald (j := r) dX9_elect_70 (by assumption) rfl (by omega) ?_
  rw [up_ne (by omega), up_ne (by omega), up_ne (by omega), up_ne (by omega), up_ne (by omega), up_ne (by omega), lkM_ne (by omega), hu]
  refine v_iconst dX9_elect_71 ?_
  refine v_iload_n dX9_elect_72 rfl ?_
  refine v_ishl (z := ((2 ^ q : Nat) : Int)) dX9_elect_73 (shl_b q hq8) ?_
  refine v_ior (z := ((u ||| 2 ^ q : Nat) : Int)) dX9_elect_74 (or_b _ hu8 q hq8) ?_
  refine v_iast (j := r) dX9_elect_75 (by assumption) rfl (by omega) ?_
  exact v_vE dX9_elect_76 rfl (by unfold emM; rw [hw, hu]; rfl)

def psF (I : II) (k : Nat) : Int := if I 509 0 ≤ k ∨ ¬ btI (I 509 2).toNat k = 0 then 3 else 0
def pqS (I : II) (k : Nat) (J : II) : II := up (up (up (up (up (up (up J 525 k (psF I k)) 526 k (-1)) 527 k (-1)) 528 k 0) 529 k (-1)) 531 k 0) 532 k 0
def prI (I : II) : II := up (up (up (up I 508 15 0) 508 32 0) 508 39 0) 508 40 0
def prA (I : II) : II := foldUp (pqS I) (prI I) 8
def ppS (p : Nat) (J : II) : II := goM (up J 535 p 10000) p (-1) (-1)
def prM (I : II) : II := foldUp ppS (prA I) (I 509 1).toNat
theorem pq_s {I : II} : ∀ k, foldUp (pqS I) (prI I) k 509 = I 509
  | 0 => by
    show prI I 509 = I 509
    unfold prI
    rw [up_ne (by omega), up_ne (by omega), up_ne (by omega), up_ne (by omega)]
  | k + 1 => by
    show pqS I k _ 509 = I 509
    unfold pqS
    rw [up_ne (by omega), up_ne (by omega), up_ne (by omega), up_ne (by omega), up_ne (by omega), up_ne (by omega), up_ne (by omega)]
    exact pq_s k
theorem goM_e {I : II} {p x : Nat} {b r : Int} (h1 : x ≠ 534) (h2 : x ≠ 536) (h3 : x ≠ 533) (h4 : x ≠ 531) (h5 : x ≠ 508) : goM I p b r x = I x := by
  unfold goM
  split
  · rw [up_ne h4, up_ne h3, up_ne h2, up_ne h1]
  · rw [up_ne h5, up_ne h3, up_ne h2, up_ne h1]
theorem pp_s {I : II} : ∀ p, foldUp ppS (prA I) p 509 = I 509
  | 0 => pq_s 8
  | p + 1 => by
    show ppS p _ 509 = I 509
    unfold ppS
    rw [goM_e (by omega) (by omega) (by omega) (by omega) (by omega), up_ne (by omega)]
    exact pp_s p
theorem ps_rng (I : II) (k : Nat) : psF I k = 0 ∨ psF I k = 3 := by unfold psF; split <;> omega
theorem rg_pr {I : II} (h : RG I) : RG (prA I) := by
  refine rg_fold (rg_up (rg_up (rg_up (rg_up h (by omega)) (by omega)) (by omega)) (by omega)) (fun k J hJ => ?_) 8
  have := ps_rng I k
  exact rg_up (rg_up (rg_up (rg_up (rg_up (rg_up (rg_up hJ (by omega)) (by omega)) (by omega)) (by omega)) (by omega)) (by omega)) (by omega)
theorem rg_go {I : II} {p : Nat} {b r : Int} (h : RG I) (hW : WfM I) (hp : p < 25) (hb : -1 ≤ b ∧ b ≤ 8) (hr : -2147483648 ≤ r ∧ r < 2147483648) : RG (goM I p b r) := by
  have w := hW.2.2.2.2.1 p hp
  have hk : goK I p b ≤ 17 := by
    have := (nxM_le I p ((mLn I p).toNat - (b + 1).toNat) (b + 1).toNat).2
    unfold goK
    omega
  unfold goM
  split
  · exact rg_up (rg_up (rg_up (rg_up h (by omega)) hr) (h _ _)) (wr_rng _)
  · exact rg_up (rg_up (rg_up (rg_up h (by omega)) hr) (by omega)) (wr_rng _)
theorem rg_pp {I : II} (h : RG I) (hW : WfM I) : ∀ p, p ≤ 25 → RG (foldUp ppS (prA I) p)
  | 0, _ => rg_pr h
  | p + 1, hp => rg_go (rg_up (rg_pp h hW p (by omega)) (by omega)) (WfM_of hW ((up_ne (by omega)).trans (pp_s p))) (by omega) (by omega) (by omega)

set_option maxRecDepth 100000 in
set_option maxHeartbeats 4000000 in
theorem k_prepare {l : Launch} {g : GV} {S : SS} {I : II} {X : XX} (hfl : l.stackTraces = false) (hM : isMod S) (hW : WfM I) (hRG : RG I) : CE l g mX9_prepare 3 [.ref 508] S I X none (prM I) := by
  obtain ⟨m0, ⟨p509, q509⟩, ⟨p510, q510⟩, ⟨p511, q511⟩, ⟨p512, q512⟩, ⟨p513, q513⟩, ⟨p514, q514⟩, ⟨p515, q515⟩, ⟨p516, q516⟩, ⟨p517, q517⟩, ⟨p518, q518⟩, ⟨p519, q519⟩, ⟨p520, q520⟩, ⟨p521, q521⟩, ⟨p522, q522⟩, ⟨p523, q523⟩, ⟨p524, q524⟩, ⟨p525, q525⟩, ⟨p526, q526⟩, ⟨p527, q527⟩, ⟨p528, q528⟩, ⟨p529, q529⟩, ⟨p530, q530⟩, ⟨p531, q531⟩, ⟨p532, q532⟩, ⟨p533, q533⟩, ⟨p534, q534⟩, ⟨p535, q535⟩, ⟨p536, q536⟩, ⟨p537, q537⟩, ⟨p538, q538⟩, ⟨p539, q539⟩, ⟨p540, q540⟩⟩ := id hM
  obtain ⟨w0, w1, w2, w3, w4, w5, w6, w7, w8, w9, w10⟩ := id hW
  obtain ⟨n, hn⟩ := Int.eq_ofNat_of_zero_le w1.1
  have L : ∀ k : Nat, k ≤ 8 → V l g mX9_prepare 3 (Zm g (QE none S (prM I) X)) 0 0 22 [some (.ref 508), some (.int (ii (k : Int)))] [] S (foldUp (pqS I) (prI I) k) X := by
    refine loop_up fun k hk ih => ?_
    refine v_iload_n dX9_prepare_22 rfl ?_
    refine v_bipush dX9_prepare_23 (by decide) ?_
    refine v_ic_ge (tgt := 105) dX9_prepare_25 (by decide) (fun h25 => ?_) (fun h25 => ?_)
    · obtain rfl : k = 8 := by omega
      refine v_iconst dX9_prepare_105 ?_
      refine v_istn1 dX9_prepare_106 rfl ?_
      have L2 : ∀ p : Nat, p ≤ n → V l g mX9_prepare 3 (Zm g (QE none S (prM I) X)) 0 0 107 [some (.ref 508), some (.int (ii (p : Int)))] [] S (foldUp ppS (prA I) p) X := by
        refine loop_up fun p hp jh => ?_
        refine v_iload_n dX9_prepare_107 rfl ?_
        refine v_aload_n dX9_prepare_108 rfl ?_
        refine v_getr dX9_prepare_109 fr_X9_9 (by assumption) (by decide) rfl (by assumption) ?_
        refine v_iconst dX9_prepare_112 ?_
        refine v_iald (j := 1) dX9_prepare_113 (by assumption) rfl (by omega) ?_
        rw [pp_s p, hn]
        refine v_ic_ge (tgt := 139) dX9_prepare_114 (by decide) (fun h114 => ?_) (fun h114 => ?_)
        · obtain rfl : p = n := by omega
          exact v_vE dX9_prepare_139 rfl (by unfold prM; rw [hn]; rfl)
        · refine v_aload_n dX9_prepare_117 rfl ?_
          refine v_getr dX9_prepare_118 fr_X9_93 (by assumption) (by decide) rfl (by assumption) ?_
          refine v_iload_n dX9_prepare_121 rfl ?_
          refine v_sipush dX9_prepare_122 (by decide) ?_
          refine v_iast (j := p) dX9_prepare_125 (by assumption) (by first | rfl | omega) (by omega) ?_
          refine v_aload_n dX9_prepare_126 rfl ?_
          refine v_iload_n dX9_prepare_127 rfl ?_
          refine v_iconst dX9_prepare_128 ?_
          refine v_iconst dX9_prepare_129 ?_
          refine v_cV3n dX9_prepare_130 lk_X9_221 (by assumption) (by decide) rfl (k_goOn hfl hM (WfM_of hW ((up_ne (by omega)).trans (pp_s p))) (rg_up (rg_pp hRG hW p (by omega)) (by omega)) (by omega) (by omega)) (by decide) (Nat.le_of_ble_eq_true rfl) ?_ rfl
          refine v_iinc1 dX9_prepare_133 rfl ?_
          refine v_goto (tgt := 107) dX9_prepare_136 (by decide) ?_
          exact jh (p + 1) (by omega) (by omega)
      exact L2 0 (Nat.zero_le _)
    · have ec : foldUp (pqS I) (prI I) k 509 = I 509 := pq_s k
      have h01 := btI_01 (I 509 2).toNat k
      have ps : psF I k = if I 509 0 ≤ k ∨ ¬ btI (I 509 2).toNat k = 0 then 3 else 0 := rfl
      refine v_aload_n dX9_prepare_28 rfl ?_
      refine v_getr dX9_prepare_29 fr_X9_62 (by assumption) (by decide) rfl (by assumption) ?_
      refine v_iload_n dX9_prepare_32 rfl ?_
      refine v_iload_n dX9_prepare_33 rfl ?_
      refine v_aload_n dX9_prepare_34 rfl ?_
      refine v_getr dX9_prepare_35 fr_X9_9 (by assumption) (by decide) rfl (by assumption) ?_
      refine v_iconst dX9_prepare_38 ?_
      refine v_iald (j := 0) dX9_prepare_39 (by assumption) rfl (by omega) ?_
      rw [ec]
      refine v_ic_ge (tgt := 51) dX9_prepare_40 (by decide) (fun h40 => ?_) (fun h40 => ?_)
      · refine v_iconst dX9_prepare_51 ?_
        refine v_goto (tgt := 56) dX9_prepare_52 (by decide) ?_
        refine v_iast (j := k) dX9_prepare_56 (by assumption) (by first | rfl | omega) (by omega) ?_
        refine v_aload_n dX9_prepare_57 rfl ?_
        refine v_getr dX9_prepare_58 fr_X9_65 (by assumption) (by decide) rfl (by assumption) ?_
        refine v_iload_n dX9_prepare_61 rfl ?_
        refine v_iconst dX9_prepare_62 ?_
        refine v_iast (j := k) dX9_prepare_63 (by assumption) (by first | rfl | omega) (by omega) ?_
        refine v_aload_n dX9_prepare_64 rfl ?_
        refine v_getr dX9_prepare_65 fr_X9_68 (by assumption) (by decide) rfl (by assumption) ?_
        refine v_iload_n dX9_prepare_68 rfl ?_
        refine v_iconst dX9_prepare_69 ?_
        refine v_iast (j := k) dX9_prepare_70 (by assumption) (by first | rfl | omega) (by omega) ?_
        refine v_aload_n dX9_prepare_71 rfl ?_
        refine v_getr dX9_prepare_72 fr_X9_71 (by assumption) (by decide) rfl (by assumption) ?_
        refine v_iload_n dX9_prepare_75 rfl ?_
        refine v_iconst dX9_prepare_76 ?_
        refine v_iast (j := k) dX9_prepare_77 (by assumption) (by first | rfl | omega) (by omega) ?_
        refine v_aload_n dX9_prepare_78 rfl ?_
        refine v_getr dX9_prepare_79 fr_X9_74 (by assumption) (by decide) rfl (by assumption) ?_
        refine v_iload_n dX9_prepare_82 rfl ?_
        refine v_iconst dX9_prepare_83 ?_
        refine v_iast (j := k) dX9_prepare_84 (by assumption) (by first | rfl | omega) (by omega) ?_
        refine v_aload_n dX9_prepare_85 rfl ?_
        refine v_getr dX9_prepare_86 fr_X9_80 (by assumption) (by decide) rfl (by assumption) ?_
        refine v_iload_n dX9_prepare_89 rfl ?_
        refine v_iconst dX9_prepare_90 ?_
        refine v_iast (j := k) dX9_prepare_91 (by assumption) (by first | rfl | omega) (by omega) ?_
        refine v_aload_n dX9_prepare_92 rfl ?_
        refine v_getr dX9_prepare_93 fr_X9_83 (by assumption) (by decide) rfl (by assumption) ?_
        refine v_iload_n dX9_prepare_96 rfl ?_
        refine v_iconst dX9_prepare_97 ?_
        refine v_bast (j := k) dX9_prepare_98 (by assumption) rfl (by omega) (Or.inl rfl) ?_
        refine v_iinc1 dX9_prepare_99 rfl ?_
        refine v_goto (tgt := 22) dX9_prepare_102 (by decide) ?_
        have q9 := ih (k + 1) (by omega) (by omega)
        rw [show foldUp (pqS I) (prI I) (k + 1) = pqS I k (foldUp (pqS I) (prI I) k) from rfl] at q9
        unfold pqS at q9
        first
          | (rw [show psF I k = 3 by rw [ps]; exact if_pos (by omega)] at q9; exact q9)
          | (rw [show psF I k = 0 by rw [ps]; exact if_neg (by omega)] at q9; exact q9)
      · refine v_aload_n dX9_prepare_43 rfl ?_
        refine v_iload_n dX9_prepare_44 rfl ?_
        refine v_cV1 dX9_prepare_45 lk_X9_196 (by assumption) (by decide) rfl (k_isGone hfl hM (WfM_of hW (pq_s k)) (by omega)) (by decide) (Nat.le_of_ble_eq_true rfl) ?_ rfl
        rw [ec]
        refine v_if_eq (tgt := 55) dX9_prepare_48 (by decide) (fun h48 => ?_) (fun h48 => ?_)
        · refine v_iconst dX9_prepare_55 ?_
          refine v_iast (j := k) dX9_prepare_56 (by assumption) (by first | rfl | omega) (by omega) ?_
          refine v_aload_n dX9_prepare_57 rfl ?_
          refine v_getr dX9_prepare_58 fr_X9_65 (by assumption) (by decide) rfl (by assumption) ?_
          refine v_iload_n dX9_prepare_61 rfl ?_
          refine v_iconst dX9_prepare_62 ?_
          refine v_iast (j := k) dX9_prepare_63 (by assumption) (by first | rfl | omega) (by omega) ?_
          refine v_aload_n dX9_prepare_64 rfl ?_
          refine v_getr dX9_prepare_65 fr_X9_68 (by assumption) (by decide) rfl (by assumption) ?_
          refine v_iload_n dX9_prepare_68 rfl ?_
          refine v_iconst dX9_prepare_69 ?_
          refine v_iast (j := k) dX9_prepare_70 (by assumption) (by first | rfl | omega) (by omega) ?_
          refine v_aload_n dX9_prepare_71 rfl ?_
          refine v_getr dX9_prepare_72 fr_X9_71 (by assumption) (by decide) rfl (by assumption) ?_
          refine v_iload_n dX9_prepare_75 rfl ?_
          refine v_iconst dX9_prepare_76 ?_
          refine v_iast (j := k) dX9_prepare_77 (by assumption) (by first | rfl | omega) (by omega) ?_
          refine v_aload_n dX9_prepare_78 rfl ?_
          refine v_getr dX9_prepare_79 fr_X9_74 (by assumption) (by decide) rfl (by assumption) ?_
          refine v_iload_n dX9_prepare_82 rfl ?_
          refine v_iconst dX9_prepare_83 ?_
          refine v_iast (j := k) dX9_prepare_84 (by assumption) (by first | rfl | omega) (by omega) ?_
          refine v_aload_n dX9_prepare_85 rfl ?_
          refine v_getr dX9_prepare_86 fr_X9_80 (by assumption) (by decide) rfl (by assumption) ?_
          refine v_iload_n dX9_prepare_89 rfl ?_
          refine v_iconst dX9_prepare_90 ?_
          refine v_iast (j := k) dX9_prepare_91 (by assumption) (by first | rfl | omega) (by omega) ?_
          refine v_aload_n dX9_prepare_92 rfl ?_
          refine v_getr dX9_prepare_93 fr_X9_83 (by assumption) (by decide) rfl (by assumption) ?_
          refine v_iload_n dX9_prepare_96 rfl ?_
          refine v_iconst dX9_prepare_97 ?_
          refine v_bast (j := k) dX9_prepare_98 (by assumption) rfl (by omega) (Or.inl rfl) ?_
          refine v_iinc1 dX9_prepare_99 rfl ?_
          refine v_goto (tgt := 22) dX9_prepare_102 (by decide) ?_
          have q9 := ih (k + 1) (by omega) (by omega)
          rw [show foldUp (pqS I) (prI I) (k + 1) = pqS I k (foldUp (pqS I) (prI I) k) from rfl] at q9
          unfold pqS at q9
          first
            | (rw [show psF I k = 3 by rw [ps]; exact if_pos (by omega)] at q9; exact q9)
            | (rw [show psF I k = 0 by rw [ps]; exact if_neg (by omega)] at q9; exact q9)
        · refine v_iconst dX9_prepare_51 ?_
          refine v_goto (tgt := 56) dX9_prepare_52 (by decide) ?_
          refine v_iast (j := k) dX9_prepare_56 (by assumption) (by first | rfl | omega) (by omega) ?_
          refine v_aload_n dX9_prepare_57 rfl ?_
          refine v_getr dX9_prepare_58 fr_X9_65 (by assumption) (by decide) rfl (by assumption) ?_
          refine v_iload_n dX9_prepare_61 rfl ?_
          refine v_iconst dX9_prepare_62 ?_
          refine v_iast (j := k) dX9_prepare_63 (by assumption) (by first | rfl | omega) (by omega) ?_
          refine v_aload_n dX9_prepare_64 rfl ?_
          refine v_getr dX9_prepare_65 fr_X9_68 (by assumption) (by decide) rfl (by assumption) ?_
          refine v_iload_n dX9_prepare_68 rfl ?_
          refine v_iconst dX9_prepare_69 ?_
          refine v_iast (j := k) dX9_prepare_70 (by assumption) (by first | rfl | omega) (by omega) ?_
          refine v_aload_n dX9_prepare_71 rfl ?_
          refine v_getr dX9_prepare_72 fr_X9_71 (by assumption) (by decide) rfl (by assumption) ?_
          refine v_iload_n dX9_prepare_75 rfl ?_
          refine v_iconst dX9_prepare_76 ?_
          refine v_iast (j := k) dX9_prepare_77 (by assumption) (by first | rfl | omega) (by omega) ?_
          refine v_aload_n dX9_prepare_78 rfl ?_
          refine v_getr dX9_prepare_79 fr_X9_74 (by assumption) (by decide) rfl (by assumption) ?_
          refine v_iload_n dX9_prepare_82 rfl ?_
          refine v_iconst dX9_prepare_83 ?_
          refine v_iast (j := k) dX9_prepare_84 (by assumption) (by first | rfl | omega) (by omega) ?_
          refine v_aload_n dX9_prepare_85 rfl ?_
          refine v_getr dX9_prepare_86 fr_X9_80 (by assumption) (by decide) rfl (by assumption) ?_
          refine v_iload_n dX9_prepare_89 rfl ?_
          refine v_iconst dX9_prepare_90 ?_
          refine v_iast (j := k) dX9_prepare_91 (by assumption) (by first | rfl | omega) (by omega) ?_
          refine v_aload_n dX9_prepare_92 rfl ?_
          refine v_getr dX9_prepare_93 fr_X9_83 (by assumption) (by decide) rfl (by assumption) ?_
          refine v_iload_n dX9_prepare_96 rfl ?_
          refine v_iconst dX9_prepare_97 ?_
          refine v_bast (j := k) dX9_prepare_98 (by assumption) rfl (by omega) (Or.inl rfl) ?_
          refine v_iinc1 dX9_prepare_99 rfl ?_
          refine v_goto (tgt := 22) dX9_prepare_102 (by decide) ?_
          have q9 := ih (k + 1) (by omega) (by omega)
          rw [show foldUp (pqS I) (prI I) (k + 1) = pqS I k (foldUp (pqS I) (prI I) k) from rfl] at q9
          unfold pqS at q9
          first
            | (rw [show psF I k = 3 by rw [ps]; exact if_pos (by omega)] at q9; exact q9)
            | (rw [show psF I k = 0 by rw [ps]; exact if_neg (by omega)] at q9; exact q9)
  refine v_startE hfl rfl (by decide) (Nat.le_of_ble_eq_true rfl) (ls := [some (.ref 508), none]) rfl ?_
  refine v_aload_n dX9_prepare_0 rfl ?_
  refine v_iconst dX9_prepare_1 ?_
  refine v_puti dX9_prepare_2 fr_X9_212 (by assumption) (by decide) rfl ?_
  refine v_aload_n dX9_prepare_5 rfl ?_
  refine v_iconst dX9_prepare_6 ?_
  refine v_puti dX9_prepare_7 fr_X9_215 (by assumption) (by decide) rfl ?_
  refine v_aload_n dX9_prepare_10 rfl ?_
  refine v_iconst dX9_prepare_11 ?_
  refine v_puti dX9_prepare_12 fr_X9_209 (by assumption) (by decide) rfl ?_
  refine v_aload_n dX9_prepare_15 rfl ?_
  refine v_iconst dX9_prepare_16 ?_
  refine v_puti dX9_prepare_17 fr_X9_218 (by assumption) (by decide) rfl ?_
  refine v_iconst dX9_prepare_20 ?_
  refine v_istn1 dX9_prepare_21 rfl ?_
  exact L 0 (Nat.zero_le _)
