set_option maxRecDepth 100000 in
set_option maxHeartbeats 4000000 in
theorem k_note {l : Launch} {g : GV} {S : SS} {I : II} {X : XX} {r : Nat} (hfl : l.stackTraces = false) (hM : isMod S) (hW : WfM I) (hrr : I 508 15 = (r : Int)) (hr : r < 9) : CE l g mX9_note 4 [.ref 508] S I X none (noM I r) := by
  obtain ⟨m0, ⟨p509, q509⟩, ⟨p510, q510⟩, ⟨p511, q511⟩, ⟨p512, q512⟩, ⟨p513, q513⟩, ⟨p514, q514⟩, ⟨p515, q515⟩, ⟨p516, q516⟩, ⟨p517, q517⟩, ⟨p518, q518⟩, ⟨p519, q519⟩, ⟨p520, q520⟩, ⟨p521, q521⟩, ⟨p522, q522⟩, ⟨p523, q523⟩, ⟨p524, q524⟩, ⟨p525, q525⟩, ⟨p526, q526⟩, ⟨p527, q527⟩, ⟨p528, q528⟩, ⟨p529, q529⟩, ⟨p530, q530⟩, ⟨p531, q531⟩, ⟨p532, q532⟩, ⟨p533, q533⟩, ⟨p534, q534⟩, ⟨p535, q535⟩, ⟨p536, q536⟩, ⟨p537, q537⟩, ⟨p538, q538⟩, ⟨p539, q539⟩, ⟨p540, q540⟩⟩ := id hM
  refine v_startE hfl rfl (by decide) (Nat.le_of_ble_eq_true rfl) (ls := [some (.ref 508)]) rfl ?_
  refine v_aload_n dX9_note_0 rfl ?_
  refine v_getr dX9_note_1 fr_X9_35 (by assumption) (by decide) rfl (by assumption) ?_
  refine v_aload_n dX9_note_4 rfl ?_
  refine v_geti dX9_note_5 fr_X9_212 (by assumption) (by decide) rfl ?_
  rw [hrr]
  refine v_aload_n dX9_note_8 rfl ?_
  refine v_cV0 dX9_note_9 lk_X9_228 (by assumption) (by decide) rfl (k_quota hfl hM hW) (by decide) (Nat.le_of_ble_eq_true rfl) ?_ rfl
  refine v_wr ?_
  refine v_iast (j := r) dX9_note_12 (by assumption) (by first | rfl | omega) (by omega) ?_
  refine v_aload_n dX9_note_13 rfl ?_
  refine v_getr dX9_note_14 fr_X9_38 (by assumption) (by decide) rfl (by assumption) ?_
  refine v_aload_n dX9_note_17 rfl ?_
  refine v_geti dX9_note_18 fr_X9_212 (by assumption) (by decide) rfl ?_
  rw [up_ne (by omega), hrr]
  refine v_aload_n dX9_note_21 rfl ?_
  refine v_geti dX9_note_22 fr_X9_209 (by assumption) (by decide) rfl ?_
  rw [up_ne (by omega)]
  refine v_iast (j := r) dX9_note_25 (by assumption) (by first | rfl | omega) (by omega) ?_
  refine v_aload_n dX9_note_26 rfl ?_
  refine v_getr dX9_note_27 fr_X9_41 (by assumption) (by decide) rfl (by assumption) ?_
  refine v_aload_n dX9_note_30 rfl ?_
  refine v_geti dX9_note_31 fr_X9_212 (by assumption) (by decide) rfl ?_
  rw [up_ne (by omega), up_ne (by omega), hrr]
  refine v_aload_n dX9_note_34 rfl ?_
  refine v_geti dX9_note_35 fr_X9_218 (by assumption) (by decide) rfl ?_
  rw [up_ne (by omega), up_ne (by omega)]
  refine v_iast (j := r) dX9_note_38 (by assumption) (by first | rfl | omega) (by omega) ?_
  refine v_aload_n dX9_note_39 rfl ?_
  refine v_getr dX9_note_40 fr_X9_44 (by assumption) (by decide) rfl (by assumption) ?_
  refine v_aload_n dX9_note_43 rfl ?_
  refine v_geti dX9_note_44 fr_X9_212 (by assumption) (by decide) rfl ?_
  rw [up_ne (by omega), up_ne (by omega), up_ne (by omega), hrr]
  refine v_iconst dX9_note_47 ?_
  refine v_iast (j := r) dX9_note_48 (by assumption) (by first | rfl | omega) (by omega) ?_
  refine v_aload_n dX9_note_49 rfl ?_
  refine v_getr dX9_note_50 fr_X9_47 (by assumption) (by decide) rfl (by assumption) ?_
  refine v_aload_n dX9_note_53 rfl ?_
  refine v_geti dX9_note_54 fr_X9_212 (by assumption) (by decide) rfl ?_
  rw [up_ne (by omega), up_ne (by omega), up_ne (by omega), up_ne (by omega), hrr]
  refine v_iconst dX9_note_57 ?_
  refine v_iast (j := r) dX9_note_58 (by assumption) (by first | rfl | omega) (by omega) ?_
  refine v_aload_n dX9_note_59 rfl ?_
  refine v_getr dX9_note_60 fr_X9_50 (by assumption) (by decide) rfl (by assumption) ?_
  refine v_aload_n dX9_note_63 rfl ?_
  refine v_geti dX9_note_64 fr_X9_212 (by assumption) (by decide) rfl ?_
  rw [up_ne (by omega), up_ne (by omega), up_ne (by omega), up_ne (by omega), up_ne (by omega), hrr]
  refine v_iconst dX9_note_67 ?_
  refine v_iast (j := r) dX9_note_68 (by assumption) (by first | rfl | omega) (by omega) ?_
  refine v_aload_n dX9_note_69 rfl ?_
  refine v_getr dX9_note_70 fr_X9_53 (by assumption) (by decide) rfl (by assumption) ?_
  refine v_aload_n dX9_note_73 rfl ?_
  refine v_geti dX9_note_74 fr_X9_212 (by assumption) (by decide) rfl ?_
  rw [up_ne (by omega), up_ne (by omega), up_ne (by omega), up_ne (by omega), up_ne (by omega), up_ne (by omega), hrr]
  refine v_iconst dX9_note_77 ?_
  refine v_iast (j := r) dX9_note_78 (by assumption) (by first | rfl | omega) (by omega) ?_
  refine v_aload_n dX9_note_79 rfl ?_
  refine v_getr dX9_note_80 fr_X9_80 (by assumption) (by decide) rfl (by assumption) ?_
  refine v_iconst dX9_note_83 ?_
  refine v_aload_n dX9_note_84 rfl ?_
  refine v_getr dX9_note_85 fr_X9_32 (by assumption) (by decide) rfl (by assumption) ?_
  refine v_bipush dX9_note_88 (by decide) ?_
  refine v_aload_n dX9_note_90 rfl ?_
  rw [show up (up (up (up (up (up (up I 516 r (wr (qmF I))) 517 r (I 508 39)) 518 r (I 508 40)) 519 r 0) 520 r (-1)) 521 r 0) 522 r 0 = noI I r from rfl]
  refine v_geti dX9_note_91 fr_X9_212 (by assumption) (by decide) rfl ?_
  rw [show noI I r 508 15 = (r : Int) by unfold noI; rw [up_ne (by omega), up_ne (by omega), up_ne (by omega), up_ne (by omega), up_ne (by omega), up_ne (by omega), up_ne (by omega)]; exact hrr]
  refine v_imul dX9_note_94 ?_
  refine v_bipush dX9_note_95 (by decide) ?_
  refine v_copy (sp := 0) (dq := 8 * r) (n := 8) dX9_note_97 cy_X9_136 (by assumption) (by assumption) (by first | rfl | omega) (by first | rfl | omega) (by first | rfl | omega) (by omega) (by omega) (by decide) (Nat.le_of_ble_eq_true rfl) ?_
  refine v_aload_n dX9_note_100 rfl ?_
  refine v_getr dX9_note_101 fr_X9_87 (by assumption) (by decide) rfl (by assumption) ?_
  refine v_iconst dX9_note_104 ?_
  refine v_aload_n dX9_note_105 rfl ?_
  refine v_getr dX9_note_106 fr_X9_56 (by assumption) (by decide) rfl (by assumption) ?_
  refine v_bipush dX9_note_109 (by decide) ?_
  refine v_aload_n dX9_note_111 rfl ?_
  refine v_geti dX9_note_112 fr_X9_212 (by assumption) (by decide) rfl ?_
  rw [cpy_ne (by omega)]
  rw [show noI I r 508 15 = (r : Int) by unfold noI; rw [up_ne (by omega), up_ne (by omega), up_ne (by omega), up_ne (by omega), up_ne (by omega), up_ne (by omega), up_ne (by omega)]; exact hrr]
  refine v_imul dX9_note_115 ?_
  refine v_bipush dX9_note_116 (by decide) ?_
  refine v_copy (sp := 0) (dq := 25 * r) (n := 25) dX9_note_118 cy_X9_136 (by assumption) (by assumption) (by first | rfl | omega) (by first | rfl | omega) (by first | rfl | omega) (by omega) (by omega) (by decide) (Nat.le_of_ble_eq_true rfl) ?_
  refine v_aload_n dX9_note_121 rfl ?_
  refine v_getr dX9_note_122 fr_X9_93 (by assumption) (by decide) rfl (by assumption) ?_
  refine v_iconst dX9_note_125 ?_
  refine v_aload_n dX9_note_126 rfl ?_
  refine v_getr dX9_note_127 fr_X9_59 (by assumption) (by decide) rfl (by assumption) ?_
  refine v_bipush dX9_note_130 (by decide) ?_
  refine v_aload_n dX9_note_132 rfl ?_
  refine v_geti dX9_note_133 fr_X9_212 (by assumption) (by decide) rfl ?_
  rw [cpy_ne (by omega), cpy_ne (by omega)]
  rw [show noI I r 508 15 = (r : Int) by unfold noI; rw [up_ne (by omega), up_ne (by omega), up_ne (by omega), up_ne (by omega), up_ne (by omega), up_ne (by omega), up_ne (by omega)]; exact hrr]
  refine v_imul dX9_note_136 ?_
  refine v_bipush dX9_note_137 (by decide) ?_
  refine v_copy (sp := 0) (dq := 25 * r) (n := 25) dX9_note_139 cy_X9_136 (by assumption) (by assumption) (by first | rfl | omega) (by first | rfl | omega) (by first | rfl | omega) (by omega) (by omega) (by decide) (Nat.le_of_ble_eq_true rfl) ?_
  exact v_vE dX9_note_142 rfl (rfl)
