/-! THE MODEL: notes, seats, beginnings -/
set_option maxRecDepth 100000 in
set_option maxHeartbeats 4000000 in
theorem k_happened {l : Launch} {g : GV} {S : SS} {I : II} {X : XX} {r : Nat} {a b m : Int} (hfl : l.stackTraces = false) (hM : isMod S) (hrr : I 508 15 = (r : Int)) (hr : r < 9) : CE l g mX9_happened 0 [.ref 508, .int (ii a), .int (ii b), .int (ii m)] S I X none (hnM I r a b m) := by
  obtain ⟨m0, ⟨p509, q509⟩, ⟨p510, q510⟩, ⟨p511, q511⟩, ⟨p512, q512⟩, ⟨p513, q513⟩, ⟨p514, q514⟩, ⟨p515, q515⟩, ⟨p516, q516⟩, ⟨p517, q517⟩, ⟨p518, q518⟩, ⟨p519, q519⟩, ⟨p520, q520⟩, ⟨p521, q521⟩, ⟨p522, q522⟩, ⟨p523, q523⟩, ⟨p524, q524⟩, ⟨p525, q525⟩, ⟨p526, q526⟩, ⟨p527, q527⟩, ⟨p528, q528⟩, ⟨p529, q529⟩, ⟨p530, q530⟩, ⟨p531, q531⟩, ⟨p532, q532⟩, ⟨p533, q533⟩, ⟨p534, q534⟩, ⟨p535, q535⟩, ⟨p536, q536⟩, ⟨p537, q537⟩, ⟨p538, q538⟩, ⟨p539, q539⟩, ⟨p540, q540⟩⟩ := id hM
  refine v_startE hfl rfl (by decide) (Nat.le_of_ble_eq_true rfl) (ls := [some (.ref 508), some (.int (ii a)), some (.int (ii b)), some (.int (ii m))]) rfl ?_
  refine v_aload_n dX9_happened_0 rfl ?_
  refine v_getr dX9_happened_1 fr_X9_44 (by assumption) (by decide) rfl (by assumption) ?_
  refine v_aload_n dX9_happened_4 rfl ?_
  refine v_geti dX9_happened_5 fr_X9_212 (by assumption) (by decide) rfl ?_
  rw [hrr]
  refine v_iload_n dX9_happened_8 rfl ?_
  refine v_iast (j := r) dX9_happened_9 (by assumption) (by first | rfl | omega) (by omega) ?_
  refine v_aload_n dX9_happened_10 rfl ?_
  refine v_getr dX9_happened_11 fr_X9_47 (by assumption) (by decide) rfl (by assumption) ?_
  refine v_aload_n dX9_happened_14 rfl ?_
  refine v_geti dX9_happened_15 fr_X9_212 (by assumption) (by decide) rfl ?_
  rw [up_ne (by omega), hrr]
  refine v_iload_n dX9_happened_18 rfl ?_
  refine v_iast (j := r) dX9_happened_19 (by assumption) (by first | rfl | omega) (by omega) ?_
  refine v_aload_n dX9_happened_20 rfl ?_
  refine v_getr dX9_happened_21 fr_X9_50 (by assumption) (by decide) rfl (by assumption) ?_
  refine v_aload_n dX9_happened_24 rfl ?_
  refine v_geti dX9_happened_25 fr_X9_212 (by assumption) (by decide) rfl ?_
  rw [up_ne (by omega), up_ne (by omega), hrr]
  refine v_iload_n dX9_happened_28 rfl ?_
  refine v_wr ?_
  refine v_iast (j := r) dX9_happened_29 (by assumption) (by first | rfl | omega) (by omega) ?_
  exact v_vE dX9_happened_30 rfl (rfl)

set_option maxRecDepth 100000 in
set_option maxHeartbeats 4000000 in
theorem k_quota {l : Launch} {g : GV} {S : SS} {I : II} {X : XX} (hfl : l.stackTraces = false) (hM : isMod S) (hW : WfM I) : CE l g mX9_quota 3 [.ref 508] S I X (some (.int (ii (qmF I)))) I := by
  obtain ⟨m0, ⟨p509, q509⟩, ⟨p510, q510⟩, ⟨p511, q511⟩, ⟨p512, q512⟩, ⟨p513, q513⟩, ⟨p514, q514⟩, ⟨p515, q515⟩, ⟨p516, q516⟩, ⟨p517, q517⟩, ⟨p518, q518⟩, ⟨p519, q519⟩, ⟨p520, q520⟩, ⟨p521, q521⟩, ⟨p522, q522⟩, ⟨p523, q523⟩, ⟨p524, q524⟩, ⟨p525, q525⟩, ⟨p526, q526⟩, ⟨p527, q527⟩, ⟨p528, q528⟩, ⟨p529, q529⟩, ⟨p530, q530⟩, ⟨p531, q531⟩, ⟨p532, q532⟩, ⟨p533, q533⟩, ⟨p534, q534⟩, ⟨p535, q535⟩, ⟨p536, q536⟩, ⟨p537, q537⟩, ⟨p538, q538⟩, ⟨p539, q539⟩, ⟨p540, q540⟩⟩ := id hM
  obtain ⟨w0, w1, w2, w3, w4, w5, w6, w7, w8, w9, w10⟩ := id hW
  refine v_startE hfl rfl (by decide) (Nat.le_of_ble_eq_true rfl) (ls := [some (.ref 508), none, none]) rfl ?_
  refine v_aload_n dX9_quota_0 rfl ?_
  refine v_cV0 dX9_quota_1 lk_X9_225 (by assumption) (by decide) rfl (k_papers hfl hM hW) (by decide) (Nat.le_of_ble_eq_true rfl) ?_ rfl
  refine v_istn1 dX9_quota_4 rfl ?_
  refine v_aload_n dX9_quota_5 rfl ?_
  refine v_getr dX9_quota_6 fr_X9_9 (by assumption) (by decide) rfl (by assumption) ?_
  refine v_bipush dX9_quota_9 (by decide) ?_
  refine v_iald (j := 6) dX9_quota_11 (by assumption) (by first | rfl | omega) (by omega) ?_
  refine v_istn2 dX9_quota_12 rfl ?_
  refine v_aload_n dX9_quota_13 rfl ?_
  refine v_getr dX9_quota_14 fr_X9_9 (by assumption) (by decide) rfl (by assumption) ?_
  refine v_iconst dX9_quota_17 ?_
  refine v_iald (j := 3) dX9_quota_18 (by assumption) (by first | rfl | omega) (by omega) ?_
  have hz4 : I 509 3 = 0 ∨ I 509 3 = 1 ∨ I 509 3 = 2 ∨ I 509 3 = 3 := by omega
  rcases hz4 with hz | hz | hz | hz
  · rw [hz]
    refine v_tabIn (off := 25) (tgt := 44) dX9_quota_19 (by omega) (by omega) rfl (by decide) ?_
    refine v_iload_n dX9_quota_44 rfl ?_
    refine v_iload_n dX9_quota_45 rfl ?_
    refine v_iconst dX9_quota_46 ?_
    refine v_iadd dX9_quota_47 ?_
    refine v_idiv dX9_quota_48 (ii_ne0 (by omega) (by omega)) (dvI_ii _ _) ?_
    refine v_iconst dX9_quota_49 ?_
    refine v_iadd dX9_quota_50 ?_
    refine v_sipush dX9_quota_51 (by decide) ?_
    refine v_imul dX9_quota_54 ?_
    exact v_iE dX9_quota_55 rfl (by unfold qmF; simp [hz]) (rfl)
  · rw [hz]
    refine v_tabIn (off := 37) (tgt := 56) dX9_quota_19 (by omega) (by omega) rfl (by decide) ?_
    refine v_iload_n dX9_quota_56 rfl ?_
    refine v_iload_n dX9_quota_57 rfl ?_
    refine v_iadd dX9_quota_58 ?_
    refine v_iconst dX9_quota_59 ?_
    refine v_isub dX9_quota_60 ?_
    refine v_iload_n dX9_quota_61 rfl ?_
    refine v_idiv dX9_quota_62 (ii_ne0 (by omega) (by omega)) (dvI_ii _ _) ?_
    refine v_sipush dX9_quota_63 (by decide) ?_
    refine v_imul dX9_quota_66 ?_
    exact v_iE dX9_quota_67 rfl (by unfold qmF; simp [hz]) (rfl)
  · rw [hz]
    refine v_tabIn (off := 49) (tgt := 68) dX9_quota_19 (by omega) (by omega) rfl (by decide) ?_
    refine v_iload_n dX9_quota_68 rfl ?_
    refine v_sipush dX9_quota_69 (by decide) ?_
    refine v_imul dX9_quota_72 ?_
    refine v_iload_n dX9_quota_73 rfl ?_
    refine v_iconst dX9_quota_74 ?_
    refine v_iadd dX9_quota_75 ?_
    refine v_idiv dX9_quota_76 (ii_ne0 (by omega) (by omega)) (dvI_ii _ _) ?_
    refine v_iconst dX9_quota_77 ?_
    refine v_iadd dX9_quota_78 ?_
    exact v_iE dX9_quota_79 rfl (by unfold qmF; simp [hz]) (rfl)
  · rw [hz]
    refine v_tabOut (tgt := 80) dX9_quota_19 (Or.inr (by omega)) (by decide) ?_
    refine v_iload_n dX9_quota_80 rfl ?_
    refine v_sipush dX9_quota_81 (by decide) ?_
    refine v_imul dX9_quota_84 ?_
    refine v_aload_n dX9_quota_85 rfl ?_
    refine v_geti dX9_quota_86 fr_X9_209 (by assumption) (by decide) rfl ?_
    refine v_isub dX9_quota_89 ?_
    refine v_aload_n dX9_quota_90 rfl ?_
    refine v_geti dX9_quota_91 fr_X9_218 (by assumption) (by decide) rfl ?_
    refine v_isub dX9_quota_94 ?_
    refine v_iload_n dX9_quota_95 rfl ?_
    refine v_iconst dX9_quota_96 ?_
    refine v_iadd dX9_quota_97 ?_
    refine v_idiv dX9_quota_98 (ii_ne0 (by omega) (by omega)) (dvI_ii _ _) ?_
    refine v_iconst dX9_quota_99 ?_
    refine v_iadd dX9_quota_100 ?_
    exact v_iE dX9_quota_101 rfl (by unfold qmF; simp [hz]) (rfl)
